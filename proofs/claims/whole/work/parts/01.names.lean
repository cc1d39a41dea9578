-- ===== PART A: goes FIRST, ahead of the names: the tables' words, and 'selects' of the private methods out of them =====
/-- a private method of a class that the tables say can be made, by its rows of tables_1 -/
def lw_okq (q : MethodName × Nat) : Prop := (q.1.cls ≠ "java/lang/invoke/MethodHandle" ∧ q.1.cls ≠ "java/lang/invoke/VarHandle") ∧ Cond.instantiable q.1.cls q.2 ∈ tables_1 ∧ Cond.privateMethod q.1 ∈ tables_1 ∧ Cond.instanceMethod q.1 ∈ tables_1
theorem lw_p0 : lw_okq (⟨"LoafMemory", "recordChange", "()V"⟩, 10) := ⟨⟨by decide +kernel, by decide +kernel⟩, List.mem_of_getElem? (i := 12) (by decide +kernel), List.mem_of_getElem? (i := 247) (by decide +kernel), List.mem_of_getElem? (i := 248) (by decide +kernel)⟩
theorem lw_p1 : lw_okq (⟨"LoafMemory", "dropOldestChange", "()V"⟩, 10) := ⟨⟨by decide +kernel, by decide +kernel⟩, List.mem_of_getElem? (i := 12) (by decide +kernel), List.mem_of_getElem? (i := 251) (by decide +kernel), List.mem_of_getElem? (i := 252) (by decide +kernel)⟩
theorem lw_p2 : lw_okq (⟨"LoafMemory$Baker", "begin", "(LLoafMemory$State;Z)V"⟩, 7) := ⟨⟨by decide +kernel, by decide +kernel⟩, List.mem_of_getElem? (i := 132) (by decide +kernel), List.mem_of_getElem? (i := 303) (by decide +kernel), List.mem_of_getElem? (i := 304) (by decide +kernel)⟩
theorem lw_p3 : lw_okq (⟨"LoafMemory$Baker", "loafValue", "(II)I"⟩, 7) := ⟨⟨by decide +kernel, by decide +kernel⟩, List.mem_of_getElem? (i := 132) (by decide +kernel), List.mem_of_getElem? (i := 310) (by decide +kernel), List.mem_of_getElem? (i := 311) (by decide +kernel)⟩
theorem lw_p4 : lw_okq (⟨"LoafMemory$Baker", "freshValue", "(ILLoafMemory$Recipe;)I"⟩, 7) := ⟨⟨by decide +kernel, by decide +kernel⟩, List.mem_of_getElem? (i := 132) (by decide +kernel), List.mem_of_getElem? (i := 314) (by decide +kernel), List.mem_of_getElem? (i := 315) (by decide +kernel)⟩
theorem lw_p5 : lw_okq (⟨"LoafMemory$Baker", "reckon", "(ILLoafMemory$Recipe;)I"⟩, 7) := ⟨⟨by decide +kernel, by decide +kernel⟩, List.mem_of_getElem? (i := 132) (by decide +kernel), List.mem_of_getElem? (i := 318) (by decide +kernel), List.mem_of_getElem? (i := 319) (by decide +kernel)⟩
theorem lw_p6 : lw_okq (⟨"LoafMemory$Baker", "lookedUp", "(ILLoafMemory$Memory;)I"⟩, 7) := ⟨⟨by decide +kernel, by decide +kernel⟩, List.mem_of_getElem? (i := 132) (by decide +kernel), List.mem_of_getElem? (i := 329) (by decide +kernel), List.mem_of_getElem? (i := 330) (by decide +kernel)⟩
theorem lw_p7 : lw_okq (⟨"LoafMemory$Baker", "valueNow", "(II)I"⟩, 7) := ⟨⟨by decide +kernel, by decide +kernel⟩, List.mem_of_getElem? (i := 132) (by decide +kernel), List.mem_of_getElem? (i := 338) (by decide +kernel), List.mem_of_getElem? (i := 339) (by decide +kernel)⟩
theorem lw_p8 : lw_okq (⟨"LoafMemory$Baker", "rememberedValue", "(ILLoafMemory$Recipe;)I"⟩, 7) := ⟨⟨by decide +kernel, by decide +kernel⟩, List.mem_of_getElem? (i := 132) (by decide +kernel), List.mem_of_getElem? (i := 350) (by decide +kernel), List.mem_of_getElem? (i := 351) (by decide +kernel)⟩
theorem lw_p9 : lw_okq (⟨"LoafMemory$Baker", "fittingMemory", "(I)I"⟩, 7) := ⟨⟨by decide +kernel, by decide +kernel⟩, List.mem_of_getElem? (i := 132) (by decide +kernel), List.mem_of_getElem? (i := 354) (by decide +kernel), List.mem_of_getElem? (i := 355) (by decide +kernel)⟩
theorem lw_p10 : lw_okq (⟨"LoafMemory$Baker", "isAsItWas", "(LLoafMemory$Memory;I)Z"⟩, 7) := ⟨⟨by decide +kernel, by decide +kernel⟩, List.mem_of_getElem? (i := 132) (by decide +kernel), List.mem_of_getElem? (i := 366) (by decide +kernel), List.mem_of_getElem? (i := 367) (by decide +kernel)⟩
theorem lw_p11 : lw_okq (⟨"LoafMemory", "isMemory", "(I)Z"⟩, 10) := ⟨⟨by decide +kernel, by decide +kernel⟩, List.mem_of_getElem? (i := 12) (by decide +kernel), List.mem_of_getElem? (i := 384) (by decide +kernel), List.mem_of_getElem? (i := 385) (by decide +kernel)⟩
theorem lw_p12 : lw_okq (⟨"LoafMemory$Reader", "begin", "()V"⟩, 10) := ⟨⟨by decide +kernel, by decide +kernel⟩, List.mem_of_getElem? (i := 165) (by decide +kernel), List.mem_of_getElem? (i := 409) (by decide +kernel), List.mem_of_getElem? (i := 410) (by decide +kernel)⟩
theorem lw_p13 : lw_okq (⟨"LoafMemory$Reader", "takes", "(I)Z"⟩, 10) := ⟨⟨by decide +kernel, by decide +kernel⟩, List.mem_of_getElem? (i := 165) (by decide +kernel), List.mem_of_getElem? (i := 413) (by decide +kernel), List.mem_of_getElem? (i := 414) (by decide +kernel)⟩
theorem lw_p14 : lw_okq (⟨"LoafMemory$Reader", "takesStart", "(I)Z"⟩, 10) := ⟨⟨by decide +kernel, by decide +kernel⟩, List.mem_of_getElem? (i := 165) (by decide +kernel), List.mem_of_getElem? (i := 417) (by decide +kernel), List.mem_of_getElem? (i := 418) (by decide +kernel)⟩
theorem lw_p15 : lw_okq (⟨"LoafMemory$Reader", "opens", "(I)Z"⟩, 10) := ⟨⟨by decide +kernel, by decide +kernel⟩, List.mem_of_getElem? (i := 165) (by decide +kernel), List.mem_of_getElem? (i := 421) (by decide +kernel), List.mem_of_getElem? (i := 422) (by decide +kernel)⟩
def lw_privs_1 : List (MethodName × Nat) := [(⟨"LoafMemory", "recordChange", "()V"⟩, 10), (⟨"LoafMemory", "dropOldestChange", "()V"⟩, 10), (⟨"LoafMemory$Baker", "begin", "(LLoafMemory$State;Z)V"⟩, 7), (⟨"LoafMemory$Baker", "loafValue", "(II)I"⟩, 7), (⟨"LoafMemory$Baker", "freshValue", "(ILLoafMemory$Recipe;)I"⟩, 7), (⟨"LoafMemory$Baker", "reckon", "(ILLoafMemory$Recipe;)I"⟩, 7), (⟨"LoafMemory$Baker", "lookedUp", "(ILLoafMemory$Memory;)I"⟩, 7), (⟨"LoafMemory$Baker", "valueNow", "(II)I"⟩, 7), (⟨"LoafMemory$Baker", "rememberedValue", "(ILLoafMemory$Recipe;)I"⟩, 7), (⟨"LoafMemory$Baker", "fittingMemory", "(I)I"⟩, 7), (⟨"LoafMemory$Baker", "isAsItWas", "(LLoafMemory$Memory;I)Z"⟩, 7), (⟨"LoafMemory", "isMemory", "(I)Z"⟩, 10), (⟨"LoafMemory$Reader", "begin", "()V"⟩, 10), (⟨"LoafMemory$Reader", "takes", "(I)Z"⟩, 10), (⟨"LoafMemory$Reader", "takesStart", "(I)Z"⟩, 10), (⟨"LoafMemory$Reader", "opens", "(I)Z"⟩, 10)]
theorem lw_r1 : ∀ q ∈ lw_privs_1, lw_okq q := List.forall_mem_cons.mpr ⟨lw_p0, List.forall_mem_cons.mpr ⟨lw_p1, List.forall_mem_cons.mpr ⟨lw_p2, List.forall_mem_cons.mpr ⟨lw_p3, List.forall_mem_cons.mpr ⟨lw_p4, List.forall_mem_cons.mpr ⟨lw_p5, List.forall_mem_cons.mpr ⟨lw_p6, List.forall_mem_cons.mpr ⟨lw_p7, List.forall_mem_cons.mpr ⟨lw_p8, List.forall_mem_cons.mpr ⟨lw_p9, List.forall_mem_cons.mpr ⟨lw_p10, List.forall_mem_cons.mpr ⟨lw_p11, List.forall_mem_cons.mpr ⟨lw_p12, List.forall_mem_cons.mpr ⟨lw_p13, List.forall_mem_cons.mpr ⟨lw_p14, List.forall_mem_cons.mpr ⟨lw_p15, fun _ h => absurd h List.not_mem_nil⟩⟩⟩⟩⟩⟩⟩⟩⟩⟩⟩⟩⟩⟩⟩⟩
theorem lw_p16 : lw_okq (⟨"LoafMemory$Reader", "addsPart", "(II)Z"⟩, 10) := ⟨⟨by decide +kernel, by decide +kernel⟩, List.mem_of_getElem? (i := 165) (by decide +kernel), List.mem_of_getElem? (i := 428) (by decide +kernel), List.mem_of_getElem? (i := 429) (by decide +kernel)⟩
theorem lw_p17 : lw_okq (⟨"LoafMemory$Reader", "adds", "(II)Z"⟩, 10) := ⟨⟨by decide +kernel, by decide +kernel⟩, List.mem_of_getElem? (i := 165) (by decide +kernel), List.mem_of_getElem? (i := 432) (by decide +kernel), List.mem_of_getElem? (i := 433) (by decide +kernel)⟩
theorem lw_p18 : lw_okq (⟨"LoafMemory$Reader", "takesLoafDigit", "(I)Z"⟩, 10) := ⟨⟨by decide +kernel, by decide +kernel⟩, List.mem_of_getElem? (i := 165) (by decide +kernel), List.mem_of_getElem? (i := 437) (by decide +kernel), List.mem_of_getElem? (i := 438) (by decide +kernel)⟩
theorem lw_p19 : lw_okq (⟨"LoafMemory$Reader", "takesNextDigit", "(I)Z"⟩, 10) := ⟨⟨by decide +kernel, by decide +kernel⟩, List.mem_of_getElem? (i := 165) (by decide +kernel), List.mem_of_getElem? (i := 441) (by decide +kernel), List.mem_of_getElem? (i := 442) (by decide +kernel)⟩
theorem lw_p20 : lw_okq (⟨"LoafMemory$Reader", "takesAfterRecipe", "(I)Z"⟩, 10) := ⟨⟨by decide +kernel, by decide +kernel⟩, List.mem_of_getElem? (i := 165) (by decide +kernel), List.mem_of_getElem? (i := 446) (by decide +kernel), List.mem_of_getElem? (i := 447) (by decide +kernel)⟩
theorem lw_p21 : lw_okq (⟨"LoafMemory$Reader", "takesOperation", "(I)Z"⟩, 10) := ⟨⟨by decide +kernel, by decide +kernel⟩, List.mem_of_getElem? (i := 165) (by decide +kernel), List.mem_of_getElem? (i := 450) (by decide +kernel), List.mem_of_getElem? (i := 451) (by decide +kernel)⟩
theorem lw_p22 : lw_okq (⟨"LoafMemory$Reader", "waitsNext", "(I)Z"⟩, 10) := ⟨⟨by decide +kernel, by decide +kernel⟩, List.mem_of_getElem? (i := 165) (by decide +kernel), List.mem_of_getElem? (i := 454) (by decide +kernel), List.mem_of_getElem? (i := 455) (by decide +kernel)⟩
theorem lw_p23 : lw_okq (⟨"LoafMemory$Reader", "takesQuestion", "()Z"⟩, 10) := ⟨⟨by decide +kernel, by decide +kernel⟩, List.mem_of_getElem? (i := 165) (by decide +kernel), List.mem_of_getElem? (i := 458) (by decide +kernel), List.mem_of_getElem? (i := 459) (by decide +kernel)⟩
theorem lw_p24 : lw_okq (⟨"LoafMemory$Reader", "takesColon", "()Z"⟩, 10) := ⟨⟨by decide +kernel, by decide +kernel⟩, List.mem_of_getElem? (i := 165) (by decide +kernel), List.mem_of_getElem? (i := 462) (by decide +kernel), List.mem_of_getElem? (i := 463) (by decide +kernel)⟩
theorem lw_p25 : lw_okq (⟨"LoafMemory$Reader", "closesEnd", "(I)V"⟩, 10) := ⟨⟨by decide +kernel, by decide +kernel⟩, List.mem_of_getElem? (i := 165) (by decide +kernel), List.mem_of_getElem? (i := 466) (by decide +kernel), List.mem_of_getElem? (i := 467) (by decide +kernel)⟩
theorem lw_p26 : lw_okq (⟨"LoafMemory$Reader", "takesBrace", "()Z"⟩, 10) := ⟨⟨by decide +kernel, by decide +kernel⟩, List.mem_of_getElem? (i := 165) (by decide +kernel), List.mem_of_getElem? (i := 470) (by decide +kernel), List.mem_of_getElem? (i := 471) (by decide +kernel)⟩
theorem lw_p27 : lw_okq (⟨"LoafMemory$Reader", "takesBracket", "()Z"⟩, 10) := ⟨⟨by decide +kernel, by decide +kernel⟩, List.mem_of_getElem? (i := 165) (by decide +kernel), List.mem_of_getElem? (i := 474) (by decide +kernel), List.mem_of_getElem? (i := 475) (by decide +kernel)⟩
theorem lw_p28 : lw_okq (⟨"LoafMemoryModel", "compile", "()I"⟩, 33) := ⟨⟨by decide +kernel, by decide +kernel⟩, List.mem_of_getElem? (i := 620) (by decide +kernel), List.mem_of_getElem? (i := 744) (by decide +kernel), List.mem_of_getElem? (i := 745) (by decide +kernel)⟩
theorem lw_p29 : lw_okq (⟨"LoafMemoryModel", "readSimple", "()Z"⟩, 33) := ⟨⟨by decide +kernel, by decide +kernel⟩, List.mem_of_getElem? (i := 620) (by decide +kernel), List.mem_of_getElem? (i := 748) (by decide +kernel), List.mem_of_getElem? (i := 749) (by decide +kernel)⟩
theorem lw_p30 : lw_okq (⟨"LoafMemoryModel", "sign", "()I"⟩, 33) := ⟨⟨by decide +kernel, by decide +kernel⟩, List.mem_of_getElem? (i := 620) (by decide +kernel), List.mem_of_getElem? (i := 752) (by decide +kernel), List.mem_of_getElem? (i := 753) (by decide +kernel)⟩
theorem lw_p31 : lw_okq (⟨"LoafMemoryModel", "expect", "(II)V"⟩, 33) := ⟨⟨by decide +kernel, by decide +kernel⟩, List.mem_of_getElem? (i := 620) (by decide +kernel), List.mem_of_getElem? (i := 756) (by decide +kernel), List.mem_of_getElem? (i := 757) (by decide +kernel)⟩
def lw_privs_2 : List (MethodName × Nat) := [(⟨"LoafMemory$Reader", "addsPart", "(II)Z"⟩, 10), (⟨"LoafMemory$Reader", "adds", "(II)Z"⟩, 10), (⟨"LoafMemory$Reader", "takesLoafDigit", "(I)Z"⟩, 10), (⟨"LoafMemory$Reader", "takesNextDigit", "(I)Z"⟩, 10), (⟨"LoafMemory$Reader", "takesAfterRecipe", "(I)Z"⟩, 10), (⟨"LoafMemory$Reader", "takesOperation", "(I)Z"⟩, 10), (⟨"LoafMemory$Reader", "waitsNext", "(I)Z"⟩, 10), (⟨"LoafMemory$Reader", "takesQuestion", "()Z"⟩, 10), (⟨"LoafMemory$Reader", "takesColon", "()Z"⟩, 10), (⟨"LoafMemory$Reader", "closesEnd", "(I)V"⟩, 10), (⟨"LoafMemory$Reader", "takesBrace", "()Z"⟩, 10), (⟨"LoafMemory$Reader", "takesBracket", "()Z"⟩, 10), (⟨"LoafMemoryModel", "compile", "()I"⟩, 33), (⟨"LoafMemoryModel", "readSimple", "()Z"⟩, 33), (⟨"LoafMemoryModel", "sign", "()I"⟩, 33), (⟨"LoafMemoryModel", "expect", "(II)V"⟩, 33)]
theorem lw_r2 : ∀ q ∈ lw_privs_2, lw_okq q := List.forall_mem_cons.mpr ⟨lw_p16, List.forall_mem_cons.mpr ⟨lw_p17, List.forall_mem_cons.mpr ⟨lw_p18, List.forall_mem_cons.mpr ⟨lw_p19, List.forall_mem_cons.mpr ⟨lw_p20, List.forall_mem_cons.mpr ⟨lw_p21, List.forall_mem_cons.mpr ⟨lw_p22, List.forall_mem_cons.mpr ⟨lw_p23, List.forall_mem_cons.mpr ⟨lw_p24, List.forall_mem_cons.mpr ⟨lw_p25, List.forall_mem_cons.mpr ⟨lw_p26, List.forall_mem_cons.mpr ⟨lw_p27, List.forall_mem_cons.mpr ⟨lw_p28, List.forall_mem_cons.mpr ⟨lw_p29, List.forall_mem_cons.mpr ⟨lw_p30, List.forall_mem_cons.mpr ⟨lw_p31, fun _ h => absurd h List.not_mem_nil⟩⟩⟩⟩⟩⟩⟩⟩⟩⟩⟩⟩⟩⟩⟩⟩
theorem lw_p32 : lw_okq (⟨"LoafMemoryModel", "lay", "(II)V"⟩, 33) := ⟨⟨by decide +kernel, by decide +kernel⟩, List.mem_of_getElem? (i := 620) (by decide +kernel), List.mem_of_getElem? (i := 762) (by decide +kernel), List.mem_of_getElem? (i := 763) (by decide +kernel)⟩
theorem lw_p33 : lw_okq (⟨"LoafMemoryModel", "goOut", "()I"⟩, 33) := ⟨⟨by decide +kernel, by decide +kernel⟩, List.mem_of_getElem? (i := 620) (by decide +kernel), List.mem_of_getElem? (i := 769) (by decide +kernel), List.mem_of_getElem? (i := 770) (by decide +kernel)⟩
theorem lw_p34 : lw_okq (⟨"LoafMemoryModel", "record", "()V"⟩, 33) := ⟨⟨by decide +kernel, by decide +kernel⟩, List.mem_of_getElem? (i := 620) (by decide +kernel), List.mem_of_getElem? (i := 778) (by decide +kernel), List.mem_of_getElem? (i := 779) (by decide +kernel)⟩
theorem lw_p35 : lw_okq (⟨"LoafMemoryModel", "askOn", "([II)I"⟩, 33) := ⟨⟨by decide +kernel, by decide +kernel⟩, List.mem_of_getElem? (i := 620) (by decide +kernel), List.mem_of_getElem? (i := 809) (by decide +kernel), List.mem_of_getElem? (i := 810) (by decide +kernel)⟩
theorem lw_p36 : lw_okq (⟨"LoafMemoryModel", "begin", "([III)V"⟩, 33) := ⟨⟨by decide +kernel, by decide +kernel⟩, List.mem_of_getElem? (i := 620) (by decide +kernel), List.mem_of_getElem? (i := 813) (by decide +kernel), List.mem_of_getElem? (i := 814) (by decide +kernel)⟩
theorem lw_p37 : lw_okq (⟨"LoafMemoryModel", "checkMemories", "([II)V"⟩, 33) := ⟨⟨by decide +kernel, by decide +kernel⟩, List.mem_of_getElem? (i := 620) (by decide +kernel), List.mem_of_getElem? (i := 820) (by decide +kernel), List.mem_of_getElem? (i := 821) (by decide +kernel)⟩
theorem lw_p38 : lw_okq (⟨"LoafMemoryModel", "nextName", "(I)V"⟩, 33) := ⟨⟨by decide +kernel, by decide +kernel⟩, List.mem_of_getElem? (i := 620) (by decide +kernel), List.mem_of_getElem? (i := 827) (by decide +kernel), List.mem_of_getElem? (i := 828) (by decide +kernel)⟩
theorem lw_p39 : lw_okq (⟨"LoafMemoryModel", "useMemory", "([II)V"⟩, 33) := ⟨⟨by decide +kernel, by decide +kernel⟩, List.mem_of_getElem? (i := 620) (by decide +kernel), List.mem_of_getElem? (i := 831) (by decide +kernel), List.mem_of_getElem? (i := 832) (by decide +kernel)⟩
theorem lw_p40 : lw_okq (⟨"LoafMemoryModel", "compare", "([III)V"⟩, 33) := ⟨⟨by decide +kernel, by decide +kernel⟩, List.mem_of_getElem? (i := 620) (by decide +kernel), List.mem_of_getElem? (i := 841) (by decide +kernel), List.mem_of_getElem? (i := 842) (by decide +kernel)⟩
theorem lw_p41 : lw_okq (⟨"LoafMemoryModel", "bake", "([II)V"⟩, 33) := ⟨⟨by decide +kernel, by decide +kernel⟩, List.mem_of_getElem? (i := 620) (by decide +kernel), List.mem_of_getElem? (i := 845) (by decide +kernel), List.mem_of_getElem? (i := 846) (by decide +kernel)⟩
theorem lw_p42 : lw_okq (⟨"LoafMemoryModel", "pop", "(I)I"⟩, 33) := ⟨⟨by decide +kernel, by decide +kernel⟩, List.mem_of_getElem? (i := 620) (by decide +kernel), List.mem_of_getElem? (i := 849) (by decide +kernel), List.mem_of_getElem? (i := 850) (by decide +kernel)⟩
theorem lw_p43 : lw_okq (⟨"LoafMemoryModel", "endBaking", "([III)V"⟩, 33) := ⟨⟨by decide +kernel, by decide +kernel⟩, List.mem_of_getElem? (i := 620) (by decide +kernel), List.mem_of_getElem? (i := 853) (by decide +kernel), List.mem_of_getElem? (i := 854) (by decide +kernel)⟩
theorem lw_p44 : lw_okq (⟨"LoafMemoryModel", "push", "(II)V"⟩, 33) := ⟨⟨by decide +kernel, by decide +kernel⟩, List.mem_of_getElem? (i := 620) (by decide +kernel), List.mem_of_getElem? (i := 857) (by decide +kernel), List.mem_of_getElem? (i := 858) (by decide +kernel)⟩
theorem lw_p45 : lw_okq (⟨"LoafMemoryModel", "lookOf", "(II)I"⟩, 33) := ⟨⟨by decide +kernel, by decide +kernel⟩, List.mem_of_getElem? (i := 620) (by decide +kernel), List.mem_of_getElem? (i := 861) (by decide +kernel), List.mem_of_getElem? (i := 862) (by decide +kernel)⟩
theorem lw_p46 : lw_okq (⟨"LoafMemoryModel", "take", "([IIII)V"⟩, 33) := ⟨⟨by decide +kernel, by decide +kernel⟩, List.mem_of_getElem? (i := 620) (by decide +kernel), List.mem_of_getElem? (i := 865) (by decide +kernel), List.mem_of_getElem? (i := 866) (by decide +kernel)⟩
theorem lw_p47 : lw_okq (⟨"LoafMemoryModel", "comeBack", "([IIII)V"⟩, 33) := ⟨⟨by decide +kernel, by decide +kernel⟩, List.mem_of_getElem? (i := 620) (by decide +kernel), List.mem_of_getElem? (i := 872) (by decide +kernel), List.mem_of_getElem? (i := 873) (by decide +kernel)⟩
def lw_privs_3 : List (MethodName × Nat) := [(⟨"LoafMemoryModel", "lay", "(II)V"⟩, 33), (⟨"LoafMemoryModel", "goOut", "()I"⟩, 33), (⟨"LoafMemoryModel", "record", "()V"⟩, 33), (⟨"LoafMemoryModel", "askOn", "([II)I"⟩, 33), (⟨"LoafMemoryModel", "begin", "([III)V"⟩, 33), (⟨"LoafMemoryModel", "checkMemories", "([II)V"⟩, 33), (⟨"LoafMemoryModel", "nextName", "(I)V"⟩, 33), (⟨"LoafMemoryModel", "useMemory", "([II)V"⟩, 33), (⟨"LoafMemoryModel", "compare", "([III)V"⟩, 33), (⟨"LoafMemoryModel", "bake", "([II)V"⟩, 33), (⟨"LoafMemoryModel", "pop", "(I)I"⟩, 33), (⟨"LoafMemoryModel", "endBaking", "([III)V"⟩, 33), (⟨"LoafMemoryModel", "push", "(II)V"⟩, 33), (⟨"LoafMemoryModel", "lookOf", "(II)I"⟩, 33), (⟨"LoafMemoryModel", "take", "([IIII)V"⟩, 33), (⟨"LoafMemoryModel", "comeBack", "([IIII)V"⟩, 33)]
theorem lw_r3 : ∀ q ∈ lw_privs_3, lw_okq q := List.forall_mem_cons.mpr ⟨lw_p32, List.forall_mem_cons.mpr ⟨lw_p33, List.forall_mem_cons.mpr ⟨lw_p34, List.forall_mem_cons.mpr ⟨lw_p35, List.forall_mem_cons.mpr ⟨lw_p36, List.forall_mem_cons.mpr ⟨lw_p37, List.forall_mem_cons.mpr ⟨lw_p38, List.forall_mem_cons.mpr ⟨lw_p39, List.forall_mem_cons.mpr ⟨lw_p40, List.forall_mem_cons.mpr ⟨lw_p41, List.forall_mem_cons.mpr ⟨lw_p42, List.forall_mem_cons.mpr ⟨lw_p43, List.forall_mem_cons.mpr ⟨lw_p44, List.forall_mem_cons.mpr ⟨lw_p45, List.forall_mem_cons.mpr ⟨lw_p46, List.forall_mem_cons.mpr ⟨lw_p47, fun _ h => absurd h List.not_mem_nil⟩⟩⟩⟩⟩⟩⟩⟩⟩⟩⟩⟩⟩⟩⟩⟩
theorem lw_p48 : lw_okq (⟨"LoafMemoryModel", "reckonAll", "([I)V"⟩, 33) := ⟨⟨by decide +kernel, by decide +kernel⟩, List.mem_of_getElem? (i := 620) (by decide +kernel), List.mem_of_getElem? (i := 916) (by decide +kernel), List.mem_of_getElem? (i := 917) (by decide +kernel)⟩
theorem lw_p49 : lw_okq (⟨"LoafMemoryModel", "reckonLoaf", "([II)V"⟩, 33) := ⟨⟨by decide +kernel, by decide +kernel⟩, List.mem_of_getElem? (i := 620) (by decide +kernel), List.mem_of_getElem? (i := 920) (by decide +kernel), List.mem_of_getElem? (i := 921) (by decide +kernel)⟩
theorem lw_p50 : lw_okq (⟨"LoafMemoryModel", "allAlike", "(I)Z"⟩, 33) := ⟨⟨by decide +kernel, by decide +kernel⟩, List.mem_of_getElem? (i := 620) (by decide +kernel), List.mem_of_getElem? (i := 928) (by decide +kernel), List.mem_of_getElem? (i := 929) (by decide +kernel)⟩
def lw_privs_4 : List (MethodName × Nat) := [(⟨"LoafMemoryModel", "reckonAll", "([I)V"⟩, 33), (⟨"LoafMemoryModel", "reckonLoaf", "([II)V"⟩, 33), (⟨"LoafMemoryModel", "allAlike", "(I)Z"⟩, 33)]
theorem lw_r4 : ∀ q ∈ lw_privs_4, lw_okq q := List.forall_mem_cons.mpr ⟨lw_p48, List.forall_mem_cons.mpr ⟨lw_p49, List.forall_mem_cons.mpr ⟨lw_p50, fun _ h => absurd h List.not_mem_nil⟩⟩⟩
def lw_privs : List (MethodName × Nat) := lw_privs_1 ++ (lw_privs_2 ++ (lw_privs_3 ++ (lw_privs_4)))
def lw_tbl : List Cond := k2_sels lw_privs ++ tables_1
theorem lw_privs_ok : ∀ q ∈ lw_privs, lw_okq q := by
  show ∀ q ∈ lw_privs_1 ++ (lw_privs_2 ++ (lw_privs_3 ++ (lw_privs_4))), lw_okq q
  exact List.forall_mem_append.mpr ⟨lw_r1, List.forall_mem_append.mpr ⟨lw_r2, List.forall_mem_append.mpr ⟨lw_r3, lw_r4⟩⟩⟩
-- ===== end of PART A; then your names; then what follows =====
def RX0 : String := "LoafMemory$Baker"
def TX0 : u_T := fun k => match k with
  | 0 => ("LoafMemory$Baker", "state", "LLoafMemory$State;", false)
  | 1 => ("LoafMemory$Baker", "freshly", "Z", false)
  | 2 => ("LoafMemory$Baker", "shelvesSeen", "I", false)
  | 3 => ("LoafMemory$Baker", "freshValues", "[I", true)
  | 4 => ("LoafMemory$Baker", "drafts", "[LLoafMemory$Memory;", true)
  | 5 => ("LoafMemory$Baker", "piles", "[[I", true)
  | _ => ("LoafMemory$Baker", "serials", "[[I", true)
def tyX0 : Nat → FieldType := fun k => match k with
  | 0 => .object "LoafMemory$State"
  | 1 => .boolean
  | 2 => .int
  | 3 => .array .int
  | 4 => .array (.object "LoafMemory$Memory")
  | 5 => .array (.array .int)
  | _ => .array (.array .int)
theorem nmX0 : ∀ a, a < 7 → ∀ b, b < 7 → a ≠ b → (TX0 a).2.1 ≠ (TX0 b).2.1 := by decide +kernel
theorem tyX0_ok : ∀ k, k < 7 → parseFieldDescriptor (TX0 k).2.2.1 = some (tyX0 k) := by decide +kernel
abbrev cX0_init : ByteArray := prog_2_method_1_code
def yX0_init : MethodName := ⟨RX0, "<init>", "()V"⟩
abbrev cX0_askedResult : ByteArray := prog_2_method_2_code
def yX0_askedResult : MethodName := ⟨RX0, "askedResult", "(LLoafMemory$State;I)I"⟩
abbrev cX0_freshResult : ByteArray := prog_2_method_3_code
def yX0_freshResult : MethodName := ⟨RX0, "freshResult", "(LLoafMemory$State;I)I"⟩
abbrev cX0_shelvesOfFresh : ByteArray := prog_2_method_4_code
def yX0_shelvesOfFresh : MethodName := ⟨RX0, "shelvesOfFresh", "(LLoafMemory$State;I)I"⟩
abbrev cX0_wouldFit : ByteArray := prog_2_method_5_code
def yX0_wouldFit : MethodName := ⟨RX0, "wouldFit", "(LLoafMemory$State;LLoafMemory$Memory;)Z"⟩
abbrev cX0_begin : ByteArray := prog_2_method_6_code
def yX0_begin : MethodName := ⟨RX0, "begin", "(LLoafMemory$State;Z)V"⟩
abbrev cX0_loafValue : ByteArray := prog_2_method_7_code
def yX0_loafValue : MethodName := ⟨RX0, "loafValue", "(II)I"⟩
abbrev cX0_freshValue : ByteArray := prog_2_method_8_code
def yX0_freshValue : MethodName := ⟨RX0, "freshValue", "(ILLoafMemory$Recipe;)I"⟩
abbrev cX0_rememberedValue : ByteArray := prog_2_method_9_code
def yX0_rememberedValue : MethodName := ⟨RX0, "rememberedValue", "(ILLoafMemory$Recipe;)I"⟩
abbrev cX0_fittingMemory : ByteArray := prog_2_method_10_code
def yX0_fittingMemory : MethodName := ⟨RX0, "fittingMemory", "(I)I"⟩
abbrev cX0_isAsItWas : ByteArray := prog_2_method_11_code
def yX0_isAsItWas : MethodName := ⟨RX0, "isAsItWas", "(LLoafMemory$Memory;I)Z"⟩
abbrev cX0_valueNow : ByteArray := prog_2_method_12_code
def yX0_valueNow : MethodName := ⟨RX0, "valueNow", "(II)I"⟩
abbrev cX0_lookedUp : ByteArray := prog_2_method_13_code
def yX0_lookedUp : MethodName := ⟨RX0, "lookedUp", "(ILLoafMemory$Memory;)I"⟩
abbrev cX0_reckon : ByteArray := prog_2_method_14_code
def yX0_reckon : MethodName := ⟨RX0, "reckon", "(ILLoafMemory$Recipe;)I"⟩
abbrev cX0_joined : ByteArray := prog_2_method_15_code
def yX0_joined : MethodName := ⟨RX0, "joined", "(III)I"⟩
def RX1 : String := "LoafMemory$Memory"
def TX1 : u_T := fun k => match k with
  | 0 => ("LoafMemory$Memory", "loaf", "I", false)
  | 1 => ("LoafMemory$Memory", "result", "I", false)
  | 2 => ("LoafMemory$Memory", "steps", "I", false)
  | 3 => ("LoafMemory$Memory", "uses", "I", false)
  | 4 => ("LoafMemory$Memory", "serial", "I", false)
  | 5 => ("LoafMemory$Memory", "lookCount", "I", false)
  | 6 => ("LoafMemory$Memory", "looks", "[I", true)
  | _ => ("LoafMemory$Memory", "values", "[I", true)
def tyX1 : Nat → FieldType := fun k => match k with
  | 0 => .int
  | 1 => .int
  | 2 => .int
  | 3 => .int
  | 4 => .int
  | 5 => .int
  | 6 => .array .int
  | _ => .array .int
theorem nmX1 : ∀ a, a < 8 → ∀ b, b < 8 → a ≠ b → (TX1 a).2.1 ≠ (TX1 b).2.1 := by decide +kernel
theorem tyX1_ok : ∀ k, k < 8 → parseFieldDescriptor (TX1 k).2.2.1 = some (tyX1 k) := by decide +kernel
abbrev cX1_init : ByteArray := prog_3_method_1_code
def yX1_init : MethodName := ⟨RX1, "<init>", "()V"⟩
abbrev cX1_begin : ByteArray := prog_3_method_2_code
def yX1_begin : MethodName := ⟨RX1, "begin", "(I)V"⟩
abbrev cX1_addLook : ByteArray := prog_3_method_3_code
def yX1_addLook : MethodName := ⟨RX1, "addLook", "(II)V"⟩
abbrev cX1_placeOfLook : ByteArray := prog_3_method_4_code
def yX1_placeOfLook : MethodName := ⟨RX1, "placeOfLook", "(I)I"⟩
abbrev cX1_copyFrom : ByteArray := prog_3_method_5_code
def yX1_copyFrom : MethodName := ⟨RX1, "copyFrom", "(LLoafMemory$Memory;)V"⟩
def RX2 : String := "LoafMemory$Reader"
def TX2 : u_T := fun k => match k with
  | 0 => ("LoafMemory$Reader", "orders", "[I", true)
  | 1 => ("LoafMemory$Reader", "operands", "[I", true)
  | 2 => ("LoafMemory$Reader", "length", "I", false)
  | 3 => ("LoafMemory$Reader", "parts", "I", false)
  | 4 => ("LoafMemory$Reader", "shelves", "I", false)
  | 5 => ("LoafMemory$Reader", "loaves", "I", false)
  | 6 => ("LoafMemory$Reader", "stage", "I", false)
  | 7 => ("LoafMemory$Reader", "waits", "[I", true)
  | 8 => ("LoafMemory$Reader", "openEnds", "[I", true)
  | _ => ("LoafMemory$Reader", "depth", "I", false)
def tyX2 : Nat → FieldType := fun k => match k with
  | 0 => .array .int
  | 1 => .array .int
  | 2 => .int
  | 3 => .int
  | 4 => .int
  | 5 => .int
  | 6 => .int
  | 7 => .array .int
  | 8 => .array .int
  | _ => .int
theorem nmX2 : ∀ a, a < 10 → ∀ b, b < 10 → a ≠ b → (TX2 a).2.1 ≠ (TX2 b).2.1 := by decide +kernel
theorem tyX2_ok : ∀ k, k < 10 → parseFieldDescriptor (TX2 k).2.2.1 = some (tyX2 k) := by decide +kernel
abbrev cX2_init : ByteArray := prog_4_method_1_code
def yX2_init : MethodName := ⟨RX2, "<init>", "()V"⟩
abbrev cX2_firstFault : ByteArray := prog_4_method_2_code
def yX2_firstFault : MethodName := ⟨RX2, "firstFault", "([II)I"⟩
abbrev cX2_recipeRead : ByteArray := prog_4_method_3_code
def yX2_recipeRead : MethodName := ⟨RX2, "recipeRead", "()LLoafMemory$Recipe;"⟩
abbrev cX2_begin : ByteArray := prog_4_method_4_code
def yX2_begin : MethodName := ⟨RX2, "begin", "()V"⟩
abbrev cX2_takes : ByteArray := prog_4_method_5_code
def yX2_takes : MethodName := ⟨RX2, "takes", "(I)Z"⟩
abbrev cX2_takesStart : ByteArray := prog_4_method_6_code
def yX2_takesStart : MethodName := ⟨RX2, "takesStart", "(I)Z"⟩
abbrev cX2_takesLoafDigit : ByteArray := prog_4_method_7_code
def yX2_takesLoafDigit : MethodName := ⟨RX2, "takesLoafDigit", "(I)Z"⟩
abbrev cX2_takesNextDigit : ByteArray := prog_4_method_8_code
def yX2_takesNextDigit : MethodName := ⟨RX2, "takesNextDigit", "(I)Z"⟩
abbrev cX2_takesAfterRecipe : ByteArray := prog_4_method_9_code
def yX2_takesAfterRecipe : MethodName := ⟨RX2, "takesAfterRecipe", "(I)Z"⟩
abbrev cX2_takesOperation : ByteArray := prog_4_method_10_code
def yX2_takesOperation : MethodName := ⟨RX2, "takesOperation", "(I)Z"⟩
abbrev cX2_takesBracket : ByteArray := prog_4_method_11_code
def yX2_takesBracket : MethodName := ⟨RX2, "takesBracket", "()Z"⟩
abbrev cX2_takesQuestion : ByteArray := prog_4_method_12_code
def yX2_takesQuestion : MethodName := ⟨RX2, "takesQuestion", "()Z"⟩
abbrev cX2_takesColon : ByteArray := prog_4_method_13_code
def yX2_takesColon : MethodName := ⟨RX2, "takesColon", "()Z"⟩
abbrev cX2_takesBrace : ByteArray := prog_4_method_14_code
def yX2_takesBrace : MethodName := ⟨RX2, "takesBrace", "()Z"⟩
abbrev cX2_opens : ByteArray := prog_4_method_15_code
def yX2_opens : MethodName := ⟨RX2, "opens", "(I)Z"⟩
abbrev cX2_waitsNext : ByteArray := prog_4_method_16_code
def yX2_waitsNext : MethodName := ⟨RX2, "waitsNext", "(I)Z"⟩
abbrev cX2_addsPart : ByteArray := prog_4_method_17_code
def yX2_addsPart : MethodName := ⟨RX2, "addsPart", "(II)Z"⟩
abbrev cX2_adds : ByteArray := prog_4_method_18_code
def yX2_adds : MethodName := ⟨RX2, "adds", "(II)Z"⟩
abbrev cX2_closesEnd : ByteArray := prog_4_method_19_code
def yX2_closesEnd : MethodName := ⟨RX2, "closesEnd", "(I)V"⟩
abbrev cX2_isDigit : ByteArray := prog_4_method_20_code
def yX2_isDigit : MethodName := ⟨RX2, "isDigit", "(I)Z"⟩
def RX3 : String := "LoafMemory$Recipe"
def TX3 : u_T := fun k => match k with
  | 0 => ("LoafMemory$Recipe", "orders", "[I", true)
  | 1 => ("LoafMemory$Recipe", "operands", "[I", true)
  | 2 => ("LoafMemory$Recipe", "length", "I", true)
  | 3 => ("LoafMemory$Recipe", "parts", "I", true)
  | 4 => ("LoafMemory$Recipe", "shelves", "I", true)
  | _ => ("LoafMemory$Recipe", "loaves", "I", true)
def tyX3 : Nat → FieldType := fun k => match k with
  | 0 => .array .int
  | 1 => .array .int
  | 2 => .int
  | 3 => .int
  | 4 => .int
  | _ => .int
theorem nmX3 : ∀ a, a < 6 → ∀ b, b < 6 → a ≠ b → (TX3 a).2.1 ≠ (TX3 b).2.1 := by decide +kernel
theorem tyX3_ok : ∀ k, k < 6 → parseFieldDescriptor (TX3 k).2.2.1 = some (tyX3 k) := by decide +kernel
abbrev cX3_init : ByteArray := prog_5_method_1_code
def yX3_init : MethodName := ⟨RX3, "<init>", "(LLoafMemory$Reader;)V"⟩
def RX4 : String := "LoafMemory$State"
def TX4 : u_T := fun k => match k with
  | 0 => ("LoafMemory$State", "numbers", "[I", true)
  | 1 => ("LoafMemory$State", "poisoned", "I", false)
  | 2 => ("LoafMemory$State", "settings", "[I", true)
  | 3 => ("LoafMemory$State", "recipes", "[LLoafMemory$Recipe;", true)
  | 4 => ("LoafMemory$State", "memories", "[LLoafMemory$Memory;", true)
  | 5 => ("LoafMemory$State", "memoryCount", "I", false)
  | 6 => ("LoafMemory$State", "lastSerial", "I", false)
  | 7 => ("LoafMemory$State", "baked", "[I", true)
  | 8 => ("LoafMemory$State", "givenAgain", "[I", true)
  | 9 => ("LoafMemory$State", "stepsMade", "I", false)
  | _ => ("LoafMemory$State", "stepsSaved", "I", false)
def tyX4 : Nat → FieldType := fun k => match k with
  | 0 => .array .int
  | 1 => .int
  | 2 => .array .int
  | 3 => .array (.object "LoafMemory$Recipe")
  | 4 => .array (.object "LoafMemory$Memory")
  | 5 => .int
  | 6 => .int
  | 7 => .array .int
  | 8 => .array .int
  | 9 => .int
  | _ => .int
theorem nmX4 : ∀ a, a < 11 → ∀ b, b < 11 → a ≠ b → (TX4 a).2.1 ≠ (TX4 b).2.1 := by decide +kernel
theorem tyX4_ok : ∀ k, k < 11 → parseFieldDescriptor (TX4 k).2.2.1 = some (tyX4 k) := by decide +kernel
abbrev cX4_init : ByteArray := prog_6_method_1_code
def yX4_init : MethodName := ⟨RX4, "<init>", "()V"⟩
abbrev cX4_copyFrom : ByteArray := prog_6_method_2_code
def yX4_copyFrom : MethodName := ⟨RX4, "copyFrom", "(LLoafMemory$State;)V"⟩
abbrev cX4_loavesNaming : ByteArray := prog_6_method_3_code
def yX4_loavesNaming : MethodName := ⟨RX4, "loavesNaming", "(I)I"⟩
abbrev cX4_loavesWithRecipe : ByteArray := prog_6_method_4_code
def yX4_loavesWithRecipe : MethodName := ⟨RX4, "loavesWithRecipe", "()I"⟩
abbrev cX4_memoriesOf : ByteArray := prog_6_method_5_code
def yX4_memoriesOf : MethodName := ⟨RX4, "memoriesOf", "(I)I"⟩
abbrev cX4_serialsOf : ByteArray := prog_6_method_6_code
def yX4_serialsOf : MethodName := ⟨RX4, "serialsOf", "(I[I)I"⟩
abbrev cX4_placeOfSerial : ByteArray := prog_6_method_7_code
def yX4_placeOfSerial : MethodName := ⟨RX4, "placeOfSerial", "(I)I"⟩
abbrev cX4_use : ByteArray := prog_6_method_8_code
def yX4_use : MethodName := ⟨RX4, "use", "(I)V"⟩
abbrev cX4_keepMemory : ByteArray := prog_6_method_9_code
def yX4_keepMemory : MethodName := ⟨RX4, "keepMemory", "(LLoafMemory$Memory;)V"⟩
abbrev cX4_dropBeyondRoom : ByteArray := prog_6_method_10_code
def yX4_dropBeyondRoom : MethodName := ⟨RX4, "dropBeyondRoom", "()V"⟩
abbrev cX4_dropAllOf : ByteArray := prog_6_method_11_code
def yX4_dropAllOf : MethodName := ⟨RX4, "dropAllOf", "(I)V"⟩
abbrev cX4_drop : ByteArray := prog_6_method_12_code
def yX4_drop : MethodName := ⟨RX4, "drop", "(I)V"⟩
def RX5 : String := "LoafMemory"
def TX5 : u_T := fun k => match k with
  | 0 => ("LoafMemory", "pad", "[I", true)
  | 1 => ("LoafMemory", "padLength", "I", false)
  | 2 => ("LoafMemory", "state", "LLoafMemory$State;", false)
  | 3 => ("LoafMemory", "history", "[LLoafMemory$State;", true)
  | 4 => ("LoafMemory", "changesKept", "I", false)
  | 5 => ("LoafMemory", "slots", "[LLoafMemory$State;", true)
  | 6 => ("LoafMemory", "filled", "[Z", true)
  | 7 => ("LoafMemory", "trial", "LLoafMemory$State;", true)
  | 8 => ("LoafMemory", "baker", "LLoafMemory$Baker;", true)
  | _ => ("LoafMemory", "reader", "LLoafMemory$Reader;", true)
def tyX5 : Nat → FieldType := fun k => match k with
  | 0 => .array .int
  | 1 => .int
  | 2 => .object "LoafMemory$State"
  | 3 => .array (.object "LoafMemory$State")
  | 4 => .int
  | 5 => .array (.object "LoafMemory$State")
  | 6 => .array .boolean
  | 7 => .object "LoafMemory$State"
  | 8 => .object "LoafMemory$Baker"
  | _ => .object "LoafMemory$Reader"
theorem nmX5 : ∀ a, a < 10 → ∀ b, b < 10 → a ≠ b → (TX5 a).2.1 ≠ (TX5 b).2.1 := by decide +kernel
theorem tyX5_ok : ∀ k, k < 10 → parseFieldDescriptor (TX5 k).2.2.1 = some (tyX5 k) := by decide +kernel
abbrev cX5_init : ByteArray := prog_1_method_1_code
def yX5_init : MethodName := ⟨RX5, "<init>", "()V"⟩
abbrev cX5_set : ByteArray := prog_1_method_2_code
def yX5_set : MethodName := ⟨RX5, "set", "(II)I"⟩
abbrev cX5_put : ByteArray := prog_1_method_3_code
def yX5_put : MethodName := ⟨RX5, "put", "(II)I"⟩
abbrev cX5_poison : ByteArray := prog_1_method_4_code
def yX5_poison : MethodName := ⟨RX5, "poison", "(II)I"⟩
abbrev cX5_ask : ByteArray := prog_1_method_5_code
def yX5_ask : MethodName := ⟨RX5, "ask", "(I)I"⟩
abbrev cX5_forget : ByteArray := prog_1_method_6_code
def yX5_forget : MethodName := ⟨RX5, "forget", "(I)I"⟩
abbrev cX5_type : ByteArray := prog_1_method_7_code
def yX5_type : MethodName := ⟨RX5, "type", "(J)I"⟩
abbrev cX5_wipe : ByteArray := prog_1_method_8_code
def yX5_wipe : MethodName := ⟨RX5, "wipe", "()I"⟩
abbrev cX5_fault : ByteArray := prog_1_method_9_code
def yX5_fault : MethodName := ⟨RX5, "fault", "()I"⟩
abbrev cX5_recipe : ByteArray := prog_1_method_10_code
def yX5_recipe : MethodName := ⟨RX5, "recipe", "(I)I"⟩
abbrev cX5_ofShelf : ByteArray := prog_1_method_11_code
def yX5_ofShelf : MethodName := ⟨RX5, "ofShelf", "(II)I"⟩
abbrev cX5_ofLoaf : ByteArray := prog_1_method_12_code
def yX5_ofLoaf : MethodName := ⟨RX5, "ofLoaf", "(II)I"⟩
abbrev cX5_ofMemory : ByteArray := prog_1_method_13_code
def yX5_ofMemory : MethodName := ⟨RX5, "ofMemory", "(II)I"⟩
abbrev cX5_look : ByteArray := prog_1_method_14_code
def yX5_look : MethodName := ⟨RX5, "look", "(III)I"⟩
abbrev cX5_count : ByteArray := prog_1_method_15_code
def yX5_count : MethodName := ⟨RX5, "count", "(I)I"⟩
abbrev cX5_fresh : ByteArray := prog_1_method_16_code
def yX5_fresh : MethodName := ⟨RX5, "fresh", "(I)I"⟩
abbrev cX5_fits : ByteArray := prog_1_method_17_code
def yX5_fits : MethodName := ⟨RX5, "fits", "(I)I"⟩
abbrev cX5_looksAt : ByteArray := prog_1_method_18_code
def yX5_looksAt : MethodName := ⟨RX5, "looksAt", "(I)I"⟩
abbrev cX5_changes : ByteArray := prog_1_method_19_code
def yX5_changes : MethodName := ⟨RX5, "changes", "(II)I"⟩
abbrev cX5_numberFor : ByteArray := prog_1_method_20_code
def yX5_numberFor : MethodName := ⟨RX5, "numberFor", "(III)I"⟩
abbrev cX5_stepsFor : ByteArray := prog_1_method_21_code
def yX5_stepsFor : MethodName := ⟨RX5, "stepsFor", "(I)I"⟩
abbrev cX5_undo : ByteArray := prog_1_method_22_code
def yX5_undo : MethodName := ⟨RX5, "undo", "()I"⟩
abbrev cX5_save : ByteArray := prog_1_method_23_code
def yX5_save : MethodName := ⟨RX5, "save", "(I)I"⟩
abbrev cX5_restore : ByteArray := prog_1_method_24_code
def yX5_restore : MethodName := ⟨RX5, "restore", "(I)I"⟩
abbrev cX5_recordChange : ByteArray := prog_1_method_25_code
def yX5_recordChange : MethodName := ⟨RX5, "recordChange", "()V"⟩
abbrev cX5_dropOldestChange : ByteArray := prog_1_method_26_code
def yX5_dropOldestChange : MethodName := ⟨RX5, "dropOldestChange", "()V"⟩
abbrev cX5_isMemory : ByteArray := prog_1_method_27_code
def yX5_isMemory : MethodName := ⟨RX5, "isMemory", "(I)Z"⟩
abbrev cX5_isShelf : ByteArray := prog_1_method_28_code
def yX5_isShelf : MethodName := ⟨RX5, "isShelf", "(I)Z"⟩
abbrev cX5_isLoaf : ByteArray := prog_1_method_29_code
def yX5_isLoaf : MethodName := ⟨RX5, "isLoaf", "(I)Z"⟩
abbrev cX5_isNumber : ByteArray := prog_1_method_30_code
def yX5_isNumber : MethodName := ⟨RX5, "isNumber", "(I)Z"⟩
abbrev cX5_isSlot : ByteArray := prog_1_method_31_code
def yX5_isSlot : MethodName := ⟨RX5, "isSlot", "(I)Z"⟩
abbrev cX5_isSettingValue : ByteArray := prog_1_method_32_code
def yX5_isSettingValue : MethodName := ⟨RX5, "isSettingValue", "(II)Z"⟩
abbrev cX5_bitOf : ByteArray := prog_1_method_33_code
def yX5_bitOf : MethodName := ⟨RX5, "bitOf", "(II)I"⟩
abbrev cX5_lengthOfText : ByteArray := prog_1_method_34_code
def yX5_lengthOfText : MethodName := ⟨RX5, "lengthOfText", "(J)I"⟩
def RX6 : String := "LoafMemoryModel"
def TX6 : u_T := fun k => match k with
  | 0 => ("LoafMemoryModel", "now", "[I", true)
  | 1 => ("LoafMemoryModel", "trial", "[I", true)
  | 2 => ("LoafMemoryModel", "history", "[I", true)
  | 3 => ("LoafMemoryModel", "changes", "I", false)
  | 4 => ("LoafMemoryModel", "kept", "[I", true)
  | 5 => ("LoafMemoryModel", "isKept", "[Z", true)
  | 6 => ("LoafMemoryModel", "pad", "[I", true)
  | 7 => ("LoafMemoryModel", "length", "I", false)
  | 8 => ("LoafMemoryModel", "orders", "[I", true)
  | 9 => ("LoafMemoryModel", "arguments", "[I", true)
  | 10 => ("LoafMemoryModel", "ordersMany", "I", false)
  | 11 => ("LoafMemoryModel", "due", "[I", true)
  | 12 => ("LoafMemoryModel", "dueWith", "[I", true)
  | 13 => ("LoafMemoryModel", "dues", "I", false)
  | 14 => ("LoafMemoryModel", "spot", "I", false)
  | 15 => ("LoafMemoryModel", "held", "[I", true)
  | 16 => ("LoafMemoryModel", "asker", "[I", true)
  | 17 => ("LoafMemoryModel", "mode", "[I", true)
  | 18 => ("LoafMemoryModel", "names", "[I", true)
  | 19 => ("LoafMemoryModel", "namesMany", "[I", true)
  | 20 => ("LoafMemoryModel", "nameAt", "[I", true)
  | 21 => ("LoafMemoryModel", "lookAt", "[I", true)
  | 22 => ("LoafMemoryModel", "orderAt", "[I", true)
  | 23 => ("LoafMemoryModel", "values", "[I", true)
  | 24 => ("LoafMemoryModel", "valuesMany", "[I", true)
  | 25 => ("LoafMemoryModel", "keys", "[I", true)
  | 26 => ("LoafMemoryModel", "found", "[I", true)
  | 27 => ("LoafMemoryModel", "looked", "[I", true)
  | 28 => ("LoafMemoryModel", "steps", "[I", true)
  | 29 => ("LoafMemoryModel", "given", "I", false)
  | 30 => ("LoafMemoryModel", "wanted", "I", false)
  | 31 => ("LoafMemoryModel", "results", "[I", true)
  | _ => ("LoafMemoryModel", "sets", "[I", true)
def tyX6 : Nat → FieldType := fun k => match k with
  | 0 => .array .int
  | 1 => .array .int
  | 2 => .array .int
  | 3 => .int
  | 4 => .array .int
  | 5 => .array .boolean
  | 6 => .array .int
  | 7 => .int
  | 8 => .array .int
  | 9 => .array .int
  | 10 => .int
  | 11 => .array .int
  | 12 => .array .int
  | 13 => .int
  | 14 => .int
  | 15 => .array .int
  | 16 => .array .int
  | 17 => .array .int
  | 18 => .array .int
  | 19 => .array .int
  | 20 => .array .int
  | 21 => .array .int
  | 22 => .array .int
  | 23 => .array .int
  | 24 => .array .int
  | 25 => .array .int
  | 26 => .array .int
  | 27 => .array .int
  | 28 => .array .int
  | 29 => .int
  | 30 => .int
  | 31 => .array .int
  | _ => .array .int
theorem nmX6 : ∀ a, a < 33 → ∀ b, b < 33 → a ≠ b → (TX6 a).2.1 ≠ (TX6 b).2.1 := by decide +kernel
theorem tyX6_ok : ∀ k, k < 33 → parseFieldDescriptor (TX6 k).2.2.1 = some (tyX6 k) := by decide +kernel
abbrev cX6_init : ByteArray := prog_8_method_1_code
def yX6_init : MethodName := ⟨RX6, "<init>", "()V"⟩
abbrev cX6_in : ByteArray := prog_8_method_2_code
def yX6_in : MethodName := ⟨RX6, "in", "(JJJ)Z"⟩
abbrev cX6_copyState : ByteArray := prog_8_method_3_code
def yX6_copyState : MethodName := ⟨RX6, "copyState", "([II[II)V"⟩
abbrev cX6_isShelf : ByteArray := prog_8_method_4_code
def yX6_isShelf : MethodName := ⟨RX6, "isShelf", "(I)Z"⟩
abbrev cX6_isLoaf : ByteArray := prog_8_method_5_code
def yX6_isLoaf : MethodName := ⟨RX6, "isLoaf", "(I)Z"⟩
abbrev cX6_memoryAt : ByteArray := prog_8_method_6_code
def yX6_memoryAt : MethodName := ⟨RX6, "memoryAt", "(I)I"⟩
abbrev cX6_valueOfShelf : ByteArray := prog_8_method_7_code
def yX6_valueOfShelf : MethodName := ⟨RX6, "valueOfShelf", "([II)I"⟩
abbrev cX6_sign : ByteArray := prog_8_method_8_code
def yX6_sign : MethodName := ⟨RX6, "sign", "()I"⟩
abbrev cX6_lay : ByteArray := prog_8_method_9_code
def yX6_lay : MethodName := ⟨RX6, "lay", "(II)V"⟩
abbrev cX6_expect : ByteArray := prog_8_method_10_code
def yX6_expect : MethodName := ⟨RX6, "expect", "(II)V"⟩
abbrev cX6_readSimple : ByteArray := prog_8_method_11_code
def yX6_readSimple : MethodName := ⟨RX6, "readSimple", "()Z"⟩
abbrev cX6_goOut : ByteArray := prog_8_method_12_code
def yX6_goOut : MethodName := ⟨RX6, "goOut", "()I"⟩
abbrev cX6_compile : ByteArray := prog_8_method_13_code
def yX6_compile : MethodName := ⟨RX6, "compile", "()I"⟩
abbrev cX6_type : ByteArray := prog_8_method_14_code
def yX6_type : MethodName := ⟨RX6, "type", "(J)I"⟩
abbrev cX6_wipe : ByteArray := prog_8_method_15_code
def yX6_wipe : MethodName := ⟨RX6, "wipe", "()I"⟩
abbrev cX6_fault : ByteArray := prog_8_method_16_code
def yX6_fault : MethodName := ⟨RX6, "fault", "()I"⟩
abbrev cX6_memoryNamed : ByteArray := prog_8_method_17_code
def yX6_memoryNamed : MethodName := ⟨RX6, "memoryNamed", "([II)I"⟩
abbrev cX6_cutMemory : ByteArray := prog_8_method_18_code
def yX6_cutMemory : MethodName := ⟨RX6, "cutMemory", "([II)V"⟩
abbrev cX6_shiftMemories : ByteArray := prog_8_method_19_code
def yX6_shiftMemories : MethodName := ⟨RX6, "shiftMemories", "([II)V"⟩
abbrev cX6_useMemory : ByteArray := prog_8_method_20_code
def yX6_useMemory : MethodName := ⟨RX6, "useMemory", "([II)V"⟩
abbrev cX6_trim : ByteArray := prog_8_method_21_code
def yX6_trim : MethodName := ⟨RX6, "trim", "([I)V"⟩
abbrev cX6_begin : ByteArray := prog_8_method_22_code
def yX6_begin : MethodName := ⟨RX6, "begin", "([III)V"⟩
abbrev cX6_nextName : ByteArray := prog_8_method_23_code
def yX6_nextName : MethodName := ⟨RX6, "nextName", "(I)V"⟩
abbrev cX6_compare : ByteArray := prog_8_method_24_code
def yX6_compare : MethodName := ⟨RX6, "compare", "([III)V"⟩
abbrev cX6_checkMemories : ByteArray := prog_8_method_25_code
def yX6_checkMemories : MethodName := ⟨RX6, "checkMemories", "([II)V"⟩
abbrev cX6_push : ByteArray := prog_8_method_26_code
def yX6_push : MethodName := ⟨RX6, "push", "(II)V"⟩
abbrev cX6_pop : ByteArray := prog_8_method_27_code
def yX6_pop : MethodName := ⟨RX6, "pop", "(I)I"⟩
abbrev cX6_lookOf : ByteArray := prog_8_method_28_code
def yX6_lookOf : MethodName := ⟨RX6, "lookOf", "(II)I"⟩
abbrev cX6_endBaking : ByteArray := prog_8_method_29_code
def yX6_endBaking : MethodName := ⟨RX6, "endBaking", "([III)V"⟩
abbrev cX6_take : ByteArray := prog_8_method_30_code
def yX6_take : MethodName := ⟨RX6, "take", "([IIII)V"⟩
abbrev cX6_reckon : ByteArray := prog_8_method_31_code
def yX6_reckon : MethodName := ⟨RX6, "reckon", "(III)I"⟩
abbrev cX6_bake : ByteArray := prog_8_method_32_code
def yX6_bake : MethodName := ⟨RX6, "bake", "([II)V"⟩
abbrev cX6_askOn : ByteArray := prog_8_method_33_code
def yX6_askOn : MethodName := ⟨RX6, "askOn", "([II)I"⟩
abbrev cX6_comeBack : ByteArray := prog_8_method_34_code
def yX6_comeBack : MethodName := ⟨RX6, "comeBack", "([IIII)V"⟩
abbrev cX6_record : ByteArray := prog_8_method_35_code
def yX6_record : MethodName := ⟨RX6, "record", "()V"⟩
abbrev cX6_set : ByteArray := prog_8_method_36_code
def yX6_set : MethodName := ⟨RX6, "set", "(II)I"⟩
abbrev cX6_put : ByteArray := prog_8_method_37_code
def yX6_put : MethodName := ⟨RX6, "put", "(II)I"⟩
abbrev cX6_poison : ByteArray := prog_8_method_38_code
def yX6_poison : MethodName := ⟨RX6, "poison", "(II)I"⟩
abbrev cX6_ask : ByteArray := prog_8_method_39_code
def yX6_ask : MethodName := ⟨RX6, "ask", "(I)I"⟩
abbrev cX6_forget : ByteArray := prog_8_method_40_code
def yX6_forget : MethodName := ⟨RX6, "forget", "(I)I"⟩
abbrev cX6_recipe : ByteArray := prog_8_method_41_code
def yX6_recipe : MethodName := ⟨RX6, "recipe", "(I)I"⟩
abbrev cX6_namedBy : ByteArray := prog_8_method_42_code
def yX6_namedBy : MethodName := ⟨RX6, "namedBy", "([III)I"⟩
abbrev cX6_ofShelf : ByteArray := prog_8_method_43_code
def yX6_ofShelf : MethodName := ⟨RX6, "ofShelf", "(II)I"⟩
abbrev cX6_ofLoaf : ByteArray := prog_8_method_44_code
def yX6_ofLoaf : MethodName := ⟨RX6, "ofLoaf", "(II)I"⟩
abbrev cX6_ofMemory : ByteArray := prog_8_method_45_code
def yX6_ofMemory : MethodName := ⟨RX6, "ofMemory", "(II)I"⟩
abbrev cX6_look : ByteArray := prog_8_method_46_code
def yX6_look : MethodName := ⟨RX6, "look", "(III)I"⟩
abbrev cX6_count : ByteArray := prog_8_method_47_code
def yX6_count : MethodName := ⟨RX6, "count", "(I)I"⟩
abbrev cX6_reckonLoaf : ByteArray := prog_8_method_48_code
def yX6_reckonLoaf : MethodName := ⟨RX6, "reckonLoaf", "([II)V"⟩
abbrev cX6_reckonAll : ByteArray := prog_8_method_49_code
def yX6_reckonAll : MethodName := ⟨RX6, "reckonAll", "([I)V"⟩
abbrev cX6_fresh : ByteArray := prog_8_method_50_code
def yX6_fresh : MethodName := ⟨RX6, "fresh", "(I)I"⟩
abbrev cX6_allAlike : ByteArray := prog_8_method_51_code
def yX6_allAlike : MethodName := ⟨RX6, "allAlike", "(I)Z"⟩
abbrev cX6_fits : ByteArray := prog_8_method_52_code
def yX6_fits : MethodName := ⟨RX6, "fits", "(I)I"⟩
abbrev cX6_looksAt : ByteArray := prog_8_method_53_code
def yX6_looksAt : MethodName := ⟨RX6, "looksAt", "(I)I"⟩
abbrev cX6_changes : ByteArray := prog_8_method_54_code
def yX6_changes : MethodName := ⟨RX6, "changes", "(II)I"⟩
abbrev cX6_numberFor : ByteArray := prog_8_method_55_code
def yX6_numberFor : MethodName := ⟨RX6, "numberFor", "(III)I"⟩
abbrev cX6_stepsFor : ByteArray := prog_8_method_56_code
def yX6_stepsFor : MethodName := ⟨RX6, "stepsFor", "(I)I"⟩
abbrev cX6_undo : ByteArray := prog_8_method_57_code
def yX6_undo : MethodName := ⟨RX6, "undo", "()I"⟩
abbrev cX6_save : ByteArray := prog_8_method_58_code
def yX6_save : MethodName := ⟨RX6, "save", "(I)I"⟩
abbrev cX6_restore : ByteArray := prog_8_method_59_code
def yX6_restore : MethodName := ⟨RX6, "restore", "(I)I"⟩
def RJ9 : String := "java/lang/Math"
def RJ10 : String := "java/lang/System"
def RJ7 : String := "java/util/Arrays"
abbrev cJ7_fill_53178 : ByteArray := prog_12_method_103_code
def yJ7_fill_53178 : MethodName := ⟨RJ7, "fill", "([II)V"⟩
abbrev cJ7_copyOf_59c91 : ByteArray := prog_12_method_123_code
def yJ7_copyOf_59c91 : MethodName := ⟨RJ7, "copyOf", "([II)[I"⟩
def RL : String := "LoafMemoryLaw"
abbrev cL_law : ByteArray := code
def yL_law : MethodName := ⟨RL, "law", "([I)Z"⟩
abbrev MM : Type := MethodName × ByteArray × Nat × Option FieldType
def bc (M : MM) : ByteArray := M.2.1
def mX0_init : MM := (yX0_init, cX0_init, 2, none)
def mX0_askedResult : MM := (yX0_askedResult, cX0_askedResult, 3, (some .int))
def mX0_freshResult : MM := (yX0_freshResult, cX0_freshResult, 3, (some .int))
def mX0_shelvesOfFresh : MM := (yX0_shelvesOfFresh, cX0_shelvesOfFresh, 3, (some .int))
def mX0_wouldFit : MM := (yX0_wouldFit, cX0_wouldFit, 4, (some .boolean))
def mX0_begin : MM := (yX0_begin, cX0_begin, 3, none)
def mX0_loafValue : MM := (yX0_loafValue, cX0_loafValue, 4, (some .int))
def mX0_freshValue : MM := (yX0_freshValue, cX0_freshValue, 3, (some .int))
def mX0_rememberedValue : MM := (yX0_rememberedValue, cX0_rememberedValue, 6, (some .int))
def mX0_fittingMemory : MM := (yX0_fittingMemory, cX0_fittingMemory, 6, (some .int))
def mX0_isAsItWas : MM := (yX0_isAsItWas, cX0_isAsItWas, 5, (some .boolean))
def mX0_valueNow : MM := (yX0_valueNow, cX0_valueNow, 4, (some .int))
def mX0_lookedUp : MM := (yX0_lookedUp, cX0_lookedUp, 5, (some .int))
def mX0_reckon : MM := (yX0_reckon, cX0_reckon, 11, (some .int))
def mX0_joined : MM := (yX0_joined, cX0_joined, 3, (some .int))
def mX1_init : MM := (yX1_init, cX1_init, 1, none)
def mX1_begin : MM := (yX1_begin, cX1_begin, 2, none)
def mX1_addLook : MM := (yX1_addLook, cX1_addLook, 3, none)
def mX1_placeOfLook : MM := (yX1_placeOfLook, cX1_placeOfLook, 3, (some .int))
def mX1_copyFrom : MM := (yX1_copyFrom, cX1_copyFrom, 2, none)
def mX2_init : MM := (yX2_init, cX2_init, 1, none)
def mX2_firstFault : MM := (yX2_firstFault, cX2_firstFault, 4, (some .int))
def mX2_recipeRead : MM := (yX2_recipeRead, cX2_recipeRead, 1, (some (.object "LoafMemory$Recipe")))
def mX2_begin : MM := (yX2_begin, cX2_begin, 1, none)
def mX2_takes : MM := (yX2_takes, cX2_takes, 2, (some .boolean))
def mX2_takesStart : MM := (yX2_takesStart, cX2_takesStart, 3, (some .boolean))
def mX2_takesLoafDigit : MM := (yX2_takesLoafDigit, cX2_takesLoafDigit, 3, (some .boolean))
def mX2_takesNextDigit : MM := (yX2_takesNextDigit, cX2_takesNextDigit, 4, (some .boolean))
def mX2_takesAfterRecipe : MM := (yX2_takesAfterRecipe, cX2_takesAfterRecipe, 2, (some .boolean))
def mX2_takesOperation : MM := (yX2_takesOperation, cX2_takesOperation, 2, (some .boolean))
def mX2_takesBracket : MM := (yX2_takesBracket, cX2_takesBracket, 1, (some .boolean))
def mX2_takesQuestion : MM := (yX2_takesQuestion, cX2_takesQuestion, 1, (some .boolean))
def mX2_takesColon : MM := (yX2_takesColon, cX2_takesColon, 2, (some .boolean))
def mX2_takesBrace : MM := (yX2_takesBrace, cX2_takesBrace, 1, (some .boolean))
def mX2_opens : MM := (yX2_opens, cX2_opens, 2, (some .boolean))
def mX2_waitsNext : MM := (yX2_waitsNext, cX2_waitsNext, 2, (some .boolean))
def mX2_addsPart : MM := (yX2_addsPart, cX2_addsPart, 3, (some .boolean))
def mX2_adds : MM := (yX2_adds, cX2_adds, 3, (some .boolean))
def mX2_closesEnd : MM := (yX2_closesEnd, cX2_closesEnd, 2, none)
def mX2_isDigit : MM := (yX2_isDigit, cX2_isDigit, 1, (some .boolean))
def mX3_init : MM := (yX3_init, cX3_init, 2, none)
def mX4_init : MM := (yX4_init, cX4_init, 2, none)
def mX4_copyFrom : MM := (yX4_copyFrom, cX4_copyFrom, 3, none)
def mX4_loavesNaming : MM := (yX4_loavesNaming, cX4_loavesNaming, 4, (some .int))
def mX4_loavesWithRecipe : MM := (yX4_loavesWithRecipe, cX4_loavesWithRecipe, 3, (some .int))
def mX4_memoriesOf : MM := (yX4_memoriesOf, cX4_memoriesOf, 4, (some .int))
def mX4_serialsOf : MM := (yX4_serialsOf, cX4_serialsOf, 5, (some .int))
def mX4_placeOfSerial : MM := (yX4_placeOfSerial, cX4_placeOfSerial, 3, (some .int))
def mX4_use : MM := (yX4_use, cX4_use, 4, none)
def mX4_keepMemory : MM := (yX4_keepMemory, cX4_keepMemory, 2, none)
def mX4_dropBeyondRoom : MM := (yX4_dropBeyondRoom, cX4_dropBeyondRoom, 2, none)
def mX4_dropAllOf : MM := (yX4_dropAllOf, cX4_dropAllOf, 3, none)
def mX4_drop : MM := (yX4_drop, cX4_drop, 4, none)
def mX5_init : MM := (yX5_init, cX5_init, 2, none)
def mX5_set : MM := (yX5_set, cX5_set, 4, (some .int))
def mX5_put : MM := (yX5_put, cX5_put, 4, (some .int))
def mX5_poison : MM := (yX5_poison, cX5_poison, 4, (some .int))
def mX5_ask : MM := (yX5_ask, cX5_ask, 2, (some .int))
def mX5_forget : MM := (yX5_forget, cX5_forget, 2, (some .int))
def mX5_type : MM := (yX5_type, cX5_type, 5, (some .int))
def mX5_wipe : MM := (yX5_wipe, cX5_wipe, 2, (some .int))
def mX5_fault : MM := (yX5_fault, cX5_fault, 1, (some .int))
def mX5_recipe : MM := (yX5_recipe, cX5_recipe, 3, (some .int))
def mX5_ofShelf : MM := (yX5_ofShelf, cX5_ofShelf, 3, (some .int))
def mX5_ofLoaf : MM := (yX5_ofLoaf, cX5_ofLoaf, 4, (some .int))
def mX5_ofMemory : MM := (yX5_ofMemory, cX5_ofMemory, 4, (some .int))
def mX5_look : MM := (yX5_look, cX5_look, 5, (some .int))
def mX5_count : MM := (yX5_count, cX5_count, 2, (some .int))
def mX5_fresh : MM := (yX5_fresh, cX5_fresh, 2, (some .int))
def mX5_fits : MM := (yX5_fits, cX5_fits, 4, (some .int))
def mX5_looksAt : MM := (yX5_looksAt, cX5_looksAt, 2, (some .int))
def mX5_changes : MM := (yX5_changes, cX5_changes, 5, (some .int))
def mX5_numberFor : MM := (yX5_numberFor, cX5_numberFor, 5, (some .int))
def mX5_stepsFor : MM := (yX5_stepsFor, cX5_stepsFor, 2, (some .int))
def mX5_undo : MM := (yX5_undo, cX5_undo, 2, (some .int))
def mX5_save : MM := (yX5_save, cX5_save, 2, (some .int))
def mX5_restore : MM := (yX5_restore, cX5_restore, 2, (some .int))
def mX5_recordChange : MM := (yX5_recordChange, cX5_recordChange, 1, none)
def mX5_dropOldestChange : MM := (yX5_dropOldestChange, cX5_dropOldestChange, 3, none)
def mX5_isMemory : MM := (yX5_isMemory, cX5_isMemory, 2, (some .boolean))
def mX5_isShelf : MM := (yX5_isShelf, cX5_isShelf, 1, (some .boolean))
def mX5_isLoaf : MM := (yX5_isLoaf, cX5_isLoaf, 1, (some .boolean))
def mX5_isNumber : MM := (yX5_isNumber, cX5_isNumber, 1, (some .boolean))
def mX5_isSlot : MM := (yX5_isSlot, cX5_isSlot, 1, (some .boolean))
def mX5_isSettingValue : MM := (yX5_isSettingValue, cX5_isSettingValue, 2, (some .boolean))
def mX5_bitOf : MM := (yX5_bitOf, cX5_bitOf, 2, (some .int))
def mX5_lengthOfText : MM := (yX5_lengthOfText, cX5_lengthOfText, 6, (some .int))
def mX6_init : MM := (yX6_init, cX6_init, 1, none)
def mX6_in : MM := (yX6_in, cX6_in, 6, (some .boolean))
def mX6_copyState : MM := (yX6_copyState, cX6_copyState, 5, none)
def mX6_isShelf : MM := (yX6_isShelf, cX6_isShelf, 1, (some .boolean))
def mX6_isLoaf : MM := (yX6_isLoaf, cX6_isLoaf, 1, (some .boolean))
def mX6_memoryAt : MM := (yX6_memoryAt, cX6_memoryAt, 1, (some .int))
def mX6_valueOfShelf : MM := (yX6_valueOfShelf, cX6_valueOfShelf, 2, (some .int))
def mX6_sign : MM := (yX6_sign, cX6_sign, 1, (some .int))
def mX6_lay : MM := (yX6_lay, cX6_lay, 3, none)
def mX6_expect : MM := (yX6_expect, cX6_expect, 3, none)
def mX6_readSimple : MM := (yX6_readSimple, cX6_readSimple, 3, (some .boolean))
def mX6_goOut : MM := (yX6_goOut, cX6_goOut, 4, (some .int))
def mX6_compile : MM := (yX6_compile, cX6_compile, 2, (some .int))
def mX6_type : MM := (yX6_type, cX6_type, 7, (some .int))
def mX6_wipe : MM := (yX6_wipe, cX6_wipe, 2, (some .int))
def mX6_fault : MM := (yX6_fault, cX6_fault, 1, (some .int))
def mX6_memoryNamed : MM := (yX6_memoryNamed, cX6_memoryNamed, 3, (some .int))
def mX6_cutMemory : MM := (yX6_cutMemory, cX6_cutMemory, 3, none)
def mX6_shiftMemories : MM := (yX6_shiftMemories, cX6_shiftMemories, 3, none)
def mX6_useMemory : MM := (yX6_useMemory, cX6_useMemory, 4, none)
def mX6_trim : MM := (yX6_trim, cX6_trim, 1, none)
def mX6_begin : MM := (yX6_begin, cX6_begin, 5, none)
def mX6_nextName : MM := (yX6_nextName, cX6_nextName, 2, none)
def mX6_compare : MM := (yX6_compare, cX6_compare, 5, none)
def mX6_checkMemories : MM := (yX6_checkMemories, cX6_checkMemories, 5, none)
def mX6_push : MM := (yX6_push, cX6_push, 3, none)
def mX6_pop : MM := (yX6_pop, cX6_pop, 2, (some .int))
def mX6_lookOf : MM := (yX6_lookOf, cX6_lookOf, 4, (some .int))
def mX6_endBaking : MM := (yX6_endBaking, cX6_endBaking, 5, none)
def mX6_take : MM := (yX6_take, cX6_take, 5, none)
def mX6_reckon : MM := (yX6_reckon, cX6_reckon, 4, (some .int))
def mX6_bake : MM := (yX6_bake, cX6_bake, 7, none)
def mX6_askOn : MM := (yX6_askOn, cX6_askOn, 6, (some .int))
def mX6_comeBack : MM := (yX6_comeBack, cX6_comeBack, 5, none)
def mX6_record : MM := (yX6_record, cX6_record, 2, none)
def mX6_set : MM := (yX6_set, cX6_set, 4, (some .int))
def mX6_put : MM := (yX6_put, cX6_put, 4, (some .int))
def mX6_poison : MM := (yX6_poison, cX6_poison, 4, (some .int))
def mX6_ask : MM := (yX6_ask, cX6_ask, 2, (some .int))
def mX6_forget : MM := (yX6_forget, cX6_forget, 2, (some .int))
def mX6_recipe : MM := (yX6_recipe, cX6_recipe, 4, (some .int))
def mX6_namedBy : MM := (yX6_namedBy, cX6_namedBy, 5, (some .int))
def mX6_ofShelf : MM := (yX6_ofShelf, cX6_ofShelf, 5, (some .int))
def mX6_ofLoaf : MM := (yX6_ofLoaf, cX6_ofLoaf, 5, (some .int))
def mX6_ofMemory : MM := (yX6_ofMemory, cX6_ofMemory, 3, (some .int))
def mX6_look : MM := (yX6_look, cX6_look, 4, (some .int))
def mX6_count : MM := (yX6_count, cX6_count, 4, (some .int))
def mX6_reckonLoaf : MM := (yX6_reckonLoaf, cX6_reckonLoaf, 7, none)
def mX6_reckonAll : MM := (yX6_reckonAll, cX6_reckonAll, 3, none)
def mX6_fresh : MM := (yX6_fresh, cX6_fresh, 2, (some .int))
def mX6_allAlike : MM := (yX6_allAlike, cX6_allAlike, 6, (some .boolean))
def mX6_fits : MM := (yX6_fits, cX6_fits, 3, (some .int))
def mX6_looksAt : MM := (yX6_looksAt, cX6_looksAt, 2, (some .int))
def mX6_changes : MM := (yX6_changes, cX6_changes, 6, (some .int))
def mX6_numberFor : MM := (yX6_numberFor, cX6_numberFor, 5, (some .int))
def mX6_stepsFor : MM := (yX6_stepsFor, cX6_stepsFor, 2, (some .int))
def mX6_undo : MM := (yX6_undo, cX6_undo, 1, (some .int))
def mX6_save : MM := (yX6_save, cX6_save, 2, (some .int))
def mX6_restore : MM := (yX6_restore, cX6_restore, 2, (some .int))
def mJ7_fill_53178 : MM := (yJ7_fill_53178, cJ7_fill_53178, 4, none)
def mJ7_copyOf_59c91 : MM := (yJ7_copyOf_59c91, cJ7_copyOf_59c91, 3, (some (.array .int)))
def mL_law : MM := (yL_law, cL_law, 4, ret)
