theorem d_X0_init_0 : decode (bc mX0_init) 0 = .ok (.aload_n 0, 1) := by decide +kernel
theorem d_X0_init_1 : decode (bc mX0_init) 1 = .ok (.invokespecial 3, 3) := by decide +kernel
theorem d_X0_init_4 : decode (bc mX0_init) 4 = .ok (.aload_n 0, 1) := by decide +kernel
theorem d_X0_init_5 : decode (bc mX0_init) 5 = .ok (.bipush 6, 2) := by decide +kernel
theorem d_X0_init_7 : decode (bc mX0_init) 7 = .ok (.newarray .int, 2) := by decide +kernel
theorem d_X0_init_9 : decode (bc mX0_init) 9 = .ok (.putfield 9, 3) := by decide +kernel
theorem d_X0_init_12 : decode (bc mX0_init) 12 = .ok (.aload_n 0, 1) := by decide +kernel
theorem d_X0_init_13 : decode (bc mX0_init) 13 = .ok (.bipush 6, 2) := by decide +kernel
theorem d_X0_init_15 : decode (bc mX0_init) 15 = .ok (.anewarray 15, 3) := by decide +kernel
theorem d_X0_init_18 : decode (bc mX0_init) 18 = .ok (.putfield 17, 3) := by decide +kernel
theorem d_X0_init_21 : decode (bc mX0_init) 21 = .ok (.aload_n 0, 1) := by decide +kernel
theorem d_X0_init_22 : decode (bc mX0_init) 22 = .ok (.bipush 6, 2) := by decide +kernel
theorem d_X0_init_24 : decode (bc mX0_init) 24 = .ok (.bipush 60, 2) := by decide +kernel
theorem d_X0_init_26 : decode (bc mX0_init) 26 = .ok (.multianewarray 21 2, 4) := by decide +kernel
theorem d_X0_init_30 : decode (bc mX0_init) 30 = .ok (.putfield 23, 3) := by decide +kernel
theorem d_X0_init_33 : decode (bc mX0_init) 33 = .ok (.aload_n 0, 1) := by decide +kernel
theorem d_X0_init_34 : decode (bc mX0_init) 34 = .ok (.bipush 6, 2) := by decide +kernel
theorem d_X0_init_36 : decode (bc mX0_init) 36 = .ok (.bipush 17, 2) := by decide +kernel
theorem d_X0_init_38 : decode (bc mX0_init) 38 = .ok (.multianewarray 21 2, 4) := by decide +kernel
theorem d_X0_init_42 : decode (bc mX0_init) 42 = .ok (.putfield 26, 3) := by decide +kernel
theorem d_X0_init_45 : decode (bc mX0_init) 45 = .ok (.iconst 0, 1) := by decide +kernel
theorem d_X0_init_46 : decode (bc mX0_init) 46 = .ok (.istore_n 1, 1) := by decide +kernel
theorem d_X0_init_47 : decode (bc mX0_init) 47 = .ok (.iload_n 1, 1) := by decide +kernel
theorem d_X0_init_48 : decode (bc mX0_init) 48 = .ok (.bipush 6, 2) := by decide +kernel
theorem d_X0_init_50 : decode (bc mX0_init) 50 = .ok (.if_icmp .ge 22, 3) := by decide +kernel
theorem d_X0_init_53 : decode (bc mX0_init) 53 = .ok (.aload_n 0, 1) := by decide +kernel
theorem d_X0_init_54 : decode (bc mX0_init) 54 = .ok (.getfield 17, 3) := by decide +kernel
theorem d_X0_init_57 : decode (bc mX0_init) 57 = .ok (.iload_n 1, 1) := by decide +kernel
theorem d_X0_init_58 : decode (bc mX0_init) 58 = .ok (.new 15, 3) := by decide +kernel
theorem d_X0_init_61 : decode (bc mX0_init) 61 = .ok (.dup, 1) := by decide +kernel
theorem d_X0_init_62 : decode (bc mX0_init) 62 = .ok (.invokespecial 29, 3) := by decide +kernel
theorem d_X0_init_65 : decode (bc mX0_init) 65 = .ok (.aastore, 1) := by decide +kernel
theorem d_X0_init_66 : decode (bc mX0_init) 66 = .ok (.iinc 1 1, 3) := by decide +kernel
theorem d_X0_init_69 : decode (bc mX0_init) 69 = .ok (.goto (-22), 3) := by decide +kernel
theorem d_X0_init_72 : decode (bc mX0_init) 72 = .ok (.return_, 1) := by decide +kernel
theorem d_X0_askedResult_0 : decode (bc mX0_askedResult) 0 = .ok (.aload_n 0, 1) := by decide +kernel
theorem d_X0_askedResult_1 : decode (bc mX0_askedResult) 1 = .ok (.aload_n 1, 1) := by decide +kernel
theorem d_X0_askedResult_2 : decode (bc mX0_askedResult) 2 = .ok (.iconst 0, 1) := by decide +kernel
theorem d_X0_askedResult_3 : decode (bc mX0_askedResult) 3 = .ok (.invokevirtual 30, 3) := by decide +kernel
theorem d_X0_askedResult_6 : decode (bc mX0_askedResult) 6 = .ok (.aload_n 0, 1) := by decide +kernel
theorem d_X0_askedResult_7 : decode (bc mX0_askedResult) 7 = .ok (.iload_n 2, 1) := by decide +kernel
theorem d_X0_askedResult_8 : decode (bc mX0_askedResult) 8 = .ok (.bipush 6, 2) := by decide +kernel
theorem d_X0_askedResult_10 : decode (bc mX0_askedResult) 10 = .ok (.invokevirtual 34, 3) := by decide +kernel
theorem d_X0_askedResult_13 : decode (bc mX0_askedResult) 13 = .ok (.ireturn, 1) := by decide +kernel
theorem d_X0_freshResult_0 : decode (bc mX0_freshResult) 0 = .ok (.aload_n 0, 1) := by decide +kernel
theorem d_X0_freshResult_1 : decode (bc mX0_freshResult) 1 = .ok (.aload_n 1, 1) := by decide +kernel
theorem d_X0_freshResult_2 : decode (bc mX0_freshResult) 2 = .ok (.iconst 1, 1) := by decide +kernel
theorem d_X0_freshResult_3 : decode (bc mX0_freshResult) 3 = .ok (.invokevirtual 30, 3) := by decide +kernel
theorem d_X0_freshResult_6 : decode (bc mX0_freshResult) 6 = .ok (.aload_n 0, 1) := by decide +kernel
theorem d_X0_freshResult_7 : decode (bc mX0_freshResult) 7 = .ok (.iload_n 2, 1) := by decide +kernel
theorem d_X0_freshResult_8 : decode (bc mX0_freshResult) 8 = .ok (.bipush 6, 2) := by decide +kernel
theorem d_X0_freshResult_10 : decode (bc mX0_freshResult) 10 = .ok (.invokevirtual 34, 3) := by decide +kernel
theorem d_X0_freshResult_13 : decode (bc mX0_freshResult) 13 = .ok (.ireturn, 1) := by decide +kernel
theorem d_X0_shelvesOfFresh_0 : decode (bc mX0_shelvesOfFresh) 0 = .ok (.aload_n 0, 1) := by decide +kernel
theorem d_X0_shelvesOfFresh_1 : decode (bc mX0_shelvesOfFresh) 1 = .ok (.aload_n 1, 1) := by decide +kernel
theorem d_X0_shelvesOfFresh_2 : decode (bc mX0_shelvesOfFresh) 2 = .ok (.iconst 1, 1) := by decide +kernel
theorem d_X0_shelvesOfFresh_3 : decode (bc mX0_shelvesOfFresh) 3 = .ok (.invokevirtual 30, 3) := by decide +kernel
theorem d_X0_shelvesOfFresh_6 : decode (bc mX0_shelvesOfFresh) 6 = .ok (.aload_n 0, 1) := by decide +kernel
theorem d_X0_shelvesOfFresh_7 : decode (bc mX0_shelvesOfFresh) 7 = .ok (.iload_n 2, 1) := by decide +kernel
theorem d_X0_shelvesOfFresh_8 : decode (bc mX0_shelvesOfFresh) 8 = .ok (.bipush 6, 2) := by decide +kernel
theorem d_X0_shelvesOfFresh_10 : decode (bc mX0_shelvesOfFresh) 10 = .ok (.invokevirtual 34, 3) := by decide +kernel
theorem d_X0_shelvesOfFresh_13 : decode (bc mX0_shelvesOfFresh) 13 = .ok (.pop, 1) := by decide +kernel
theorem d_X0_shelvesOfFresh_14 : decode (bc mX0_shelvesOfFresh) 14 = .ok (.aload_n 0, 1) := by decide +kernel
theorem d_X0_shelvesOfFresh_15 : decode (bc mX0_shelvesOfFresh) 15 = .ok (.getfield 38, 3) := by decide +kernel
theorem d_X0_shelvesOfFresh_18 : decode (bc mX0_shelvesOfFresh) 18 = .ok (.ireturn, 1) := by decide +kernel
theorem d_X0_wouldFit_0 : decode (bc mX0_wouldFit) 0 = .ok (.aload_n 0, 1) := by decide +kernel
theorem d_X0_wouldFit_1 : decode (bc mX0_wouldFit) 1 = .ok (.aload_n 1, 1) := by decide +kernel
theorem d_X0_wouldFit_2 : decode (bc mX0_wouldFit) 2 = .ok (.iconst 1, 1) := by decide +kernel
theorem d_X0_wouldFit_3 : decode (bc mX0_wouldFit) 3 = .ok (.invokevirtual 30, 3) := by decide +kernel
theorem d_X0_wouldFit_6 : decode (bc mX0_wouldFit) 6 = .ok (.iconst 0, 1) := by decide +kernel
theorem d_X0_wouldFit_7 : decode (bc mX0_wouldFit) 7 = .ok (.istore_n 3, 1) := by decide +kernel
theorem d_X0_wouldFit_8 : decode (bc mX0_wouldFit) 8 = .ok (.iload_n 3, 1) := by decide +kernel
theorem d_X0_wouldFit_9 : decode (bc mX0_wouldFit) 9 = .ok (.aload_n 2, 1) := by decide +kernel
theorem d_X0_wouldFit_10 : decode (bc mX0_wouldFit) 10 = .ok (.getfield 42, 3) := by decide +kernel
theorem d_X0_wouldFit_13 : decode (bc mX0_wouldFit) 13 = .ok (.if_icmp .ge 34, 3) := by decide +kernel
theorem d_X0_wouldFit_16 : decode (bc mX0_wouldFit) 16 = .ok (.aload_n 2, 1) := by decide +kernel
theorem d_X0_wouldFit_17 : decode (bc mX0_wouldFit) 17 = .ok (.getfield 45, 3) := by decide +kernel
theorem d_X0_wouldFit_20 : decode (bc mX0_wouldFit) 20 = .ok (.iload_n 3, 1) := by decide +kernel
theorem d_X0_wouldFit_21 : decode (bc mX0_wouldFit) 21 = .ok (.iaload, 1) := by decide +kernel
theorem d_X0_wouldFit_22 : decode (bc mX0_wouldFit) 22 = .ok (.aload_n 0, 1) := by decide +kernel
theorem d_X0_wouldFit_23 : decode (bc mX0_wouldFit) 23 = .ok (.aload_n 2, 1) := by decide +kernel
theorem d_X0_wouldFit_24 : decode (bc mX0_wouldFit) 24 = .ok (.getfield 48, 3) := by decide +kernel
theorem d_X0_wouldFit_27 : decode (bc mX0_wouldFit) 27 = .ok (.iload_n 3, 1) := by decide +kernel
theorem d_X0_wouldFit_28 : decode (bc mX0_wouldFit) 28 = .ok (.iaload, 1) := by decide +kernel
theorem d_X0_wouldFit_29 : decode (bc mX0_wouldFit) 29 = .ok (.aload_n 2, 1) := by decide +kernel
theorem d_X0_wouldFit_30 : decode (bc mX0_wouldFit) 30 = .ok (.getfield 51, 3) := by decide +kernel
theorem d_X0_wouldFit_33 : decode (bc mX0_wouldFit) 33 = .ok (.invokevirtual 54, 3) := by decide +kernel
theorem d_X0_wouldFit_36 : decode (bc mX0_wouldFit) 36 = .ok (.if_icmp .eq 5, 3) := by decide +kernel
theorem d_X0_wouldFit_39 : decode (bc mX0_wouldFit) 39 = .ok (.iconst 0, 1) := by decide +kernel
theorem d_X0_wouldFit_40 : decode (bc mX0_wouldFit) 40 = .ok (.ireturn, 1) := by decide +kernel
theorem d_X0_wouldFit_41 : decode (bc mX0_wouldFit) 41 = .ok (.iinc 3 1, 3) := by decide +kernel
theorem d_X0_wouldFit_44 : decode (bc mX0_wouldFit) 44 = .ok (.goto (-36), 3) := by decide +kernel
theorem d_X0_wouldFit_47 : decode (bc mX0_wouldFit) 47 = .ok (.iconst 1, 1) := by decide +kernel
theorem d_X0_wouldFit_48 : decode (bc mX0_wouldFit) 48 = .ok (.ireturn, 1) := by decide +kernel
theorem d_X0_begin_0 : decode (bc mX0_begin) 0 = .ok (.aload_n 0, 1) := by decide +kernel
theorem d_X0_begin_1 : decode (bc mX0_begin) 1 = .ok (.aload_n 1, 1) := by decide +kernel
theorem d_X0_begin_2 : decode (bc mX0_begin) 2 = .ok (.putfield 57, 3) := by decide +kernel
theorem d_X0_begin_5 : decode (bc mX0_begin) 5 = .ok (.aload_n 0, 1) := by decide +kernel
theorem d_X0_begin_6 : decode (bc mX0_begin) 6 = .ok (.iload_n 2, 1) := by decide +kernel
theorem d_X0_begin_7 : decode (bc mX0_begin) 7 = .ok (.putfield 61, 3) := by decide +kernel
theorem d_X0_begin_10 : decode (bc mX0_begin) 10 = .ok (.aload_n 0, 1) := by decide +kernel
theorem d_X0_begin_11 : decode (bc mX0_begin) 11 = .ok (.iconst 0, 1) := by decide +kernel
theorem d_X0_begin_12 : decode (bc mX0_begin) 12 = .ok (.putfield 38, 3) := by decide +kernel
theorem d_X0_begin_15 : decode (bc mX0_begin) 15 = .ok (.aload_n 0, 1) := by decide +kernel
theorem d_X0_begin_16 : decode (bc mX0_begin) 16 = .ok (.getfield 9, 3) := by decide +kernel
theorem d_X0_begin_19 : decode (bc mX0_begin) 19 = .ok (.iconst (-1), 1) := by decide +kernel
theorem d_X0_begin_20 : decode (bc mX0_begin) 20 = .ok (.invokestatic 65, 3) := by decide +kernel
theorem d_X0_begin_23 : decode (bc mX0_begin) 23 = .ok (.return_, 1) := by decide +kernel
theorem d_X0_loafValue_0 : decode (bc mX0_loafValue) 0 = .ok (.iload_n 1, 1) := by decide +kernel
theorem d_X0_loafValue_1 : decode (bc mX0_loafValue) 1 = .ok (.ifCond .lt 14, 3) := by decide +kernel
theorem d_X0_loafValue_4 : decode (bc mX0_loafValue) 4 = .ok (.iload_n 1, 1) := by decide +kernel
theorem d_X0_loafValue_5 : decode (bc mX0_loafValue) 5 = .ok (.iload_n 2, 1) := by decide +kernel
theorem d_X0_loafValue_6 : decode (bc mX0_loafValue) 6 = .ok (.if_icmp .ge 9, 3) := by decide +kernel
theorem d_X0_loafValue_9 : decode (bc mX0_loafValue) 9 = .ok (.iload_n 1, 1) := by decide +kernel
theorem d_X0_loafValue_10 : decode (bc mX0_loafValue) 10 = .ok (.bipush 6, 2) := by decide +kernel
theorem d_X0_loafValue_12 : decode (bc mX0_loafValue) 12 = .ok (.if_icmp .lt 6, 3) := by decide +kernel
theorem d_X0_loafValue_15 : decode (bc mX0_loafValue) 15 = .ok (.bipush 100, 2) := by decide +kernel
theorem d_X0_loafValue_17 : decode (bc mX0_loafValue) 17 = .ok (.ireturn, 1) := by decide +kernel
theorem d_X0_loafValue_18 : decode (bc mX0_loafValue) 18 = .ok (.aload_n 0, 1) := by decide +kernel
theorem d_X0_loafValue_19 : decode (bc mX0_loafValue) 19 = .ok (.getfield 57, 3) := by decide +kernel
theorem d_X0_loafValue_22 : decode (bc mX0_loafValue) 22 = .ok (.getfield 71, 3) := by decide +kernel
theorem d_X0_loafValue_25 : decode (bc mX0_loafValue) 25 = .ok (.iload_n 1, 1) := by decide +kernel
theorem d_X0_loafValue_26 : decode (bc mX0_loafValue) 26 = .ok (.aaload, 1) := by decide +kernel
theorem d_X0_loafValue_27 : decode (bc mX0_loafValue) 27 = .ok (.astore_n 3, 1) := by decide +kernel
theorem d_X0_loafValue_28 : decode (bc mX0_loafValue) 28 = .ok (.aload_n 3, 1) := by decide +kernel
theorem d_X0_loafValue_29 : decode (bc mX0_loafValue) 29 = .ok (.ifnonnull 6, 3) := by decide +kernel
theorem d_X0_loafValue_32 : decode (bc mX0_loafValue) 32 = .ok (.bipush 100, 2) := by decide +kernel
theorem d_X0_loafValue_34 : decode (bc mX0_loafValue) 34 = .ok (.ireturn, 1) := by decide +kernel
theorem d_X0_loafValue_35 : decode (bc mX0_loafValue) 35 = .ok (.aload_n 0, 1) := by decide +kernel
theorem d_X0_loafValue_36 : decode (bc mX0_loafValue) 36 = .ok (.getfield 61, 3) := by decide +kernel
theorem d_X0_loafValue_39 : decode (bc mX0_loafValue) 39 = .ok (.ifCond .eq 12, 3) := by decide +kernel
theorem d_X0_loafValue_42 : decode (bc mX0_loafValue) 42 = .ok (.aload_n 0, 1) := by decide +kernel
theorem d_X0_loafValue_43 : decode (bc mX0_loafValue) 43 = .ok (.iload_n 1, 1) := by decide +kernel
theorem d_X0_loafValue_44 : decode (bc mX0_loafValue) 44 = .ok (.aload_n 3, 1) := by decide +kernel
theorem d_X0_loafValue_45 : decode (bc mX0_loafValue) 45 = .ok (.invokevirtual 77, 3) := by decide +kernel
theorem d_X0_loafValue_48 : decode (bc mX0_loafValue) 48 = .ok (.goto 9, 3) := by decide +kernel
theorem d_X0_loafValue_51 : decode (bc mX0_loafValue) 51 = .ok (.aload_n 0, 1) := by decide +kernel
theorem d_X0_loafValue_52 : decode (bc mX0_loafValue) 52 = .ok (.iload_n 1, 1) := by decide +kernel
theorem d_X0_loafValue_53 : decode (bc mX0_loafValue) 53 = .ok (.aload_n 3, 1) := by decide +kernel
theorem d_X0_loafValue_54 : decode (bc mX0_loafValue) 54 = .ok (.invokevirtual 81, 3) := by decide +kernel
theorem d_X0_loafValue_57 : decode (bc mX0_loafValue) 57 = .ok (.ireturn, 1) := by decide +kernel
theorem d_X0_freshValue_0 : decode (bc mX0_freshValue) 0 = .ok (.aload_n 0, 1) := by decide +kernel
theorem d_X0_freshValue_1 : decode (bc mX0_freshValue) 1 = .ok (.getfield 9, 3) := by decide +kernel
theorem d_X0_freshValue_4 : decode (bc mX0_freshValue) 4 = .ok (.iload_n 1, 1) := by decide +kernel
theorem d_X0_freshValue_5 : decode (bc mX0_freshValue) 5 = .ok (.iaload, 1) := by decide +kernel
theorem d_X0_freshValue_6 : decode (bc mX0_freshValue) 6 = .ok (.iconst (-1), 1) := by decide +kernel
theorem d_X0_freshValue_7 : decode (bc mX0_freshValue) 7 = .ok (.if_icmp .ne 15, 3) := by decide +kernel
theorem d_X0_freshValue_10 : decode (bc mX0_freshValue) 10 = .ok (.aload_n 0, 1) := by decide +kernel
theorem d_X0_freshValue_11 : decode (bc mX0_freshValue) 11 = .ok (.getfield 9, 3) := by decide +kernel
theorem d_X0_freshValue_14 : decode (bc mX0_freshValue) 14 = .ok (.iload_n 1, 1) := by decide +kernel
theorem d_X0_freshValue_15 : decode (bc mX0_freshValue) 15 = .ok (.aload_n 0, 1) := by decide +kernel
theorem d_X0_freshValue_16 : decode (bc mX0_freshValue) 16 = .ok (.iload_n 1, 1) := by decide +kernel
theorem d_X0_freshValue_17 : decode (bc mX0_freshValue) 17 = .ok (.aload_n 2, 1) := by decide +kernel
theorem d_X0_freshValue_18 : decode (bc mX0_freshValue) 18 = .ok (.invokevirtual 84, 3) := by decide +kernel
theorem d_X0_freshValue_21 : decode (bc mX0_freshValue) 21 = .ok (.iastore, 1) := by decide +kernel
theorem d_X0_freshValue_22 : decode (bc mX0_freshValue) 22 = .ok (.aload_n 0, 1) := by decide +kernel
theorem d_X0_freshValue_23 : decode (bc mX0_freshValue) 23 = .ok (.getfield 9, 3) := by decide +kernel
theorem d_X0_freshValue_26 : decode (bc mX0_freshValue) 26 = .ok (.iload_n 1, 1) := by decide +kernel
theorem d_X0_freshValue_27 : decode (bc mX0_freshValue) 27 = .ok (.iaload, 1) := by decide +kernel
theorem d_X0_freshValue_28 : decode (bc mX0_freshValue) 28 = .ok (.ireturn, 1) := by decide +kernel
theorem d_X0_rememberedValue_0 : decode (bc mX0_rememberedValue) 0 = .ok (.aload_n 0, 1) := by decide +kernel
theorem d_X0_rememberedValue_1 : decode (bc mX0_rememberedValue) 1 = .ok (.iload_n 1, 1) := by decide +kernel
theorem d_X0_rememberedValue_2 : decode (bc mX0_rememberedValue) 2 = .ok (.invokevirtual 87, 3) := by decide +kernel
theorem d_X0_rememberedValue_5 : decode (bc mX0_rememberedValue) 5 = .ok (.istore_n 3, 1) := by decide +kernel
theorem d_X0_rememberedValue_6 : decode (bc mX0_rememberedValue) 6 = .ok (.iload_n 3, 1) := by decide +kernel
theorem d_X0_rememberedValue_7 : decode (bc mX0_rememberedValue) 7 = .ok (.ifCond .lt 58, 3) := by decide +kernel
theorem d_X0_rememberedValue_10 : decode (bc mX0_rememberedValue) 10 = .ok (.aload_n 0, 1) := by decide +kernel
theorem d_X0_rememberedValue_11 : decode (bc mX0_rememberedValue) 11 = .ok (.getfield 57, 3) := by decide +kernel
theorem d_X0_rememberedValue_14 : decode (bc mX0_rememberedValue) 14 = .ok (.getfield 91, 3) := by decide +kernel
theorem d_X0_rememberedValue_17 : decode (bc mX0_rememberedValue) 17 = .ok (.iload_n 3, 1) := by decide +kernel
theorem d_X0_rememberedValue_18 : decode (bc mX0_rememberedValue) 18 = .ok (.aaload, 1) := by decide +kernel
theorem d_X0_rememberedValue_19 : decode (bc mX0_rememberedValue) 19 = .ok (.astore 4, 2) := by decide +kernel
theorem d_X0_rememberedValue_21 : decode (bc mX0_rememberedValue) 21 = .ok (.aload_n 0, 1) := by decide +kernel
theorem d_X0_rememberedValue_22 : decode (bc mX0_rememberedValue) 22 = .ok (.getfield 57, 3) := by decide +kernel
theorem d_X0_rememberedValue_25 : decode (bc mX0_rememberedValue) 25 = .ok (.iload_n 3, 1) := by decide +kernel
theorem d_X0_rememberedValue_26 : decode (bc mX0_rememberedValue) 26 = .ok (.invokevirtual 94, 3) := by decide +kernel
theorem d_X0_rememberedValue_29 : decode (bc mX0_rememberedValue) 29 = .ok (.aload_n 0, 1) := by decide +kernel
theorem d_X0_rememberedValue_30 : decode (bc mX0_rememberedValue) 30 = .ok (.getfield 57, 3) := by decide +kernel
theorem d_X0_rememberedValue_33 : decode (bc mX0_rememberedValue) 33 = .ok (.getfield 98, 3) := by decide +kernel
theorem d_X0_rememberedValue_36 : decode (bc mX0_rememberedValue) 36 = .ok (.iload_n 1, 1) := by decide +kernel
theorem d_X0_rememberedValue_37 : decode (bc mX0_rememberedValue) 37 = .ok (.dup2, 1) := by decide +kernel
theorem d_X0_rememberedValue_38 : decode (bc mX0_rememberedValue) 38 = .ok (.iaload, 1) := by decide +kernel
theorem d_X0_rememberedValue_39 : decode (bc mX0_rememberedValue) 39 = .ok (.iconst 1, 1) := by decide +kernel
theorem d_X0_rememberedValue_40 : decode (bc mX0_rememberedValue) 40 = .ok (.iadd, 1) := by decide +kernel
theorem d_X0_rememberedValue_41 : decode (bc mX0_rememberedValue) 41 = .ok (.iastore, 1) := by decide +kernel
theorem d_X0_rememberedValue_42 : decode (bc mX0_rememberedValue) 42 = .ok (.aload_n 0, 1) := by decide +kernel
theorem d_X0_rememberedValue_43 : decode (bc mX0_rememberedValue) 43 = .ok (.getfield 57, 3) := by decide +kernel
theorem d_X0_rememberedValue_46 : decode (bc mX0_rememberedValue) 46 = .ok (.dup, 1) := by decide +kernel
theorem d_X0_rememberedValue_47 : decode (bc mX0_rememberedValue) 47 = .ok (.getfield 101, 3) := by decide +kernel
theorem d_X0_rememberedValue_50 : decode (bc mX0_rememberedValue) 50 = .ok (.aload 4, 2) := by decide +kernel
theorem d_X0_rememberedValue_52 : decode (bc mX0_rememberedValue) 52 = .ok (.getfield 104, 3) := by decide +kernel
theorem d_X0_rememberedValue_55 : decode (bc mX0_rememberedValue) 55 = .ok (.iadd, 1) := by decide +kernel
theorem d_X0_rememberedValue_56 : decode (bc mX0_rememberedValue) 56 = .ok (.putfield 101, 3) := by decide +kernel
theorem d_X0_rememberedValue_59 : decode (bc mX0_rememberedValue) 59 = .ok (.aload 4, 2) := by decide +kernel
theorem d_X0_rememberedValue_61 : decode (bc mX0_rememberedValue) 61 = .ok (.getfield 107, 3) := by decide +kernel
theorem d_X0_rememberedValue_64 : decode (bc mX0_rememberedValue) 64 = .ok (.ireturn, 1) := by decide +kernel
theorem d_X0_rememberedValue_65 : decode (bc mX0_rememberedValue) 65 = .ok (.aload_n 0, 1) := by decide +kernel
theorem d_X0_rememberedValue_66 : decode (bc mX0_rememberedValue) 66 = .ok (.iload_n 1, 1) := by decide +kernel
theorem d_X0_rememberedValue_67 : decode (bc mX0_rememberedValue) 67 = .ok (.aload_n 2, 1) := by decide +kernel
theorem d_X0_rememberedValue_68 : decode (bc mX0_rememberedValue) 68 = .ok (.invokevirtual 84, 3) := by decide +kernel
theorem d_X0_rememberedValue_71 : decode (bc mX0_rememberedValue) 71 = .ok (.istore 4, 2) := by decide +kernel
theorem d_X0_rememberedValue_73 : decode (bc mX0_rememberedValue) 73 = .ok (.aload_n 0, 1) := by decide +kernel
theorem d_X0_rememberedValue_74 : decode (bc mX0_rememberedValue) 74 = .ok (.getfield 17, 3) := by decide +kernel
theorem d_X0_rememberedValue_77 : decode (bc mX0_rememberedValue) 77 = .ok (.iload_n 1, 1) := by decide +kernel
theorem d_X0_rememberedValue_78 : decode (bc mX0_rememberedValue) 78 = .ok (.aaload, 1) := by decide +kernel
theorem d_X0_rememberedValue_79 : decode (bc mX0_rememberedValue) 79 = .ok (.astore 5, 2) := by decide +kernel
theorem d_X0_rememberedValue_81 : decode (bc mX0_rememberedValue) 81 = .ok (.aload 5, 2) := by decide +kernel
theorem d_X0_rememberedValue_83 : decode (bc mX0_rememberedValue) 83 = .ok (.iload 4, 2) := by decide +kernel
theorem d_X0_rememberedValue_85 : decode (bc mX0_rememberedValue) 85 = .ok (.putfield 107, 3) := by decide +kernel
theorem d_X0_rememberedValue_88 : decode (bc mX0_rememberedValue) 88 = .ok (.aload_n 0, 1) := by decide +kernel
theorem d_X0_rememberedValue_89 : decode (bc mX0_rememberedValue) 89 = .ok (.getfield 57, 3) := by decide +kernel
theorem d_X0_rememberedValue_92 : decode (bc mX0_rememberedValue) 92 = .ok (.getfield 110, 3) := by decide +kernel
theorem d_X0_rememberedValue_95 : decode (bc mX0_rememberedValue) 95 = .ok (.iload_n 1, 1) := by decide +kernel
theorem d_X0_rememberedValue_96 : decode (bc mX0_rememberedValue) 96 = .ok (.dup2, 1) := by decide +kernel
theorem d_X0_rememberedValue_97 : decode (bc mX0_rememberedValue) 97 = .ok (.iaload, 1) := by decide +kernel
theorem d_X0_rememberedValue_98 : decode (bc mX0_rememberedValue) 98 = .ok (.iconst 1, 1) := by decide +kernel
theorem d_X0_rememberedValue_99 : decode (bc mX0_rememberedValue) 99 = .ok (.iadd, 1) := by decide +kernel
theorem d_X0_rememberedValue_100 : decode (bc mX0_rememberedValue) 100 = .ok (.iastore, 1) := by decide +kernel
theorem d_X0_rememberedValue_101 : decode (bc mX0_rememberedValue) 101 = .ok (.aload_n 0, 1) := by decide +kernel
theorem d_X0_rememberedValue_102 : decode (bc mX0_rememberedValue) 102 = .ok (.getfield 57, 3) := by decide +kernel
theorem d_X0_rememberedValue_105 : decode (bc mX0_rememberedValue) 105 = .ok (.dup, 1) := by decide +kernel
theorem d_X0_rememberedValue_106 : decode (bc mX0_rememberedValue) 106 = .ok (.getfield 113, 3) := by decide +kernel
theorem d_X0_rememberedValue_109 : decode (bc mX0_rememberedValue) 109 = .ok (.aload 5, 2) := by decide +kernel
theorem d_X0_rememberedValue_111 : decode (bc mX0_rememberedValue) 111 = .ok (.getfield 104, 3) := by decide +kernel
theorem d_X0_rememberedValue_114 : decode (bc mX0_rememberedValue) 114 = .ok (.iadd, 1) := by decide +kernel
theorem d_X0_rememberedValue_115 : decode (bc mX0_rememberedValue) 115 = .ok (.putfield 113, 3) := by decide +kernel
theorem d_X0_rememberedValue_118 : decode (bc mX0_rememberedValue) 118 = .ok (.iload 4, 2) := by decide +kernel
theorem d_X0_rememberedValue_120 : decode (bc mX0_rememberedValue) 120 = .ok (.bipush 100, 2) := by decide +kernel
theorem d_X0_rememberedValue_122 : decode (bc mX0_rememberedValue) 122 = .ok (.if_icmp .ne 16, 3) := by decide +kernel
theorem d_X0_rememberedValue_125 : decode (bc mX0_rememberedValue) 125 = .ok (.aload_n 0, 1) := by decide +kernel
theorem d_X0_rememberedValue_126 : decode (bc mX0_rememberedValue) 126 = .ok (.getfield 57, 3) := by decide +kernel
theorem d_X0_rememberedValue_129 : decode (bc mX0_rememberedValue) 129 = .ok (.getfield 116, 3) := by decide +kernel
theorem d_X0_rememberedValue_132 : decode (bc mX0_rememberedValue) 132 = .ok (.iconst 1, 1) := by decide +kernel
theorem d_X0_rememberedValue_133 : decode (bc mX0_rememberedValue) 133 = .ok (.iaload, 1) := by decide +kernel
theorem d_X0_rememberedValue_134 : decode (bc mX0_rememberedValue) 134 = .ok (.iconst 1, 1) := by decide +kernel
theorem d_X0_rememberedValue_135 : decode (bc mX0_rememberedValue) 135 = .ok (.if_icmp .ne 12, 3) := by decide +kernel
theorem d_X0_rememberedValue_138 : decode (bc mX0_rememberedValue) 138 = .ok (.aload_n 0, 1) := by decide +kernel
theorem d_X0_rememberedValue_139 : decode (bc mX0_rememberedValue) 139 = .ok (.getfield 57, 3) := by decide +kernel
theorem d_X0_rememberedValue_142 : decode (bc mX0_rememberedValue) 142 = .ok (.aload 5, 2) := by decide +kernel
theorem d_X0_rememberedValue_144 : decode (bc mX0_rememberedValue) 144 = .ok (.invokevirtual 119, 3) := by decide +kernel
theorem d_X0_rememberedValue_147 : decode (bc mX0_rememberedValue) 147 = .ok (.iload 4, 2) := by decide +kernel
theorem d_X0_rememberedValue_149 : decode (bc mX0_rememberedValue) 149 = .ok (.ireturn, 1) := by decide +kernel
theorem d_X0_fittingMemory_0 : decode (bc mX0_fittingMemory) 0 = .ok (.aload_n 0, 1) := by decide +kernel
theorem d_X0_fittingMemory_1 : decode (bc mX0_fittingMemory) 1 = .ok (.getfield 26, 3) := by decide +kernel
theorem d_X0_fittingMemory_4 : decode (bc mX0_fittingMemory) 4 = .ok (.iload_n 1, 1) := by decide +kernel
theorem d_X0_fittingMemory_5 : decode (bc mX0_fittingMemory) 5 = .ok (.aaload, 1) := by decide +kernel
theorem d_X0_fittingMemory_6 : decode (bc mX0_fittingMemory) 6 = .ok (.astore_n 2, 1) := by decide +kernel
theorem d_X0_fittingMemory_7 : decode (bc mX0_fittingMemory) 7 = .ok (.aload_n 0, 1) := by decide +kernel
theorem d_X0_fittingMemory_8 : decode (bc mX0_fittingMemory) 8 = .ok (.getfield 57, 3) := by decide +kernel
theorem d_X0_fittingMemory_11 : decode (bc mX0_fittingMemory) 11 = .ok (.iload_n 1, 1) := by decide +kernel
theorem d_X0_fittingMemory_12 : decode (bc mX0_fittingMemory) 12 = .ok (.aload_n 2, 1) := by decide +kernel
theorem d_X0_fittingMemory_13 : decode (bc mX0_fittingMemory) 13 = .ok (.invokevirtual 123, 3) := by decide +kernel
theorem d_X0_fittingMemory_16 : decode (bc mX0_fittingMemory) 16 = .ok (.istore_n 3, 1) := by decide +kernel
theorem d_X0_fittingMemory_17 : decode (bc mX0_fittingMemory) 17 = .ok (.iconst 0, 1) := by decide +kernel
theorem d_X0_fittingMemory_18 : decode (bc mX0_fittingMemory) 18 = .ok (.istore 4, 2) := by decide +kernel
theorem d_X0_fittingMemory_20 : decode (bc mX0_fittingMemory) 20 = .ok (.iload 4, 2) := by decide +kernel
theorem d_X0_fittingMemory_22 : decode (bc mX0_fittingMemory) 22 = .ok (.iload_n 3, 1) := by decide +kernel
theorem d_X0_fittingMemory_23 : decode (bc mX0_fittingMemory) 23 = .ok (.if_icmp .ge 60, 3) := by decide +kernel
theorem d_X0_fittingMemory_26 : decode (bc mX0_fittingMemory) 26 = .ok (.aload_n 0, 1) := by decide +kernel
theorem d_X0_fittingMemory_27 : decode (bc mX0_fittingMemory) 27 = .ok (.getfield 57, 3) := by decide +kernel
theorem d_X0_fittingMemory_30 : decode (bc mX0_fittingMemory) 30 = .ok (.aload_n 2, 1) := by decide +kernel
theorem d_X0_fittingMemory_31 : decode (bc mX0_fittingMemory) 31 = .ok (.iload 4, 2) := by decide +kernel
theorem d_X0_fittingMemory_33 : decode (bc mX0_fittingMemory) 33 = .ok (.iaload, 1) := by decide +kernel
theorem d_X0_fittingMemory_34 : decode (bc mX0_fittingMemory) 34 = .ok (.invokevirtual 127, 3) := by decide +kernel
theorem d_X0_fittingMemory_37 : decode (bc mX0_fittingMemory) 37 = .ok (.istore 5, 2) := by decide +kernel
theorem d_X0_fittingMemory_39 : decode (bc mX0_fittingMemory) 39 = .ok (.iload 5, 2) := by decide +kernel
theorem d_X0_fittingMemory_41 : decode (bc mX0_fittingMemory) 41 = .ok (.ifCond .lt 36, 3) := by decide +kernel
theorem d_X0_fittingMemory_44 : decode (bc mX0_fittingMemory) 44 = .ok (.aload_n 0, 1) := by decide +kernel
theorem d_X0_fittingMemory_45 : decode (bc mX0_fittingMemory) 45 = .ok (.aload_n 0, 1) := by decide +kernel
theorem d_X0_fittingMemory_46 : decode (bc mX0_fittingMemory) 46 = .ok (.getfield 57, 3) := by decide +kernel
theorem d_X0_fittingMemory_49 : decode (bc mX0_fittingMemory) 49 = .ok (.getfield 91, 3) := by decide +kernel
theorem d_X0_fittingMemory_52 : decode (bc mX0_fittingMemory) 52 = .ok (.iload 5, 2) := by decide +kernel
theorem d_X0_fittingMemory_54 : decode (bc mX0_fittingMemory) 54 = .ok (.aaload, 1) := by decide +kernel
theorem d_X0_fittingMemory_55 : decode (bc mX0_fittingMemory) 55 = .ok (.aload_n 2, 1) := by decide +kernel
theorem d_X0_fittingMemory_56 : decode (bc mX0_fittingMemory) 56 = .ok (.iload 4, 2) := by decide +kernel
theorem d_X0_fittingMemory_58 : decode (bc mX0_fittingMemory) 58 = .ok (.iaload, 1) := by decide +kernel
theorem d_X0_fittingMemory_59 : decode (bc mX0_fittingMemory) 59 = .ok (.invokevirtual 130, 3) := by decide +kernel
theorem d_X0_fittingMemory_62 : decode (bc mX0_fittingMemory) 62 = .ok (.ifCond .eq 15, 3) := by decide +kernel
theorem d_X0_fittingMemory_65 : decode (bc mX0_fittingMemory) 65 = .ok (.aload_n 0, 1) := by decide +kernel
theorem d_X0_fittingMemory_66 : decode (bc mX0_fittingMemory) 66 = .ok (.getfield 57, 3) := by decide +kernel
theorem d_X0_fittingMemory_69 : decode (bc mX0_fittingMemory) 69 = .ok (.aload_n 2, 1) := by decide +kernel
theorem d_X0_fittingMemory_70 : decode (bc mX0_fittingMemory) 70 = .ok (.iload 4, 2) := by decide +kernel
theorem d_X0_fittingMemory_72 : decode (bc mX0_fittingMemory) 72 = .ok (.iaload, 1) := by decide +kernel
theorem d_X0_fittingMemory_73 : decode (bc mX0_fittingMemory) 73 = .ok (.invokevirtual 127, 3) := by decide +kernel
theorem d_X0_fittingMemory_76 : decode (bc mX0_fittingMemory) 76 = .ok (.ireturn, 1) := by decide +kernel
theorem d_X0_fittingMemory_77 : decode (bc mX0_fittingMemory) 77 = .ok (.iinc 4 1, 3) := by decide +kernel
theorem d_X0_fittingMemory_80 : decode (bc mX0_fittingMemory) 80 = .ok (.goto (-60), 3) := by decide +kernel
theorem d_X0_fittingMemory_83 : decode (bc mX0_fittingMemory) 83 = .ok (.iconst (-1), 1) := by decide +kernel
theorem d_X0_fittingMemory_84 : decode (bc mX0_fittingMemory) 84 = .ok (.ireturn, 1) := by decide +kernel
theorem d_X0_isAsItWas_0 : decode (bc mX0_isAsItWas) 0 = .ok (.iconst 0, 1) := by decide +kernel
theorem d_X0_isAsItWas_1 : decode (bc mX0_isAsItWas) 1 = .ok (.istore_n 3, 1) := by decide +kernel
theorem d_X0_isAsItWas_2 : decode (bc mX0_isAsItWas) 2 = .ok (.iload_n 3, 1) := by decide +kernel
theorem d_X0_isAsItWas_3 : decode (bc mX0_isAsItWas) 3 = .ok (.aload_n 1, 1) := by decide +kernel
theorem d_X0_isAsItWas_4 : decode (bc mX0_isAsItWas) 4 = .ok (.getfield 42, 3) := by decide +kernel
theorem d_X0_isAsItWas_7 : decode (bc mX0_isAsItWas) 7 = .ok (.if_icmp .ge 46, 3) := by decide +kernel
theorem d_X0_isAsItWas_10 : decode (bc mX0_isAsItWas) 10 = .ok (.aload_n 0, 1) := by decide +kernel
theorem d_X0_isAsItWas_11 : decode (bc mX0_isAsItWas) 11 = .ok (.aload_n 1, 1) := by decide +kernel
theorem d_X0_isAsItWas_12 : decode (bc mX0_isAsItWas) 12 = .ok (.getfield 48, 3) := by decide +kernel
theorem d_X0_isAsItWas_15 : decode (bc mX0_isAsItWas) 15 = .ok (.iload_n 3, 1) := by decide +kernel
theorem d_X0_isAsItWas_16 : decode (bc mX0_isAsItWas) 16 = .ok (.iaload, 1) := by decide +kernel
theorem d_X0_isAsItWas_17 : decode (bc mX0_isAsItWas) 17 = .ok (.aload_n 1, 1) := by decide +kernel
theorem d_X0_isAsItWas_18 : decode (bc mX0_isAsItWas) 18 = .ok (.getfield 51, 3) := by decide +kernel
theorem d_X0_isAsItWas_21 : decode (bc mX0_isAsItWas) 21 = .ok (.invokevirtual 54, 3) := by decide +kernel
theorem d_X0_isAsItWas_24 : decode (bc mX0_isAsItWas) 24 = .ok (.istore 4, 2) := by decide +kernel
theorem d_X0_isAsItWas_26 : decode (bc mX0_isAsItWas) 26 = .ok (.aload_n 1, 1) := by decide +kernel
theorem d_X0_isAsItWas_27 : decode (bc mX0_isAsItWas) 27 = .ok (.getfield 134, 3) := by decide +kernel
theorem d_X0_isAsItWas_30 : decode (bc mX0_isAsItWas) 30 = .ok (.iload_n 2, 1) := by decide +kernel
theorem d_X0_isAsItWas_31 : decode (bc mX0_isAsItWas) 31 = .ok (.if_icmp .ne 14, 3) := by decide +kernel
theorem d_X0_isAsItWas_34 : decode (bc mX0_isAsItWas) 34 = .ok (.aload_n 1, 1) := by decide +kernel
theorem d_X0_isAsItWas_35 : decode (bc mX0_isAsItWas) 35 = .ok (.getfield 45, 3) := by decide +kernel
theorem d_X0_isAsItWas_38 : decode (bc mX0_isAsItWas) 38 = .ok (.iload_n 3, 1) := by decide +kernel
theorem d_X0_isAsItWas_39 : decode (bc mX0_isAsItWas) 39 = .ok (.iaload, 1) := by decide +kernel
theorem d_X0_isAsItWas_40 : decode (bc mX0_isAsItWas) 40 = .ok (.iload 4, 2) := by decide +kernel
theorem d_X0_isAsItWas_42 : decode (bc mX0_isAsItWas) 42 = .ok (.if_icmp .eq 5, 3) := by decide +kernel
theorem d_X0_isAsItWas_45 : decode (bc mX0_isAsItWas) 45 = .ok (.iconst 0, 1) := by decide +kernel
theorem d_X0_isAsItWas_46 : decode (bc mX0_isAsItWas) 46 = .ok (.ireturn, 1) := by decide +kernel
theorem d_X0_isAsItWas_47 : decode (bc mX0_isAsItWas) 47 = .ok (.iinc 3 1, 3) := by decide +kernel
theorem d_X0_isAsItWas_50 : decode (bc mX0_isAsItWas) 50 = .ok (.goto (-48), 3) := by decide +kernel
theorem d_X0_isAsItWas_53 : decode (bc mX0_isAsItWas) 53 = .ok (.iconst 1, 1) := by decide +kernel
theorem d_X0_isAsItWas_54 : decode (bc mX0_isAsItWas) 54 = .ok (.ireturn, 1) := by decide +kernel
theorem d_X0_valueNow_0 : decode (bc mX0_valueNow) 0 = .ok (.iload_n 1, 1) := by decide +kernel
theorem d_X0_valueNow_1 : decode (bc mX0_valueNow) 1 = .ok (.bipush 20, 2) := by decide +kernel
theorem d_X0_valueNow_3 : decode (bc mX0_valueNow) 3 = .ok (.if_icmp .lt 13, 3) := by decide +kernel
theorem d_X0_valueNow_6 : decode (bc mX0_valueNow) 6 = .ok (.aload_n 0, 1) := by decide +kernel
theorem d_X0_valueNow_7 : decode (bc mX0_valueNow) 7 = .ok (.iload_n 1, 1) := by decide +kernel
theorem d_X0_valueNow_8 : decode (bc mX0_valueNow) 8 = .ok (.bipush 20, 2) := by decide +kernel
theorem d_X0_valueNow_10 : decode (bc mX0_valueNow) 10 = .ok (.isub, 1) := by decide +kernel
theorem d_X0_valueNow_11 : decode (bc mX0_valueNow) 11 = .ok (.iload_n 2, 1) := by decide +kernel
theorem d_X0_valueNow_12 : decode (bc mX0_valueNow) 12 = .ok (.invokevirtual 34, 3) := by decide +kernel
theorem d_X0_valueNow_15 : decode (bc mX0_valueNow) 15 = .ok (.ireturn, 1) := by decide +kernel
theorem d_X0_valueNow_16 : decode (bc mX0_valueNow) 16 = .ok (.iload_n 1, 1) := by decide +kernel
theorem d_X0_valueNow_17 : decode (bc mX0_valueNow) 17 = .ok (.invokestatic 137, 3) := by decide +kernel
theorem d_X0_valueNow_20 : decode (bc mX0_valueNow) 20 = .ok (.ifCond .eq 21, 3) := by decide +kernel
theorem d_X0_valueNow_23 : decode (bc mX0_valueNow) 23 = .ok (.aload_n 0, 1) := by decide +kernel
theorem d_X0_valueNow_24 : decode (bc mX0_valueNow) 24 = .ok (.getfield 57, 3) := by decide +kernel
theorem d_X0_valueNow_27 : decode (bc mX0_valueNow) 27 = .ok (.getfield 141, 3) := by decide +kernel
theorem d_X0_valueNow_30 : decode (bc mX0_valueNow) 30 = .ok (.iload_n 1, 1) := by decide +kernel
theorem d_X0_valueNow_31 : decode (bc mX0_valueNow) 31 = .ok (.invokestatic 144, 3) := by decide +kernel
theorem d_X0_valueNow_34 : decode (bc mX0_valueNow) 34 = .ok (.ifCond .ne 7, 3) := by decide +kernel
theorem d_X0_valueNow_37 : decode (bc mX0_valueNow) 37 = .ok (.iconst 1, 1) := by decide +kernel
theorem d_X0_valueNow_38 : decode (bc mX0_valueNow) 38 = .ok (.goto 4, 3) := by decide +kernel
theorem d_X0_valueNow_41 : decode (bc mX0_valueNow) 41 = .ok (.iconst 0, 1) := by decide +kernel
theorem d_X0_valueNow_42 : decode (bc mX0_valueNow) 42 = .ok (.istore_n 3, 1) := by decide +kernel
theorem d_X0_valueNow_43 : decode (bc mX0_valueNow) 43 = .ok (.iload_n 3, 1) := by decide +kernel
theorem d_X0_valueNow_44 : decode (bc mX0_valueNow) 44 = .ok (.ifCond .eq 15, 3) := by decide +kernel
theorem d_X0_valueNow_47 : decode (bc mX0_valueNow) 47 = .ok (.aload_n 0, 1) := by decide +kernel
theorem d_X0_valueNow_48 : decode (bc mX0_valueNow) 48 = .ok (.getfield 57, 3) := by decide +kernel
theorem d_X0_valueNow_51 : decode (bc mX0_valueNow) 51 = .ok (.getfield 147, 3) := by decide +kernel
theorem d_X0_valueNow_54 : decode (bc mX0_valueNow) 54 = .ok (.iload_n 1, 1) := by decide +kernel
theorem d_X0_valueNow_55 : decode (bc mX0_valueNow) 55 = .ok (.iaload, 1) := by decide +kernel
theorem d_X0_valueNow_56 : decode (bc mX0_valueNow) 56 = .ok (.goto 5, 3) := by decide +kernel
theorem d_X0_valueNow_59 : decode (bc mX0_valueNow) 59 = .ok (.bipush 100, 2) := by decide +kernel
theorem d_X0_valueNow_61 : decode (bc mX0_valueNow) 61 = .ok (.ireturn, 1) := by decide +kernel
theorem d_X0_lookedUp_0 : decode (bc mX0_lookedUp) 0 = .ok (.aload_n 2, 1) := by decide +kernel
theorem d_X0_lookedUp_1 : decode (bc mX0_lookedUp) 1 = .ok (.iload_n 1, 1) := by decide +kernel
theorem d_X0_lookedUp_2 : decode (bc mX0_lookedUp) 2 = .ok (.invokevirtual 150, 3) := by decide +kernel
theorem d_X0_lookedUp_5 : decode (bc mX0_lookedUp) 5 = .ok (.istore_n 3, 1) := by decide +kernel
theorem d_X0_lookedUp_6 : decode (bc mX0_lookedUp) 6 = .ok (.iload_n 3, 1) := by decide +kernel
theorem d_X0_lookedUp_7 : decode (bc mX0_lookedUp) 7 = .ok (.ifCond .lt 10, 3) := by decide +kernel
theorem d_X0_lookedUp_10 : decode (bc mX0_lookedUp) 10 = .ok (.aload_n 2, 1) := by decide +kernel
theorem d_X0_lookedUp_11 : decode (bc mX0_lookedUp) 11 = .ok (.getfield 45, 3) := by decide +kernel
theorem d_X0_lookedUp_14 : decode (bc mX0_lookedUp) 14 = .ok (.iload_n 3, 1) := by decide +kernel
theorem d_X0_lookedUp_15 : decode (bc mX0_lookedUp) 15 = .ok (.iaload, 1) := by decide +kernel
theorem d_X0_lookedUp_16 : decode (bc mX0_lookedUp) 16 = .ok (.ireturn, 1) := by decide +kernel
theorem d_X0_lookedUp_17 : decode (bc mX0_lookedUp) 17 = .ok (.iload_n 1, 1) := by decide +kernel
theorem d_X0_lookedUp_18 : decode (bc mX0_lookedUp) 18 = .ok (.invokestatic 137, 3) := by decide +kernel
theorem d_X0_lookedUp_21 : decode (bc mX0_lookedUp) 21 = .ok (.ifCond .eq 15, 3) := by decide +kernel
theorem d_X0_lookedUp_24 : decode (bc mX0_lookedUp) 24 = .ok (.aload_n 0, 1) := by decide +kernel
theorem d_X0_lookedUp_25 : decode (bc mX0_lookedUp) 25 = .ok (.dup, 1) := by decide +kernel
theorem d_X0_lookedUp_26 : decode (bc mX0_lookedUp) 26 = .ok (.getfield 38, 3) := by decide +kernel
theorem d_X0_lookedUp_29 : decode (bc mX0_lookedUp) 29 = .ok (.iconst 1, 1) := by decide +kernel
theorem d_X0_lookedUp_30 : decode (bc mX0_lookedUp) 30 = .ok (.iload_n 1, 1) := by decide +kernel
theorem d_X0_lookedUp_31 : decode (bc mX0_lookedUp) 31 = .ok (.ishl, 1) := by decide +kernel
theorem d_X0_lookedUp_32 : decode (bc mX0_lookedUp) 32 = .ok (.ior, 1) := by decide +kernel
theorem d_X0_lookedUp_33 : decode (bc mX0_lookedUp) 33 = .ok (.putfield 38, 3) := by decide +kernel
theorem d_X0_lookedUp_36 : decode (bc mX0_lookedUp) 36 = .ok (.aload_n 0, 1) := by decide +kernel
theorem d_X0_lookedUp_37 : decode (bc mX0_lookedUp) 37 = .ok (.iload_n 1, 1) := by decide +kernel
theorem d_X0_lookedUp_38 : decode (bc mX0_lookedUp) 38 = .ok (.aload_n 2, 1) := by decide +kernel
theorem d_X0_lookedUp_39 : decode (bc mX0_lookedUp) 39 = .ok (.getfield 51, 3) := by decide +kernel
theorem d_X0_lookedUp_42 : decode (bc mX0_lookedUp) 42 = .ok (.invokevirtual 54, 3) := by decide +kernel
theorem d_X0_lookedUp_45 : decode (bc mX0_lookedUp) 45 = .ok (.istore 4, 2) := by decide +kernel
theorem d_X0_lookedUp_47 : decode (bc mX0_lookedUp) 47 = .ok (.aload_n 2, 1) := by decide +kernel
theorem d_X0_lookedUp_48 : decode (bc mX0_lookedUp) 48 = .ok (.iload_n 1, 1) := by decide +kernel
theorem d_X0_lookedUp_49 : decode (bc mX0_lookedUp) 49 = .ok (.iload 4, 2) := by decide +kernel
theorem d_X0_lookedUp_51 : decode (bc mX0_lookedUp) 51 = .ok (.invokevirtual 153, 3) := by decide +kernel
theorem d_X0_lookedUp_54 : decode (bc mX0_lookedUp) 54 = .ok (.iload 4, 2) := by decide +kernel
theorem d_X0_lookedUp_56 : decode (bc mX0_lookedUp) 56 = .ok (.ireturn, 1) := by decide +kernel
theorem d_X0_reckon_0 : decode (bc mX0_reckon) 0 = .ok (.aload_n 0, 1) := by decide +kernel
theorem d_X0_reckon_1 : decode (bc mX0_reckon) 1 = .ok (.getfield 17, 3) := by decide +kernel
theorem d_X0_reckon_4 : decode (bc mX0_reckon) 4 = .ok (.iload_n 1, 1) := by decide +kernel
theorem d_X0_reckon_5 : decode (bc mX0_reckon) 5 = .ok (.aaload, 1) := by decide +kernel
theorem d_X0_reckon_6 : decode (bc mX0_reckon) 6 = .ok (.astore_n 3, 1) := by decide +kernel
theorem d_X0_reckon_7 : decode (bc mX0_reckon) 7 = .ok (.aload_n 3, 1) := by decide +kernel
theorem d_X0_reckon_8 : decode (bc mX0_reckon) 8 = .ok (.iload_n 1, 1) := by decide +kernel
theorem d_X0_reckon_9 : decode (bc mX0_reckon) 9 = .ok (.invokevirtual 157, 3) := by decide +kernel
theorem d_X0_reckon_12 : decode (bc mX0_reckon) 12 = .ok (.aload_n 0, 1) := by decide +kernel
theorem d_X0_reckon_13 : decode (bc mX0_reckon) 13 = .ok (.getfield 23, 3) := by decide +kernel
theorem d_X0_reckon_16 : decode (bc mX0_reckon) 16 = .ok (.iload_n 1, 1) := by decide +kernel
theorem d_X0_reckon_17 : decode (bc mX0_reckon) 17 = .ok (.aaload, 1) := by decide +kernel
theorem d_X0_reckon_18 : decode (bc mX0_reckon) 18 = .ok (.astore 4, 2) := by decide +kernel
theorem d_X0_reckon_20 : decode (bc mX0_reckon) 20 = .ok (.iconst 0, 1) := by decide +kernel
theorem d_X0_reckon_21 : decode (bc mX0_reckon) 21 = .ok (.istore 5, 2) := by decide +kernel
theorem d_X0_reckon_23 : decode (bc mX0_reckon) 23 = .ok (.iconst 0, 1) := by decide +kernel
theorem d_X0_reckon_24 : decode (bc mX0_reckon) 24 = .ok (.istore 6, 2) := by decide +kernel
theorem d_X0_reckon_26 : decode (bc mX0_reckon) 26 = .ok (.iconst 0, 1) := by decide +kernel
theorem d_X0_reckon_27 : decode (bc mX0_reckon) 27 = .ok (.istore 7, 2) := by decide +kernel
theorem d_X0_reckon_29 : decode (bc mX0_reckon) 29 = .ok (.iload 7, 2) := by decide +kernel
theorem d_X0_reckon_31 : decode (bc mX0_reckon) 31 = .ok (.aload_n 2, 1) := by decide +kernel
theorem d_X0_reckon_32 : decode (bc mX0_reckon) 32 = .ok (.getfield 159, 3) := by decide +kernel
theorem d_X0_reckon_35 : decode (bc mX0_reckon) 35 = .ok (.if_icmp .ge 202, 3) := by decide +kernel
theorem d_X0_reckon_38 : decode (bc mX0_reckon) 38 = .ok (.iload 6, 2) := by decide +kernel
theorem d_X0_reckon_40 : decode (bc mX0_reckon) 40 = .ok (.aload_n 2, 1) := by decide +kernel
theorem d_X0_reckon_41 : decode (bc mX0_reckon) 41 = .ok (.getfield 159, 3) := by decide +kernel
theorem d_X0_reckon_44 : decode (bc mX0_reckon) 44 = .ok (.if_icmp .ge 193, 3) := by decide +kernel
theorem d_X0_reckon_47 : decode (bc mX0_reckon) 47 = .ok (.aload_n 2, 1) := by decide +kernel
theorem d_X0_reckon_48 : decode (bc mX0_reckon) 48 = .ok (.getfield 164, 3) := by decide +kernel
theorem d_X0_reckon_51 : decode (bc mX0_reckon) 51 = .ok (.iload 6, 2) := by decide +kernel
theorem d_X0_reckon_53 : decode (bc mX0_reckon) 53 = .ok (.iaload, 1) := by decide +kernel
theorem d_X0_reckon_54 : decode (bc mX0_reckon) 54 = .ok (.istore 8, 2) := by decide +kernel
theorem d_X0_reckon_56 : decode (bc mX0_reckon) 56 = .ok (.aload_n 2, 1) := by decide +kernel
theorem d_X0_reckon_57 : decode (bc mX0_reckon) 57 = .ok (.getfield 167, 3) := by decide +kernel
theorem d_X0_reckon_60 : decode (bc mX0_reckon) 60 = .ok (.iload 6, 2) := by decide +kernel
theorem d_X0_reckon_62 : decode (bc mX0_reckon) 62 = .ok (.iaload, 1) := by decide +kernel
theorem d_X0_reckon_63 : decode (bc mX0_reckon) 63 = .ok (.istore 9, 2) := by decide +kernel
theorem d_X0_reckon_65 : decode (bc mX0_reckon) 65 = .ok (.iinc 6 1, 3) := by decide +kernel
theorem d_X0_reckon_68 : decode (bc mX0_reckon) 68 = .ok (.iload 8, 2) := by decide +kernel
theorem d_X0_reckon_70 : decode (bc mX0_reckon) 70 = .ok (.bipush 6, 2) := by decide +kernel
theorem d_X0_reckon_72 : decode (bc mX0_reckon) 72 = .ok (.if_icmp .ne 15, 3) := by decide +kernel
theorem d_X0_reckon_75 : decode (bc mX0_reckon) 75 = .ok (.iload 6, 2) := by decide +kernel
theorem d_X0_reckon_77 : decode (bc mX0_reckon) 77 = .ok (.iload 9, 2) := by decide +kernel
theorem d_X0_reckon_79 : decode (bc mX0_reckon) 79 = .ok (.invokestatic 170, 3) := by decide +kernel
theorem d_X0_reckon_82 : decode (bc mX0_reckon) 82 = .ok (.istore 6, 2) := by decide +kernel
theorem d_X0_reckon_84 : decode (bc mX0_reckon) 84 = .ok (.goto 147, 3) := by decide +kernel
theorem d_X0_reckon_87 : decode (bc mX0_reckon) 87 = .ok (.aload_n 3, 1) := by decide +kernel
theorem d_X0_reckon_88 : decode (bc mX0_reckon) 88 = .ok (.dup, 1) := by decide +kernel
theorem d_X0_reckon_89 : decode (bc mX0_reckon) 89 = .ok (.getfield 104, 3) := by decide +kernel
theorem d_X0_reckon_92 : decode (bc mX0_reckon) 92 = .ok (.iconst 1, 1) := by decide +kernel
theorem d_X0_reckon_93 : decode (bc mX0_reckon) 93 = .ok (.iadd, 1) := by decide +kernel
theorem d_X0_reckon_94 : decode (bc mX0_reckon) 94 = .ok (.putfield 104, 3) := by decide +kernel
theorem d_X0_reckon_97 : decode (bc mX0_reckon) 97 = .ok (.iload 8, 2) := by decide +kernel
theorem d_X0_reckon_99 : decode (bc mX0_reckon) 99 = .ok (.ifCond .eq 9, 3) := by decide +kernel
theorem d_X0_reckon_102 : decode (bc mX0_reckon) 102 = .ok (.iload 8, 2) := by decide +kernel
theorem d_X0_reckon_104 : decode (bc mX0_reckon) 104 = .ok (.iconst 1, 1) := by decide +kernel
theorem d_X0_reckon_105 : decode (bc mX0_reckon) 105 = .ok (.if_icmp .ne 53, 3) := by decide +kernel
theorem d_X0_reckon_108 : decode (bc mX0_reckon) 108 = .ok (.iload 8, 2) := by decide +kernel
theorem d_X0_reckon_110 : decode (bc mX0_reckon) 110 = .ok (.ifCond .ne 13, 3) := by decide +kernel
theorem d_X0_reckon_113 : decode (bc mX0_reckon) 113 = .ok (.aload_n 0, 1) := by decide +kernel
theorem d_X0_reckon_114 : decode (bc mX0_reckon) 114 = .ok (.iload 9, 2) := by decide +kernel
theorem d_X0_reckon_116 : decode (bc mX0_reckon) 116 = .ok (.aload_n 3, 1) := by decide +kernel
theorem d_X0_reckon_117 : decode (bc mX0_reckon) 117 = .ok (.invokevirtual 175, 3) := by decide +kernel
theorem d_X0_reckon_120 : decode (bc mX0_reckon) 120 = .ok (.goto 5, 3) := by decide +kernel
theorem d_X0_reckon_123 : decode (bc mX0_reckon) 123 = .ok (.iload 9, 2) := by decide +kernel
theorem d_X0_reckon_125 : decode (bc mX0_reckon) 125 = .ok (.istore 10, 2) := by decide +kernel
theorem d_X0_reckon_127 : decode (bc mX0_reckon) 127 = .ok (.iload 10, 2) := by decide +kernel
theorem d_X0_reckon_129 : decode (bc mX0_reckon) 129 = .ok (.bipush 100, 2) := by decide +kernel
theorem d_X0_reckon_131 : decode (bc mX0_reckon) 131 = .ok (.if_icmp .eq 11, 3) := by decide +kernel
theorem d_X0_reckon_134 : decode (bc mX0_reckon) 134 = .ok (.iload 5, 2) := by decide +kernel
theorem d_X0_reckon_136 : decode (bc mX0_reckon) 136 = .ok (.aload 4, 2) := by decide +kernel
theorem d_X0_reckon_138 : decode (bc mX0_reckon) 138 = .ok (.arraylength, 1) := by decide +kernel
theorem d_X0_reckon_139 : decode (bc mX0_reckon) 139 = .ok (.if_icmp .lt 6, 3) := by decide +kernel
theorem d_X0_reckon_142 : decode (bc mX0_reckon) 142 = .ok (.bipush 100, 2) := by decide +kernel
theorem d_X0_reckon_144 : decode (bc mX0_reckon) 144 = .ok (.ireturn, 1) := by decide +kernel
theorem d_X0_reckon_145 : decode (bc mX0_reckon) 145 = .ok (.aload 4, 2) := by decide +kernel
theorem d_X0_reckon_147 : decode (bc mX0_reckon) 147 = .ok (.iload 5, 2) := by decide +kernel
theorem d_X0_reckon_149 : decode (bc mX0_reckon) 149 = .ok (.iload 10, 2) := by decide +kernel
theorem d_X0_reckon_151 : decode (bc mX0_reckon) 151 = .ok (.iastore, 1) := by decide +kernel
theorem d_X0_reckon_152 : decode (bc mX0_reckon) 152 = .ok (.iinc 5 1, 3) := by decide +kernel
theorem d_X0_reckon_155 : decode (bc mX0_reckon) 155 = .ok (.goto 76, 3) := by decide +kernel
theorem d_X0_reckon_158 : decode (bc mX0_reckon) 158 = .ok (.iload 8, 2) := by decide +kernel
theorem d_X0_reckon_160 : decode (bc mX0_reckon) 160 = .ok (.iconst 5, 1) := by decide +kernel
theorem d_X0_reckon_161 : decode (bc mX0_reckon) 161 = .ok (.if_icmp .ne 37, 3) := by decide +kernel
theorem d_X0_reckon_164 : decode (bc mX0_reckon) 164 = .ok (.iload 5, 2) := by decide +kernel
theorem d_X0_reckon_166 : decode (bc mX0_reckon) 166 = .ok (.iconst 1, 1) := by decide +kernel
theorem d_X0_reckon_167 : decode (bc mX0_reckon) 167 = .ok (.if_icmp .lt 31, 3) := by decide +kernel
theorem d_X0_reckon_170 : decode (bc mX0_reckon) 170 = .ok (.iinc 5 (-1), 3) := by decide +kernel
theorem d_X0_reckon_173 : decode (bc mX0_reckon) 173 = .ok (.aload 4, 2) := by decide +kernel
theorem d_X0_reckon_175 : decode (bc mX0_reckon) 175 = .ok (.iload 5, 2) := by decide +kernel
theorem d_X0_reckon_177 : decode (bc mX0_reckon) 177 = .ok (.iaload, 1) := by decide +kernel
theorem d_X0_reckon_178 : decode (bc mX0_reckon) 178 = .ok (.ifCond .ne 13, 3) := by decide +kernel
theorem d_X0_reckon_181 : decode (bc mX0_reckon) 181 = .ok (.iload 6, 2) := by decide +kernel
theorem d_X0_reckon_183 : decode (bc mX0_reckon) 183 = .ok (.iload 9, 2) := by decide +kernel
theorem d_X0_reckon_185 : decode (bc mX0_reckon) 185 = .ok (.invokestatic 170, 3) := by decide +kernel
theorem d_X0_reckon_188 : decode (bc mX0_reckon) 188 = .ok (.goto 5, 3) := by decide +kernel
theorem d_X0_reckon_191 : decode (bc mX0_reckon) 191 = .ok (.iload 6, 2) := by decide +kernel
theorem d_X0_reckon_193 : decode (bc mX0_reckon) 193 = .ok (.istore 6, 2) := by decide +kernel
theorem d_X0_reckon_195 : decode (bc mX0_reckon) 195 = .ok (.goto 36, 3) := by decide +kernel
theorem d_X0_reckon_198 : decode (bc mX0_reckon) 198 = .ok (.iload 5, 2) := by decide +kernel
theorem d_X0_reckon_200 : decode (bc mX0_reckon) 200 = .ok (.iconst 2, 1) := by decide +kernel
theorem d_X0_reckon_201 : decode (bc mX0_reckon) 201 = .ok (.if_icmp .lt 30, 3) := by decide +kernel
theorem d_X0_reckon_204 : decode (bc mX0_reckon) 204 = .ok (.iinc 5 (-1), 3) := by decide +kernel
theorem d_X0_reckon_207 : decode (bc mX0_reckon) 207 = .ok (.aload 4, 2) := by decide +kernel
theorem d_X0_reckon_209 : decode (bc mX0_reckon) 209 = .ok (.iload 5, 2) := by decide +kernel
theorem d_X0_reckon_211 : decode (bc mX0_reckon) 211 = .ok (.iconst 1, 1) := by decide +kernel
theorem d_X0_reckon_212 : decode (bc mX0_reckon) 212 = .ok (.isub, 1) := by decide +kernel
theorem d_X0_reckon_213 : decode (bc mX0_reckon) 213 = .ok (.iload 8, 2) := by decide +kernel
theorem d_X0_reckon_215 : decode (bc mX0_reckon) 215 = .ok (.aload 4, 2) := by decide +kernel
theorem d_X0_reckon_217 : decode (bc mX0_reckon) 217 = .ok (.iload 5, 2) := by decide +kernel
theorem d_X0_reckon_219 : decode (bc mX0_reckon) 219 = .ok (.iconst 1, 1) := by decide +kernel
theorem d_X0_reckon_220 : decode (bc mX0_reckon) 220 = .ok (.isub, 1) := by decide +kernel
theorem d_X0_reckon_221 : decode (bc mX0_reckon) 221 = .ok (.iaload, 1) := by decide +kernel
theorem d_X0_reckon_222 : decode (bc mX0_reckon) 222 = .ok (.aload 4, 2) := by decide +kernel
theorem d_X0_reckon_224 : decode (bc mX0_reckon) 224 = .ok (.iload 5, 2) := by decide +kernel
theorem d_X0_reckon_226 : decode (bc mX0_reckon) 226 = .ok (.iaload, 1) := by decide +kernel
theorem d_X0_reckon_227 : decode (bc mX0_reckon) 227 = .ok (.invokestatic 179, 3) := by decide +kernel
theorem d_X0_reckon_230 : decode (bc mX0_reckon) 230 = .ok (.iastore, 1) := by decide +kernel
theorem d_X0_reckon_231 : decode (bc mX0_reckon) 231 = .ok (.iinc 7 1, 3) := by decide +kernel
theorem d_X0_reckon_234 : decode (bc mX0_reckon) 234 = .ok (.goto (-205), 3) := by decide +kernel
theorem d_X0_reckon_237 : decode (bc mX0_reckon) 237 = .ok (.iload 5, 2) := by decide +kernel
theorem d_X0_reckon_239 : decode (bc mX0_reckon) 239 = .ok (.iconst 1, 1) := by decide +kernel
theorem d_X0_reckon_240 : decode (bc mX0_reckon) 240 = .ok (.if_icmp .lt 13, 3) := by decide +kernel
theorem d_X0_reckon_243 : decode (bc mX0_reckon) 243 = .ok (.aload 4, 2) := by decide +kernel
theorem d_X0_reckon_245 : decode (bc mX0_reckon) 245 = .ok (.iload 5, 2) := by decide +kernel
theorem d_X0_reckon_247 : decode (bc mX0_reckon) 247 = .ok (.iconst 1, 1) := by decide +kernel
theorem d_X0_reckon_248 : decode (bc mX0_reckon) 248 = .ok (.isub, 1) := by decide +kernel
theorem d_X0_reckon_249 : decode (bc mX0_reckon) 249 = .ok (.iaload, 1) := by decide +kernel
theorem d_X0_reckon_250 : decode (bc mX0_reckon) 250 = .ok (.goto 5, 3) := by decide +kernel
theorem d_X0_reckon_253 : decode (bc mX0_reckon) 253 = .ok (.bipush 100, 2) := by decide +kernel
theorem d_X0_reckon_255 : decode (bc mX0_reckon) 255 = .ok (.ireturn, 1) := by decide +kernel
theorem d_X0_joined_0 : decode (bc mX0_joined) 0 = .ok (.iload_n 0, 1) := by decide +kernel
theorem d_X0_joined_1 : decode (bc mX0_joined) 1 = .ok (.lookupswitch 44 #[(2, 27), (3, 34)], 27) := by decide +kernel
theorem d_X0_joined_28 : decode (bc mX0_joined) 28 = .ok (.iload_n 1, 1) := by decide +kernel
theorem d_X0_joined_29 : decode (bc mX0_joined) 29 = .ok (.iload_n 2, 1) := by decide +kernel
theorem d_X0_joined_30 : decode (bc mX0_joined) 30 = .ok (.iadd, 1) := by decide +kernel
theorem d_X0_joined_31 : decode (bc mX0_joined) 31 = .ok (.bipush 100, 2) := by decide +kernel
theorem d_X0_joined_33 : decode (bc mX0_joined) 33 = .ok (.irem, 1) := by decide +kernel
theorem d_X0_joined_34 : decode (bc mX0_joined) 34 = .ok (.ireturn, 1) := by decide +kernel
theorem d_X0_joined_35 : decode (bc mX0_joined) 35 = .ok (.iload_n 1, 1) := by decide +kernel
theorem d_X0_joined_36 : decode (bc mX0_joined) 36 = .ok (.iload_n 2, 1) := by decide +kernel
theorem d_X0_joined_37 : decode (bc mX0_joined) 37 = .ok (.isub, 1) := by decide +kernel
theorem d_X0_joined_38 : decode (bc mX0_joined) 38 = .ok (.bipush 100, 2) := by decide +kernel
theorem d_X0_joined_40 : decode (bc mX0_joined) 40 = .ok (.iadd, 1) := by decide +kernel
theorem d_X0_joined_41 : decode (bc mX0_joined) 41 = .ok (.bipush 100, 2) := by decide +kernel
theorem d_X0_joined_43 : decode (bc mX0_joined) 43 = .ok (.irem, 1) := by decide +kernel
theorem d_X0_joined_44 : decode (bc mX0_joined) 44 = .ok (.ireturn, 1) := by decide +kernel
theorem d_X0_joined_45 : decode (bc mX0_joined) 45 = .ok (.iload_n 1, 1) := by decide +kernel
theorem d_X0_joined_46 : decode (bc mX0_joined) 46 = .ok (.iload_n 2, 1) := by decide +kernel
theorem d_X0_joined_47 : decode (bc mX0_joined) 47 = .ok (.imul, 1) := by decide +kernel
theorem d_X0_joined_48 : decode (bc mX0_joined) 48 = .ok (.bipush 100, 2) := by decide +kernel
theorem d_X0_joined_50 : decode (bc mX0_joined) 50 = .ok (.irem, 1) := by decide +kernel
theorem d_X0_joined_51 : decode (bc mX0_joined) 51 = .ok (.ireturn, 1) := by decide +kernel
theorem d_X1_init_0 : decode (bc mX1_init) 0 = .ok (.aload_n 0, 1) := by decide +kernel
theorem d_X1_init_1 : decode (bc mX1_init) 1 = .ok (.invokespecial 3, 3) := by decide +kernel
theorem d_X1_init_4 : decode (bc mX1_init) 4 = .ok (.aload_n 0, 1) := by decide +kernel
theorem d_X1_init_5 : decode (bc mX1_init) 5 = .ok (.bipush 18, 2) := by decide +kernel
theorem d_X1_init_7 : decode (bc mX1_init) 7 = .ok (.newarray .int, 2) := by decide +kernel
theorem d_X1_init_9 : decode (bc mX1_init) 9 = .ok (.putfield 9, 3) := by decide +kernel
theorem d_X1_init_12 : decode (bc mX1_init) 12 = .ok (.aload_n 0, 1) := by decide +kernel
theorem d_X1_init_13 : decode (bc mX1_init) 13 = .ok (.bipush 18, 2) := by decide +kernel
theorem d_X1_init_15 : decode (bc mX1_init) 15 = .ok (.newarray .int, 2) := by decide +kernel
theorem d_X1_init_17 : decode (bc mX1_init) 17 = .ok (.putfield 15, 3) := by decide +kernel
theorem d_X1_init_20 : decode (bc mX1_init) 20 = .ok (.return_, 1) := by decide +kernel
theorem d_X1_begin_0 : decode (bc mX1_begin) 0 = .ok (.aload_n 0, 1) := by decide +kernel
theorem d_X1_begin_1 : decode (bc mX1_begin) 1 = .ok (.iload_n 1, 1) := by decide +kernel
theorem d_X1_begin_2 : decode (bc mX1_begin) 2 = .ok (.putfield 18, 3) := by decide +kernel
theorem d_X1_begin_5 : decode (bc mX1_begin) 5 = .ok (.aload_n 0, 1) := by decide +kernel
theorem d_X1_begin_6 : decode (bc mX1_begin) 6 = .ok (.bipush 100, 2) := by decide +kernel
theorem d_X1_begin_8 : decode (bc mX1_begin) 8 = .ok (.putfield 22, 3) := by decide +kernel
theorem d_X1_begin_11 : decode (bc mX1_begin) 11 = .ok (.aload_n 0, 1) := by decide +kernel
theorem d_X1_begin_12 : decode (bc mX1_begin) 12 = .ok (.iconst 0, 1) := by decide +kernel
theorem d_X1_begin_13 : decode (bc mX1_begin) 13 = .ok (.putfield 25, 3) := by decide +kernel
theorem d_X1_begin_16 : decode (bc mX1_begin) 16 = .ok (.aload_n 0, 1) := by decide +kernel
theorem d_X1_begin_17 : decode (bc mX1_begin) 17 = .ok (.iconst 0, 1) := by decide +kernel
theorem d_X1_begin_18 : decode (bc mX1_begin) 18 = .ok (.putfield 28, 3) := by decide +kernel
theorem d_X1_begin_21 : decode (bc mX1_begin) 21 = .ok (.aload_n 0, 1) := by decide +kernel
theorem d_X1_begin_22 : decode (bc mX1_begin) 22 = .ok (.iconst 0, 1) := by decide +kernel
theorem d_X1_begin_23 : decode (bc mX1_begin) 23 = .ok (.putfield 31, 3) := by decide +kernel
theorem d_X1_begin_26 : decode (bc mX1_begin) 26 = .ok (.aload_n 0, 1) := by decide +kernel
theorem d_X1_begin_27 : decode (bc mX1_begin) 27 = .ok (.iconst 0, 1) := by decide +kernel
theorem d_X1_begin_28 : decode (bc mX1_begin) 28 = .ok (.putfield 34, 3) := by decide +kernel
theorem d_X1_begin_31 : decode (bc mX1_begin) 31 = .ok (.return_, 1) := by decide +kernel
theorem d_X1_addLook_0 : decode (bc mX1_addLook) 0 = .ok (.aload_n 0, 1) := by decide +kernel
theorem d_X1_addLook_1 : decode (bc mX1_addLook) 1 = .ok (.getfield 34, 3) := by decide +kernel
theorem d_X1_addLook_4 : decode (bc mX1_addLook) 4 = .ok (.bipush 18, 2) := by decide +kernel
theorem d_X1_addLook_6 : decode (bc mX1_addLook) 6 = .ok (.if_icmp .ge 33, 3) := by decide +kernel
theorem d_X1_addLook_9 : decode (bc mX1_addLook) 9 = .ok (.aload_n 0, 1) := by decide +kernel
theorem d_X1_addLook_10 : decode (bc mX1_addLook) 10 = .ok (.getfield 9, 3) := by decide +kernel
theorem d_X1_addLook_13 : decode (bc mX1_addLook) 13 = .ok (.aload_n 0, 1) := by decide +kernel
theorem d_X1_addLook_14 : decode (bc mX1_addLook) 14 = .ok (.getfield 34, 3) := by decide +kernel
theorem d_X1_addLook_17 : decode (bc mX1_addLook) 17 = .ok (.iload_n 1, 1) := by decide +kernel
theorem d_X1_addLook_18 : decode (bc mX1_addLook) 18 = .ok (.iastore, 1) := by decide +kernel
theorem d_X1_addLook_19 : decode (bc mX1_addLook) 19 = .ok (.aload_n 0, 1) := by decide +kernel
theorem d_X1_addLook_20 : decode (bc mX1_addLook) 20 = .ok (.getfield 15, 3) := by decide +kernel
theorem d_X1_addLook_23 : decode (bc mX1_addLook) 23 = .ok (.aload_n 0, 1) := by decide +kernel
theorem d_X1_addLook_24 : decode (bc mX1_addLook) 24 = .ok (.getfield 34, 3) := by decide +kernel
theorem d_X1_addLook_27 : decode (bc mX1_addLook) 27 = .ok (.iload_n 2, 1) := by decide +kernel
theorem d_X1_addLook_28 : decode (bc mX1_addLook) 28 = .ok (.iastore, 1) := by decide +kernel
theorem d_X1_addLook_29 : decode (bc mX1_addLook) 29 = .ok (.aload_n 0, 1) := by decide +kernel
theorem d_X1_addLook_30 : decode (bc mX1_addLook) 30 = .ok (.dup, 1) := by decide +kernel
theorem d_X1_addLook_31 : decode (bc mX1_addLook) 31 = .ok (.getfield 34, 3) := by decide +kernel
theorem d_X1_addLook_34 : decode (bc mX1_addLook) 34 = .ok (.iconst 1, 1) := by decide +kernel
theorem d_X1_addLook_35 : decode (bc mX1_addLook) 35 = .ok (.iadd, 1) := by decide +kernel
theorem d_X1_addLook_36 : decode (bc mX1_addLook) 36 = .ok (.putfield 34, 3) := by decide +kernel
theorem d_X1_addLook_39 : decode (bc mX1_addLook) 39 = .ok (.return_, 1) := by decide +kernel
theorem d_X1_placeOfLook_0 : decode (bc mX1_placeOfLook) 0 = .ok (.iconst 0, 1) := by decide +kernel
theorem d_X1_placeOfLook_1 : decode (bc mX1_placeOfLook) 1 = .ok (.istore_n 2, 1) := by decide +kernel
theorem d_X1_placeOfLook_2 : decode (bc mX1_placeOfLook) 2 = .ok (.iload_n 2, 1) := by decide +kernel
theorem d_X1_placeOfLook_3 : decode (bc mX1_placeOfLook) 3 = .ok (.aload_n 0, 1) := by decide +kernel
theorem d_X1_placeOfLook_4 : decode (bc mX1_placeOfLook) 4 = .ok (.getfield 34, 3) := by decide +kernel
theorem d_X1_placeOfLook_7 : decode (bc mX1_placeOfLook) 7 = .ok (.if_icmp .ge 21, 3) := by decide +kernel
theorem d_X1_placeOfLook_10 : decode (bc mX1_placeOfLook) 10 = .ok (.aload_n 0, 1) := by decide +kernel
theorem d_X1_placeOfLook_11 : decode (bc mX1_placeOfLook) 11 = .ok (.getfield 9, 3) := by decide +kernel
theorem d_X1_placeOfLook_14 : decode (bc mX1_placeOfLook) 14 = .ok (.iload_n 2, 1) := by decide +kernel
theorem d_X1_placeOfLook_15 : decode (bc mX1_placeOfLook) 15 = .ok (.iaload, 1) := by decide +kernel
theorem d_X1_placeOfLook_16 : decode (bc mX1_placeOfLook) 16 = .ok (.iload_n 1, 1) := by decide +kernel
theorem d_X1_placeOfLook_17 : decode (bc mX1_placeOfLook) 17 = .ok (.if_icmp .ne 5, 3) := by decide +kernel
theorem d_X1_placeOfLook_20 : decode (bc mX1_placeOfLook) 20 = .ok (.iload_n 2, 1) := by decide +kernel
theorem d_X1_placeOfLook_21 : decode (bc mX1_placeOfLook) 21 = .ok (.ireturn, 1) := by decide +kernel
theorem d_X1_placeOfLook_22 : decode (bc mX1_placeOfLook) 22 = .ok (.iinc 2 1, 3) := by decide +kernel
theorem d_X1_placeOfLook_25 : decode (bc mX1_placeOfLook) 25 = .ok (.goto (-23), 3) := by decide +kernel
theorem d_X1_placeOfLook_28 : decode (bc mX1_placeOfLook) 28 = .ok (.iconst (-1), 1) := by decide +kernel
theorem d_X1_placeOfLook_29 : decode (bc mX1_placeOfLook) 29 = .ok (.ireturn, 1) := by decide +kernel
theorem d_X1_copyFrom_0 : decode (bc mX1_copyFrom) 0 = .ok (.aload_n 0, 1) := by decide +kernel
theorem d_X1_copyFrom_1 : decode (bc mX1_copyFrom) 1 = .ok (.aload_n 1, 1) := by decide +kernel
theorem d_X1_copyFrom_2 : decode (bc mX1_copyFrom) 2 = .ok (.getfield 18, 3) := by decide +kernel
theorem d_X1_copyFrom_5 : decode (bc mX1_copyFrom) 5 = .ok (.putfield 18, 3) := by decide +kernel
theorem d_X1_copyFrom_8 : decode (bc mX1_copyFrom) 8 = .ok (.aload_n 0, 1) := by decide +kernel
theorem d_X1_copyFrom_9 : decode (bc mX1_copyFrom) 9 = .ok (.aload_n 1, 1) := by decide +kernel
theorem d_X1_copyFrom_10 : decode (bc mX1_copyFrom) 10 = .ok (.getfield 22, 3) := by decide +kernel
theorem d_X1_copyFrom_13 : decode (bc mX1_copyFrom) 13 = .ok (.putfield 22, 3) := by decide +kernel
theorem d_X1_copyFrom_16 : decode (bc mX1_copyFrom) 16 = .ok (.aload_n 0, 1) := by decide +kernel
theorem d_X1_copyFrom_17 : decode (bc mX1_copyFrom) 17 = .ok (.aload_n 1, 1) := by decide +kernel
theorem d_X1_copyFrom_18 : decode (bc mX1_copyFrom) 18 = .ok (.getfield 25, 3) := by decide +kernel
theorem d_X1_copyFrom_21 : decode (bc mX1_copyFrom) 21 = .ok (.putfield 25, 3) := by decide +kernel
theorem d_X1_copyFrom_24 : decode (bc mX1_copyFrom) 24 = .ok (.aload_n 0, 1) := by decide +kernel
theorem d_X1_copyFrom_25 : decode (bc mX1_copyFrom) 25 = .ok (.aload_n 1, 1) := by decide +kernel
theorem d_X1_copyFrom_26 : decode (bc mX1_copyFrom) 26 = .ok (.getfield 28, 3) := by decide +kernel
theorem d_X1_copyFrom_29 : decode (bc mX1_copyFrom) 29 = .ok (.putfield 28, 3) := by decide +kernel
theorem d_X1_copyFrom_32 : decode (bc mX1_copyFrom) 32 = .ok (.aload_n 0, 1) := by decide +kernel
theorem d_X1_copyFrom_33 : decode (bc mX1_copyFrom) 33 = .ok (.aload_n 1, 1) := by decide +kernel
theorem d_X1_copyFrom_34 : decode (bc mX1_copyFrom) 34 = .ok (.getfield 31, 3) := by decide +kernel
theorem d_X1_copyFrom_37 : decode (bc mX1_copyFrom) 37 = .ok (.putfield 31, 3) := by decide +kernel
theorem d_X1_copyFrom_40 : decode (bc mX1_copyFrom) 40 = .ok (.aload_n 0, 1) := by decide +kernel
theorem d_X1_copyFrom_41 : decode (bc mX1_copyFrom) 41 = .ok (.aload_n 1, 1) := by decide +kernel
theorem d_X1_copyFrom_42 : decode (bc mX1_copyFrom) 42 = .ok (.getfield 34, 3) := by decide +kernel
theorem d_X1_copyFrom_45 : decode (bc mX1_copyFrom) 45 = .ok (.putfield 34, 3) := by decide +kernel
theorem d_X1_copyFrom_48 : decode (bc mX1_copyFrom) 48 = .ok (.aload_n 1, 1) := by decide +kernel
theorem d_X1_copyFrom_49 : decode (bc mX1_copyFrom) 49 = .ok (.getfield 9, 3) := by decide +kernel
theorem d_X1_copyFrom_52 : decode (bc mX1_copyFrom) 52 = .ok (.iconst 0, 1) := by decide +kernel
theorem d_X1_copyFrom_53 : decode (bc mX1_copyFrom) 53 = .ok (.aload_n 0, 1) := by decide +kernel
theorem d_X1_copyFrom_54 : decode (bc mX1_copyFrom) 54 = .ok (.getfield 9, 3) := by decide +kernel
theorem d_X1_copyFrom_57 : decode (bc mX1_copyFrom) 57 = .ok (.iconst 0, 1) := by decide +kernel
theorem d_X1_copyFrom_58 : decode (bc mX1_copyFrom) 58 = .ok (.aload_n 0, 1) := by decide +kernel
theorem d_X1_copyFrom_59 : decode (bc mX1_copyFrom) 59 = .ok (.getfield 34, 3) := by decide +kernel
theorem d_X1_copyFrom_62 : decode (bc mX1_copyFrom) 62 = .ok (.invokestatic 37, 3) := by decide +kernel
theorem d_X1_copyFrom_65 : decode (bc mX1_copyFrom) 65 = .ok (.aload_n 1, 1) := by decide +kernel
theorem d_X1_copyFrom_66 : decode (bc mX1_copyFrom) 66 = .ok (.getfield 15, 3) := by decide +kernel
theorem d_X1_copyFrom_69 : decode (bc mX1_copyFrom) 69 = .ok (.iconst 0, 1) := by decide +kernel
theorem d_X1_copyFrom_70 : decode (bc mX1_copyFrom) 70 = .ok (.aload_n 0, 1) := by decide +kernel
theorem d_X1_copyFrom_71 : decode (bc mX1_copyFrom) 71 = .ok (.getfield 15, 3) := by decide +kernel
theorem d_X1_copyFrom_74 : decode (bc mX1_copyFrom) 74 = .ok (.iconst 0, 1) := by decide +kernel
theorem d_X1_copyFrom_75 : decode (bc mX1_copyFrom) 75 = .ok (.aload_n 0, 1) := by decide +kernel
theorem d_X1_copyFrom_76 : decode (bc mX1_copyFrom) 76 = .ok (.getfield 34, 3) := by decide +kernel
theorem d_X1_copyFrom_79 : decode (bc mX1_copyFrom) 79 = .ok (.invokestatic 37, 3) := by decide +kernel
theorem d_X1_copyFrom_82 : decode (bc mX1_copyFrom) 82 = .ok (.return_, 1) := by decide +kernel
theorem d_X2_init_0 : decode (bc mX2_init) 0 = .ok (.aload_n 0, 1) := by decide +kernel
theorem d_X2_init_1 : decode (bc mX2_init) 1 = .ok (.invokespecial 3, 3) := by decide +kernel
theorem d_X2_init_4 : decode (bc mX2_init) 4 = .ok (.aload_n 0, 1) := by decide +kernel
theorem d_X2_init_5 : decode (bc mX2_init) 5 = .ok (.bipush 60, 2) := by decide +kernel
theorem d_X2_init_7 : decode (bc mX2_init) 7 = .ok (.newarray .int, 2) := by decide +kernel
theorem d_X2_init_9 : decode (bc mX2_init) 9 = .ok (.putfield 9, 3) := by decide +kernel
theorem d_X2_init_12 : decode (bc mX2_init) 12 = .ok (.aload_n 0, 1) := by decide +kernel
theorem d_X2_init_13 : decode (bc mX2_init) 13 = .ok (.bipush 60, 2) := by decide +kernel
theorem d_X2_init_15 : decode (bc mX2_init) 15 = .ok (.newarray .int, 2) := by decide +kernel
theorem d_X2_init_17 : decode (bc mX2_init) 17 = .ok (.putfield 15, 3) := by decide +kernel
theorem d_X2_init_20 : decode (bc mX2_init) 20 = .ok (.aload_n 0, 1) := by decide +kernel
theorem d_X2_init_21 : decode (bc mX2_init) 21 = .ok (.bipush 60, 2) := by decide +kernel
theorem d_X2_init_23 : decode (bc mX2_init) 23 = .ok (.newarray .int, 2) := by decide +kernel
theorem d_X2_init_25 : decode (bc mX2_init) 25 = .ok (.putfield 18, 3) := by decide +kernel
theorem d_X2_init_28 : decode (bc mX2_init) 28 = .ok (.aload_n 0, 1) := by decide +kernel
theorem d_X2_init_29 : decode (bc mX2_init) 29 = .ok (.bipush 60, 2) := by decide +kernel
theorem d_X2_init_31 : decode (bc mX2_init) 31 = .ok (.newarray .int, 2) := by decide +kernel
theorem d_X2_init_33 : decode (bc mX2_init) 33 = .ok (.putfield 21, 3) := by decide +kernel
theorem d_X2_init_36 : decode (bc mX2_init) 36 = .ok (.return_, 1) := by decide +kernel
theorem d_X2_firstFault_0 : decode (bc mX2_firstFault) 0 = .ok (.aload_n 0, 1) := by decide +kernel
theorem d_X2_firstFault_1 : decode (bc mX2_firstFault) 1 = .ok (.invokevirtual 24, 3) := by decide +kernel
theorem d_X2_firstFault_4 : decode (bc mX2_firstFault) 4 = .ok (.iconst 0, 1) := by decide +kernel
theorem d_X2_firstFault_5 : decode (bc mX2_firstFault) 5 = .ok (.istore_n 3, 1) := by decide +kernel
theorem d_X2_firstFault_6 : decode (bc mX2_firstFault) 6 = .ok (.iload_n 3, 1) := by decide +kernel
theorem d_X2_firstFault_7 : decode (bc mX2_firstFault) 7 = .ok (.iload_n 2, 1) := by decide +kernel
theorem d_X2_firstFault_8 : decode (bc mX2_firstFault) 8 = .ok (.if_icmp .ge 27, 3) := by decide +kernel
theorem d_X2_firstFault_11 : decode (bc mX2_firstFault) 11 = .ok (.iload_n 3, 1) := by decide +kernel
theorem d_X2_firstFault_12 : decode (bc mX2_firstFault) 12 = .ok (.aload_n 1, 1) := by decide +kernel
theorem d_X2_firstFault_13 : decode (bc mX2_firstFault) 13 = .ok (.arraylength, 1) := by decide +kernel
theorem d_X2_firstFault_14 : decode (bc mX2_firstFault) 14 = .ok (.if_icmp .ge 21, 3) := by decide +kernel
theorem d_X2_firstFault_17 : decode (bc mX2_firstFault) 17 = .ok (.aload_n 0, 1) := by decide +kernel
theorem d_X2_firstFault_18 : decode (bc mX2_firstFault) 18 = .ok (.aload_n 1, 1) := by decide +kernel
theorem d_X2_firstFault_19 : decode (bc mX2_firstFault) 19 = .ok (.iload_n 3, 1) := by decide +kernel
theorem d_X2_firstFault_20 : decode (bc mX2_firstFault) 20 = .ok (.iaload, 1) := by decide +kernel
theorem d_X2_firstFault_21 : decode (bc mX2_firstFault) 21 = .ok (.invokevirtual 27, 3) := by decide +kernel
theorem d_X2_firstFault_24 : decode (bc mX2_firstFault) 24 = .ok (.ifCond .ne 5, 3) := by decide +kernel
theorem d_X2_firstFault_27 : decode (bc mX2_firstFault) 27 = .ok (.iload_n 3, 1) := by decide +kernel
theorem d_X2_firstFault_28 : decode (bc mX2_firstFault) 28 = .ok (.ireturn, 1) := by decide +kernel
theorem d_X2_firstFault_29 : decode (bc mX2_firstFault) 29 = .ok (.iinc 3 1, 3) := by decide +kernel
theorem d_X2_firstFault_32 : decode (bc mX2_firstFault) 32 = .ok (.goto (-26), 3) := by decide +kernel
theorem d_X2_firstFault_35 : decode (bc mX2_firstFault) 35 = .ok (.aload_n 0, 1) := by decide +kernel
theorem d_X2_firstFault_36 : decode (bc mX2_firstFault) 36 = .ok (.getfield 31, 3) := by decide +kernel
theorem d_X2_firstFault_39 : decode (bc mX2_firstFault) 39 = .ok (.iconst 3, 1) := by decide +kernel
theorem d_X2_firstFault_40 : decode (bc mX2_firstFault) 40 = .ok (.if_icmp .eq 11, 3) := by decide +kernel
theorem d_X2_firstFault_43 : decode (bc mX2_firstFault) 43 = .ok (.aload_n 0, 1) := by decide +kernel
theorem d_X2_firstFault_44 : decode (bc mX2_firstFault) 44 = .ok (.getfield 31, 3) := by decide +kernel
theorem d_X2_firstFault_47 : decode (bc mX2_firstFault) 47 = .ok (.iconst 2, 1) := by decide +kernel
theorem d_X2_firstFault_48 : decode (bc mX2_firstFault) 48 = .ok (.if_icmp .ne 7, 3) := by decide +kernel
theorem d_X2_firstFault_51 : decode (bc mX2_firstFault) 51 = .ok (.iconst 1, 1) := by decide +kernel
theorem d_X2_firstFault_52 : decode (bc mX2_firstFault) 52 = .ok (.goto 4, 3) := by decide +kernel
theorem d_X2_firstFault_55 : decode (bc mX2_firstFault) 55 = .ok (.iconst 0, 1) := by decide +kernel
theorem d_X2_firstFault_56 : decode (bc mX2_firstFault) 56 = .ok (.istore_n 3, 1) := by decide +kernel
theorem d_X2_firstFault_57 : decode (bc mX2_firstFault) 57 = .ok (.iload_n 3, 1) := by decide +kernel
theorem d_X2_firstFault_58 : decode (bc mX2_firstFault) 58 = .ok (.ifCond .eq 15, 3) := by decide +kernel
theorem d_X2_firstFault_61 : decode (bc mX2_firstFault) 61 = .ok (.aload_n 0, 1) := by decide +kernel
theorem d_X2_firstFault_62 : decode (bc mX2_firstFault) 62 = .ok (.getfield 35, 3) := by decide +kernel
theorem d_X2_firstFault_65 : decode (bc mX2_firstFault) 65 = .ok (.ifCond .ne 8, 3) := by decide +kernel
theorem d_X2_firstFault_68 : decode (bc mX2_firstFault) 68 = .ok (.bipush (-6), 2) := by decide +kernel
theorem d_X2_firstFault_70 : decode (bc mX2_firstFault) 70 = .ok (.goto 4, 3) := by decide +kernel
theorem d_X2_firstFault_73 : decode (bc mX2_firstFault) 73 = .ok (.iload_n 2, 1) := by decide +kernel
theorem d_X2_firstFault_74 : decode (bc mX2_firstFault) 74 = .ok (.ireturn, 1) := by decide +kernel
theorem d_X2_recipeRead_0 : decode (bc mX2_recipeRead) 0 = .ok (.new 38, 3) := by decide +kernel
theorem d_X2_recipeRead_3 : decode (bc mX2_recipeRead) 3 = .ok (.dup, 1) := by decide +kernel
theorem d_X2_recipeRead_4 : decode (bc mX2_recipeRead) 4 = .ok (.aload_n 0, 1) := by decide +kernel
theorem d_X2_recipeRead_5 : decode (bc mX2_recipeRead) 5 = .ok (.invokespecial 40, 3) := by decide +kernel
theorem d_X2_recipeRead_8 : decode (bc mX2_recipeRead) 8 = .ok (.areturn, 1) := by decide +kernel
theorem d_X2_begin_0 : decode (bc mX2_begin) 0 = .ok (.aload_n 0, 1) := by decide +kernel
theorem d_X2_begin_1 : decode (bc mX2_begin) 1 = .ok (.iconst 0, 1) := by decide +kernel
theorem d_X2_begin_2 : decode (bc mX2_begin) 2 = .ok (.putfield 43, 3) := by decide +kernel
theorem d_X2_begin_5 : decode (bc mX2_begin) 5 = .ok (.aload_n 0, 1) := by decide +kernel
theorem d_X2_begin_6 : decode (bc mX2_begin) 6 = .ok (.iconst 0, 1) := by decide +kernel
theorem d_X2_begin_7 : decode (bc mX2_begin) 7 = .ok (.putfield 46, 3) := by decide +kernel
theorem d_X2_begin_10 : decode (bc mX2_begin) 10 = .ok (.aload_n 0, 1) := by decide +kernel
theorem d_X2_begin_11 : decode (bc mX2_begin) 11 = .ok (.iconst 0, 1) := by decide +kernel
theorem d_X2_begin_12 : decode (bc mX2_begin) 12 = .ok (.putfield 49, 3) := by decide +kernel
theorem d_X2_begin_15 : decode (bc mX2_begin) 15 = .ok (.aload_n 0, 1) := by decide +kernel
theorem d_X2_begin_16 : decode (bc mX2_begin) 16 = .ok (.iconst 0, 1) := by decide +kernel
theorem d_X2_begin_17 : decode (bc mX2_begin) 17 = .ok (.putfield 52, 3) := by decide +kernel
theorem d_X2_begin_20 : decode (bc mX2_begin) 20 = .ok (.aload_n 0, 1) := by decide +kernel
theorem d_X2_begin_21 : decode (bc mX2_begin) 21 = .ok (.iconst 0, 1) := by decide +kernel
theorem d_X2_begin_22 : decode (bc mX2_begin) 22 = .ok (.putfield 31, 3) := by decide +kernel
theorem d_X2_begin_25 : decode (bc mX2_begin) 25 = .ok (.aload_n 0, 1) := by decide +kernel
theorem d_X2_begin_26 : decode (bc mX2_begin) 26 = .ok (.iconst 0, 1) := by decide +kernel
theorem d_X2_begin_27 : decode (bc mX2_begin) 27 = .ok (.putfield 35, 3) := by decide +kernel
theorem d_X2_begin_30 : decode (bc mX2_begin) 30 = .ok (.return_, 1) := by decide +kernel
theorem d_X2_takes_0 : decode (bc mX2_takes) 0 = .ok (.aload_n 0, 1) := by decide +kernel
theorem d_X2_takes_1 : decode (bc mX2_takes) 1 = .ok (.getfield 31, 3) := by decide +kernel
theorem d_X2_takes_4 : decode (bc mX2_takes) 4 = .ok (.tableswitch 64 0 2 #[28, 34, 40], 28) := by decide +kernel
theorem d_X2_takes_32 : decode (bc mX2_takes) 32 = .ok (.aload_n 0, 1) := by decide +kernel
theorem d_X2_takes_33 : decode (bc mX2_takes) 33 = .ok (.iload_n 1, 1) := by decide +kernel
theorem d_X2_takes_34 : decode (bc mX2_takes) 34 = .ok (.invokevirtual 55, 3) := by decide +kernel
theorem d_X2_takes_37 : decode (bc mX2_takes) 37 = .ok (.ireturn, 1) := by decide +kernel
theorem d_X2_takes_38 : decode (bc mX2_takes) 38 = .ok (.aload_n 0, 1) := by decide +kernel
theorem d_X2_takes_39 : decode (bc mX2_takes) 39 = .ok (.iload_n 1, 1) := by decide +kernel
theorem d_X2_takes_40 : decode (bc mX2_takes) 40 = .ok (.invokevirtual 58, 3) := by decide +kernel
theorem d_X2_takes_43 : decode (bc mX2_takes) 43 = .ok (.ireturn, 1) := by decide +kernel
theorem d_X2_takes_44 : decode (bc mX2_takes) 44 = .ok (.iload_n 1, 1) := by decide +kernel
theorem d_X2_takes_45 : decode (bc mX2_takes) 45 = .ok (.invokestatic 61, 3) := by decide +kernel
theorem d_X2_takes_48 : decode (bc mX2_takes) 48 = .ok (.ifCond .eq 14, 3) := by decide +kernel
theorem d_X2_takes_51 : decode (bc mX2_takes) 51 = .ok (.aload_n 0, 1) := by decide +kernel
theorem d_X2_takes_52 : decode (bc mX2_takes) 52 = .ok (.iload_n 1, 1) := by decide +kernel
theorem d_X2_takes_53 : decode (bc mX2_takes) 53 = .ok (.bipush 48, 2) := by decide +kernel
theorem d_X2_takes_55 : decode (bc mX2_takes) 55 = .ok (.isub, 1) := by decide +kernel
theorem d_X2_takes_56 : decode (bc mX2_takes) 56 = .ok (.invokevirtual 64, 3) := by decide +kernel
theorem d_X2_takes_59 : decode (bc mX2_takes) 59 = .ok (.goto 8, 3) := by decide +kernel
theorem d_X2_takes_62 : decode (bc mX2_takes) 62 = .ok (.aload_n 0, 1) := by decide +kernel
theorem d_X2_takes_63 : decode (bc mX2_takes) 63 = .ok (.iload_n 1, 1) := by decide +kernel
theorem d_X2_takes_64 : decode (bc mX2_takes) 64 = .ok (.invokevirtual 67, 3) := by decide +kernel
theorem d_X2_takes_67 : decode (bc mX2_takes) 67 = .ok (.ireturn, 1) := by decide +kernel
theorem d_X2_takes_68 : decode (bc mX2_takes) 68 = .ok (.aload_n 0, 1) := by decide +kernel
theorem d_X2_takes_69 : decode (bc mX2_takes) 69 = .ok (.iload_n 1, 1) := by decide +kernel
theorem d_X2_takes_70 : decode (bc mX2_takes) 70 = .ok (.invokevirtual 67, 3) := by decide +kernel
theorem d_X2_takes_73 : decode (bc mX2_takes) 73 = .ok (.ireturn, 1) := by decide +kernel
theorem d_X2_takesStart_0 : decode (bc mX2_takesStart) 0 = .ok (.iload_n 1, 1) := by decide +kernel
theorem d_X2_takesStart_1 : decode (bc mX2_takesStart) 1 = .ok (.bipush 40, 2) := by decide +kernel
theorem d_X2_takesStart_3 : decode (bc mX2_takesStart) 3 = .ok (.if_icmp .ne 10, 3) := by decide +kernel
theorem d_X2_takesStart_6 : decode (bc mX2_takesStart) 6 = .ok (.aload_n 0, 1) := by decide +kernel
theorem d_X2_takesStart_7 : decode (bc mX2_takesStart) 7 = .ok (.bipush 10, 2) := by decide +kernel
theorem d_X2_takesStart_9 : decode (bc mX2_takesStart) 9 = .ok (.invokevirtual 70, 3) := by decide +kernel
theorem d_X2_takesStart_12 : decode (bc mX2_takesStart) 12 = .ok (.ireturn, 1) := by decide +kernel
theorem d_X2_takesStart_13 : decode (bc mX2_takesStart) 13 = .ok (.iload_n 1, 1) := by decide +kernel
theorem d_X2_takesStart_14 : decode (bc mX2_takesStart) 14 = .ok (.bipush 123, 2) := by decide +kernel
theorem d_X2_takesStart_16 : decode (bc mX2_takesStart) 16 = .ok (.if_icmp .ne 10, 3) := by decide +kernel
theorem d_X2_takesStart_19 : decode (bc mX2_takesStart) 19 = .ok (.aload_n 0, 1) := by decide +kernel
theorem d_X2_takesStart_20 : decode (bc mX2_takesStart) 20 = .ok (.bipush 11, 2) := by decide +kernel
theorem d_X2_takesStart_22 : decode (bc mX2_takesStart) 22 = .ok (.invokevirtual 70, 3) := by decide +kernel
theorem d_X2_takesStart_25 : decode (bc mX2_takesStart) 25 = .ok (.ireturn, 1) := by decide +kernel
theorem d_X2_takesStart_26 : decode (bc mX2_takesStart) 26 = .ok (.iload_n 1, 1) := by decide +kernel
theorem d_X2_takesStart_27 : decode (bc mX2_takesStart) 27 = .ok (.bipush 35, 2) := by decide +kernel
theorem d_X2_takesStart_29 : decode (bc mX2_takesStart) 29 = .ok (.if_icmp .ne 10, 3) := by decide +kernel
theorem d_X2_takesStart_32 : decode (bc mX2_takesStart) 32 = .ok (.aload_n 0, 1) := by decide +kernel
theorem d_X2_takesStart_33 : decode (bc mX2_takesStart) 33 = .ok (.iconst 1, 1) := by decide +kernel
theorem d_X2_takesStart_34 : decode (bc mX2_takesStart) 34 = .ok (.putfield 31, 3) := by decide +kernel
theorem d_X2_takesStart_37 : decode (bc mX2_takesStart) 37 = .ok (.iconst 1, 1) := by decide +kernel
theorem d_X2_takesStart_38 : decode (bc mX2_takesStart) 38 = .ok (.ireturn, 1) := by decide +kernel
theorem d_X2_takesStart_39 : decode (bc mX2_takesStart) 39 = .ok (.iload_n 1, 1) := by decide +kernel
theorem d_X2_takesStart_40 : decode (bc mX2_takesStart) 40 = .ok (.invokestatic 61, 3) := by decide +kernel
theorem d_X2_takesStart_43 : decode (bc mX2_takesStart) 43 = .ok (.ifCond .eq 18, 3) := by decide +kernel
theorem d_X2_takesStart_46 : decode (bc mX2_takesStart) 46 = .ok (.aload_n 0, 1) := by decide +kernel
theorem d_X2_takesStart_47 : decode (bc mX2_takesStart) 47 = .ok (.iconst 2, 1) := by decide +kernel
theorem d_X2_takesStart_48 : decode (bc mX2_takesStart) 48 = .ok (.putfield 31, 3) := by decide +kernel
theorem d_X2_takesStart_51 : decode (bc mX2_takesStart) 51 = .ok (.aload_n 0, 1) := by decide +kernel
theorem d_X2_takesStart_52 : decode (bc mX2_takesStart) 52 = .ok (.iconst 1, 1) := by decide +kernel
theorem d_X2_takesStart_53 : decode (bc mX2_takesStart) 53 = .ok (.iload_n 1, 1) := by decide +kernel
theorem d_X2_takesStart_54 : decode (bc mX2_takesStart) 54 = .ok (.bipush 48, 2) := by decide +kernel
theorem d_X2_takesStart_56 : decode (bc mX2_takesStart) 56 = .ok (.isub, 1) := by decide +kernel
theorem d_X2_takesStart_57 : decode (bc mX2_takesStart) 57 = .ok (.invokevirtual 73, 3) := by decide +kernel
theorem d_X2_takesStart_60 : decode (bc mX2_takesStart) 60 = .ok (.ireturn, 1) := by decide +kernel
theorem d_X2_takesStart_61 : decode (bc mX2_takesStart) 61 = .ok (.iload_n 1, 1) := by decide +kernel
theorem d_X2_takesStart_62 : decode (bc mX2_takesStart) 62 = .ok (.bipush 97, 2) := by decide +kernel
theorem d_X2_takesStart_64 : decode (bc mX2_takesStart) 64 = .ok (.isub, 1) := by decide +kernel
theorem d_X2_takesStart_65 : decode (bc mX2_takesStart) 65 = .ok (.istore_n 2, 1) := by decide +kernel
theorem d_X2_takesStart_66 : decode (bc mX2_takesStart) 66 = .ok (.iload_n 2, 1) := by decide +kernel
theorem d_X2_takesStart_67 : decode (bc mX2_takesStart) 67 = .ok (.invokestatic 77, 3) := by decide +kernel
theorem d_X2_takesStart_70 : decode (bc mX2_takesStart) 70 = .ok (.ifCond .ne 5, 3) := by decide +kernel
theorem d_X2_takesStart_73 : decode (bc mX2_takesStart) 73 = .ok (.iconst 0, 1) := by decide +kernel
theorem d_X2_takesStart_74 : decode (bc mX2_takesStart) 74 = .ok (.ireturn, 1) := by decide +kernel
theorem d_X2_takesStart_75 : decode (bc mX2_takesStart) 75 = .ok (.aload_n 0, 1) := by decide +kernel
theorem d_X2_takesStart_76 : decode (bc mX2_takesStart) 76 = .ok (.dup, 1) := by decide +kernel
theorem d_X2_takesStart_77 : decode (bc mX2_takesStart) 77 = .ok (.getfield 49, 3) := by decide +kernel
theorem d_X2_takesStart_80 : decode (bc mX2_takesStart) 80 = .ok (.iconst 1, 1) := by decide +kernel
theorem d_X2_takesStart_81 : decode (bc mX2_takesStart) 81 = .ok (.iload_n 2, 1) := by decide +kernel
theorem d_X2_takesStart_82 : decode (bc mX2_takesStart) 82 = .ok (.ishl, 1) := by decide +kernel
theorem d_X2_takesStart_83 : decode (bc mX2_takesStart) 83 = .ok (.ior, 1) := by decide +kernel
theorem d_X2_takesStart_84 : decode (bc mX2_takesStart) 84 = .ok (.putfield 49, 3) := by decide +kernel
theorem d_X2_takesStart_87 : decode (bc mX2_takesStart) 87 = .ok (.aload_n 0, 1) := by decide +kernel
theorem d_X2_takesStart_88 : decode (bc mX2_takesStart) 88 = .ok (.iconst 3, 1) := by decide +kernel
theorem d_X2_takesStart_89 : decode (bc mX2_takesStart) 89 = .ok (.putfield 31, 3) := by decide +kernel
theorem d_X2_takesStart_92 : decode (bc mX2_takesStart) 92 = .ok (.aload_n 0, 1) := by decide +kernel
theorem d_X2_takesStart_93 : decode (bc mX2_takesStart) 93 = .ok (.iconst 0, 1) := by decide +kernel
theorem d_X2_takesStart_94 : decode (bc mX2_takesStart) 94 = .ok (.iload_n 2, 1) := by decide +kernel
theorem d_X2_takesStart_95 : decode (bc mX2_takesStart) 95 = .ok (.invokevirtual 73, 3) := by decide +kernel
theorem d_X2_takesStart_98 : decode (bc mX2_takesStart) 98 = .ok (.ireturn, 1) := by decide +kernel
theorem d_X2_takesLoafDigit_0 : decode (bc mX2_takesLoafDigit) 0 = .ok (.iload_n 1, 1) := by decide +kernel
theorem d_X2_takesLoafDigit_1 : decode (bc mX2_takesLoafDigit) 1 = .ok (.bipush 48, 2) := by decide +kernel
theorem d_X2_takesLoafDigit_3 : decode (bc mX2_takesLoafDigit) 3 = .ok (.isub, 1) := by decide +kernel
theorem d_X2_takesLoafDigit_4 : decode (bc mX2_takesLoafDigit) 4 = .ok (.istore_n 2, 1) := by decide +kernel
theorem d_X2_takesLoafDigit_5 : decode (bc mX2_takesLoafDigit) 5 = .ok (.iload_n 2, 1) := by decide +kernel
theorem d_X2_takesLoafDigit_6 : decode (bc mX2_takesLoafDigit) 6 = .ok (.ifCond .lt 8, 3) := by decide +kernel
theorem d_X2_takesLoafDigit_9 : decode (bc mX2_takesLoafDigit) 9 = .ok (.iload_n 2, 1) := by decide +kernel
theorem d_X2_takesLoafDigit_10 : decode (bc mX2_takesLoafDigit) 10 = .ok (.iconst 5, 1) := by decide +kernel
theorem d_X2_takesLoafDigit_11 : decode (bc mX2_takesLoafDigit) 11 = .ok (.if_icmp .lt 5, 3) := by decide +kernel
theorem d_X2_takesLoafDigit_14 : decode (bc mX2_takesLoafDigit) 14 = .ok (.iconst 0, 1) := by decide +kernel
theorem d_X2_takesLoafDigit_15 : decode (bc mX2_takesLoafDigit) 15 = .ok (.ireturn, 1) := by decide +kernel
theorem d_X2_takesLoafDigit_16 : decode (bc mX2_takesLoafDigit) 16 = .ok (.aload_n 0, 1) := by decide +kernel
theorem d_X2_takesLoafDigit_17 : decode (bc mX2_takesLoafDigit) 17 = .ok (.dup, 1) := by decide +kernel
theorem d_X2_takesLoafDigit_18 : decode (bc mX2_takesLoafDigit) 18 = .ok (.getfield 52, 3) := by decide +kernel
theorem d_X2_takesLoafDigit_21 : decode (bc mX2_takesLoafDigit) 21 = .ok (.iconst 1, 1) := by decide +kernel
theorem d_X2_takesLoafDigit_22 : decode (bc mX2_takesLoafDigit) 22 = .ok (.iload_n 2, 1) := by decide +kernel
theorem d_X2_takesLoafDigit_23 : decode (bc mX2_takesLoafDigit) 23 = .ok (.ishl, 1) := by decide +kernel
theorem d_X2_takesLoafDigit_24 : decode (bc mX2_takesLoafDigit) 24 = .ok (.ior, 1) := by decide +kernel
theorem d_X2_takesLoafDigit_25 : decode (bc mX2_takesLoafDigit) 25 = .ok (.putfield 52, 3) := by decide +kernel
theorem d_X2_takesLoafDigit_28 : decode (bc mX2_takesLoafDigit) 28 = .ok (.aload_n 0, 1) := by decide +kernel
theorem d_X2_takesLoafDigit_29 : decode (bc mX2_takesLoafDigit) 29 = .ok (.iconst 3, 1) := by decide +kernel
theorem d_X2_takesLoafDigit_30 : decode (bc mX2_takesLoafDigit) 30 = .ok (.putfield 31, 3) := by decide +kernel
theorem d_X2_takesLoafDigit_33 : decode (bc mX2_takesLoafDigit) 33 = .ok (.aload_n 0, 1) := by decide +kernel
theorem d_X2_takesLoafDigit_34 : decode (bc mX2_takesLoafDigit) 34 = .ok (.iconst 0, 1) := by decide +kernel
theorem d_X2_takesLoafDigit_35 : decode (bc mX2_takesLoafDigit) 35 = .ok (.bipush 20, 2) := by decide +kernel
theorem d_X2_takesLoafDigit_37 : decode (bc mX2_takesLoafDigit) 37 = .ok (.iload_n 2, 1) := by decide +kernel
theorem d_X2_takesLoafDigit_38 : decode (bc mX2_takesLoafDigit) 38 = .ok (.iadd, 1) := by decide +kernel
theorem d_X2_takesLoafDigit_39 : decode (bc mX2_takesLoafDigit) 39 = .ok (.invokevirtual 73, 3) := by decide +kernel
theorem d_X2_takesLoafDigit_42 : decode (bc mX2_takesLoafDigit) 42 = .ok (.ireturn, 1) := by decide +kernel
theorem d_X2_takesNextDigit_0 : decode (bc mX2_takesNextDigit) 0 = .ok (.aload_n 0, 1) := by decide +kernel
theorem d_X2_takesNextDigit_1 : decode (bc mX2_takesNextDigit) 1 = .ok (.getfield 43, 3) := by decide +kernel
theorem d_X2_takesNextDigit_4 : decode (bc mX2_takesNextDigit) 4 = .ok (.iconst 1, 1) := by decide +kernel
theorem d_X2_takesNextDigit_5 : decode (bc mX2_takesNextDigit) 5 = .ok (.isub, 1) := by decide +kernel
theorem d_X2_takesNextDigit_6 : decode (bc mX2_takesNextDigit) 6 = .ok (.istore_n 2, 1) := by decide +kernel
theorem d_X2_takesNextDigit_7 : decode (bc mX2_takesNextDigit) 7 = .ok (.iload_n 2, 1) := by decide +kernel
theorem d_X2_takesNextDigit_8 : decode (bc mX2_takesNextDigit) 8 = .ok (.ifCond .lt 12, 3) := by decide +kernel
theorem d_X2_takesNextDigit_11 : decode (bc mX2_takesNextDigit) 11 = .ok (.aload_n 0, 1) := by decide +kernel
theorem d_X2_takesNextDigit_12 : decode (bc mX2_takesNextDigit) 12 = .ok (.getfield 15, 3) := by decide +kernel
theorem d_X2_takesNextDigit_15 : decode (bc mX2_takesNextDigit) 15 = .ok (.iload_n 2, 1) := by decide +kernel
theorem d_X2_takesNextDigit_16 : decode (bc mX2_takesNextDigit) 16 = .ok (.iaload, 1) := by decide +kernel
theorem d_X2_takesNextDigit_17 : decode (bc mX2_takesNextDigit) 17 = .ok (.ifCond .ne 5, 3) := by decide +kernel
theorem d_X2_takesNextDigit_20 : decode (bc mX2_takesNextDigit) 20 = .ok (.iconst 0, 1) := by decide +kernel
theorem d_X2_takesNextDigit_21 : decode (bc mX2_takesNextDigit) 21 = .ok (.ireturn, 1) := by decide +kernel
theorem d_X2_takesNextDigit_22 : decode (bc mX2_takesNextDigit) 22 = .ok (.aload_n 0, 1) := by decide +kernel
theorem d_X2_takesNextDigit_23 : decode (bc mX2_takesNextDigit) 23 = .ok (.getfield 15, 3) := by decide +kernel
theorem d_X2_takesNextDigit_26 : decode (bc mX2_takesNextDigit) 26 = .ok (.iload_n 2, 1) := by decide +kernel
theorem d_X2_takesNextDigit_27 : decode (bc mX2_takesNextDigit) 27 = .ok (.iaload, 1) := by decide +kernel
theorem d_X2_takesNextDigit_28 : decode (bc mX2_takesNextDigit) 28 = .ok (.bipush 10, 2) := by decide +kernel
theorem d_X2_takesNextDigit_30 : decode (bc mX2_takesNextDigit) 30 = .ok (.imul, 1) := by decide +kernel
theorem d_X2_takesNextDigit_31 : decode (bc mX2_takesNextDigit) 31 = .ok (.iload_n 1, 1) := by decide +kernel
theorem d_X2_takesNextDigit_32 : decode (bc mX2_takesNextDigit) 32 = .ok (.iadd, 1) := by decide +kernel
theorem d_X2_takesNextDigit_33 : decode (bc mX2_takesNextDigit) 33 = .ok (.istore_n 3, 1) := by decide +kernel
theorem d_X2_takesNextDigit_34 : decode (bc mX2_takesNextDigit) 34 = .ok (.iload_n 3, 1) := by decide +kernel
theorem d_X2_takesNextDigit_35 : decode (bc mX2_takesNextDigit) 35 = .ok (.invokestatic 80, 3) := by decide +kernel
theorem d_X2_takesNextDigit_38 : decode (bc mX2_takesNextDigit) 38 = .ok (.ifCond .ne 5, 3) := by decide +kernel
theorem d_X2_takesNextDigit_41 : decode (bc mX2_takesNextDigit) 41 = .ok (.iconst 0, 1) := by decide +kernel
theorem d_X2_takesNextDigit_42 : decode (bc mX2_takesNextDigit) 42 = .ok (.ireturn, 1) := by decide +kernel
theorem d_X2_takesNextDigit_43 : decode (bc mX2_takesNextDigit) 43 = .ok (.aload_n 0, 1) := by decide +kernel
theorem d_X2_takesNextDigit_44 : decode (bc mX2_takesNextDigit) 44 = .ok (.getfield 15, 3) := by decide +kernel
theorem d_X2_takesNextDigit_47 : decode (bc mX2_takesNextDigit) 47 = .ok (.iload_n 2, 1) := by decide +kernel
theorem d_X2_takesNextDigit_48 : decode (bc mX2_takesNextDigit) 48 = .ok (.iload_n 3, 1) := by decide +kernel
theorem d_X2_takesNextDigit_49 : decode (bc mX2_takesNextDigit) 49 = .ok (.iastore, 1) := by decide +kernel
theorem d_X2_takesNextDigit_50 : decode (bc mX2_takesNextDigit) 50 = .ok (.iconst 1, 1) := by decide +kernel
theorem d_X2_takesNextDigit_51 : decode (bc mX2_takesNextDigit) 51 = .ok (.ireturn, 1) := by decide +kernel
theorem d_X2_takesAfterRecipe_0 : decode (bc mX2_takesAfterRecipe) 0 = .ok (.aload_n 0, 1) := by decide +kernel
theorem d_X2_takesAfterRecipe_1 : decode (bc mX2_takesAfterRecipe) 1 = .ok (.getfield 35, 3) := by decide +kernel
theorem d_X2_takesAfterRecipe_4 : decode (bc mX2_takesAfterRecipe) 4 = .ok (.ifCond .ne 5, 3) := by decide +kernel
theorem d_X2_takesAfterRecipe_7 : decode (bc mX2_takesAfterRecipe) 7 = .ok (.iconst 0, 1) := by decide +kernel
theorem d_X2_takesAfterRecipe_8 : decode (bc mX2_takesAfterRecipe) 8 = .ok (.ireturn, 1) := by decide +kernel
theorem d_X2_takesAfterRecipe_9 : decode (bc mX2_takesAfterRecipe) 9 = .ok (.aload_n 0, 1) := by decide +kernel
theorem d_X2_takesAfterRecipe_10 : decode (bc mX2_takesAfterRecipe) 10 = .ok (.getfield 18, 3) := by decide +kernel
theorem d_X2_takesAfterRecipe_13 : decode (bc mX2_takesAfterRecipe) 13 = .ok (.aload_n 0, 1) := by decide +kernel
theorem d_X2_takesAfterRecipe_14 : decode (bc mX2_takesAfterRecipe) 14 = .ok (.getfield 35, 3) := by decide +kernel
theorem d_X2_takesAfterRecipe_17 : decode (bc mX2_takesAfterRecipe) 17 = .ok (.iconst 1, 1) := by decide +kernel
theorem d_X2_takesAfterRecipe_18 : decode (bc mX2_takesAfterRecipe) 18 = .ok (.isub, 1) := by decide +kernel
theorem d_X2_takesAfterRecipe_19 : decode (bc mX2_takesAfterRecipe) 19 = .ok (.iaload, 1) := by decide +kernel
theorem d_X2_takesAfterRecipe_20 : decode (bc mX2_takesAfterRecipe) 20 = .ok (.tableswitch 95 10 13 #[32, 38, 57, 76], 32) := by decide +kernel
theorem d_X2_takesAfterRecipe_52 : decode (bc mX2_takesAfterRecipe) 52 = .ok (.aload_n 0, 1) := by decide +kernel
theorem d_X2_takesAfterRecipe_53 : decode (bc mX2_takesAfterRecipe) 53 = .ok (.iload_n 1, 1) := by decide +kernel
theorem d_X2_takesAfterRecipe_54 : decode (bc mX2_takesAfterRecipe) 54 = .ok (.invokevirtual 83, 3) := by decide +kernel
theorem d_X2_takesAfterRecipe_57 : decode (bc mX2_takesAfterRecipe) 57 = .ok (.ireturn, 1) := by decide +kernel
theorem d_X2_takesAfterRecipe_58 : decode (bc mX2_takesAfterRecipe) 58 = .ok (.iload_n 1, 1) := by decide +kernel
theorem d_X2_takesAfterRecipe_59 : decode (bc mX2_takesAfterRecipe) 59 = .ok (.bipush 63, 2) := by decide +kernel
theorem d_X2_takesAfterRecipe_61 : decode (bc mX2_takesAfterRecipe) 61 = .ok (.if_icmp .ne 14, 3) := by decide +kernel
theorem d_X2_takesAfterRecipe_64 : decode (bc mX2_takesAfterRecipe) 64 = .ok (.aload_n 0, 1) := by decide +kernel
theorem d_X2_takesAfterRecipe_65 : decode (bc mX2_takesAfterRecipe) 65 = .ok (.invokevirtual 86, 3) := by decide +kernel
theorem d_X2_takesAfterRecipe_68 : decode (bc mX2_takesAfterRecipe) 68 = .ok (.ifCond .eq 7, 3) := by decide +kernel
theorem d_X2_takesAfterRecipe_71 : decode (bc mX2_takesAfterRecipe) 71 = .ok (.iconst 1, 1) := by decide +kernel
theorem d_X2_takesAfterRecipe_72 : decode (bc mX2_takesAfterRecipe) 72 = .ok (.goto 4, 3) := by decide +kernel
theorem d_X2_takesAfterRecipe_75 : decode (bc mX2_takesAfterRecipe) 75 = .ok (.iconst 0, 1) := by decide +kernel
theorem d_X2_takesAfterRecipe_76 : decode (bc mX2_takesAfterRecipe) 76 = .ok (.ireturn, 1) := by decide +kernel
theorem d_X2_takesAfterRecipe_77 : decode (bc mX2_takesAfterRecipe) 77 = .ok (.iload_n 1, 1) := by decide +kernel
theorem d_X2_takesAfterRecipe_78 : decode (bc mX2_takesAfterRecipe) 78 = .ok (.bipush 58, 2) := by decide +kernel
theorem d_X2_takesAfterRecipe_80 : decode (bc mX2_takesAfterRecipe) 80 = .ok (.if_icmp .ne 14, 3) := by decide +kernel
theorem d_X2_takesAfterRecipe_83 : decode (bc mX2_takesAfterRecipe) 83 = .ok (.aload_n 0, 1) := by decide +kernel
theorem d_X2_takesAfterRecipe_84 : decode (bc mX2_takesAfterRecipe) 84 = .ok (.invokevirtual 90, 3) := by decide +kernel
theorem d_X2_takesAfterRecipe_87 : decode (bc mX2_takesAfterRecipe) 87 = .ok (.ifCond .eq 7, 3) := by decide +kernel
theorem d_X2_takesAfterRecipe_90 : decode (bc mX2_takesAfterRecipe) 90 = .ok (.iconst 1, 1) := by decide +kernel
theorem d_X2_takesAfterRecipe_91 : decode (bc mX2_takesAfterRecipe) 91 = .ok (.goto 4, 3) := by decide +kernel
theorem d_X2_takesAfterRecipe_94 : decode (bc mX2_takesAfterRecipe) 94 = .ok (.iconst 0, 1) := by decide +kernel
theorem d_X2_takesAfterRecipe_95 : decode (bc mX2_takesAfterRecipe) 95 = .ok (.ireturn, 1) := by decide +kernel
theorem d_X2_takesAfterRecipe_96 : decode (bc mX2_takesAfterRecipe) 96 = .ok (.iload_n 1, 1) := by decide +kernel
theorem d_X2_takesAfterRecipe_97 : decode (bc mX2_takesAfterRecipe) 97 = .ok (.bipush 125, 2) := by decide +kernel
theorem d_X2_takesAfterRecipe_99 : decode (bc mX2_takesAfterRecipe) 99 = .ok (.if_icmp .ne 14, 3) := by decide +kernel
theorem d_X2_takesAfterRecipe_102 : decode (bc mX2_takesAfterRecipe) 102 = .ok (.aload_n 0, 1) := by decide +kernel
theorem d_X2_takesAfterRecipe_103 : decode (bc mX2_takesAfterRecipe) 103 = .ok (.invokevirtual 93, 3) := by decide +kernel
theorem d_X2_takesAfterRecipe_106 : decode (bc mX2_takesAfterRecipe) 106 = .ok (.ifCond .eq 7, 3) := by decide +kernel
theorem d_X2_takesAfterRecipe_109 : decode (bc mX2_takesAfterRecipe) 109 = .ok (.iconst 1, 1) := by decide +kernel
theorem d_X2_takesAfterRecipe_110 : decode (bc mX2_takesAfterRecipe) 110 = .ok (.goto 4, 3) := by decide +kernel
theorem d_X2_takesAfterRecipe_113 : decode (bc mX2_takesAfterRecipe) 113 = .ok (.iconst 0, 1) := by decide +kernel
theorem d_X2_takesAfterRecipe_114 : decode (bc mX2_takesAfterRecipe) 114 = .ok (.ireturn, 1) := by decide +kernel
theorem d_X2_takesAfterRecipe_115 : decode (bc mX2_takesAfterRecipe) 115 = .ok (.iload_n 1, 1) := by decide +kernel
theorem d_X2_takesAfterRecipe_116 : decode (bc mX2_takesAfterRecipe) 116 = .ok (.bipush 41, 2) := by decide +kernel
theorem d_X2_takesAfterRecipe_118 : decode (bc mX2_takesAfterRecipe) 118 = .ok (.if_icmp .ne 14, 3) := by decide +kernel
theorem d_X2_takesAfterRecipe_121 : decode (bc mX2_takesAfterRecipe) 121 = .ok (.aload_n 0, 1) := by decide +kernel
theorem d_X2_takesAfterRecipe_122 : decode (bc mX2_takesAfterRecipe) 122 = .ok (.invokevirtual 96, 3) := by decide +kernel
theorem d_X2_takesAfterRecipe_125 : decode (bc mX2_takesAfterRecipe) 125 = .ok (.ifCond .eq 7, 3) := by decide +kernel
theorem d_X2_takesAfterRecipe_128 : decode (bc mX2_takesAfterRecipe) 128 = .ok (.iconst 1, 1) := by decide +kernel
theorem d_X2_takesAfterRecipe_129 : decode (bc mX2_takesAfterRecipe) 129 = .ok (.goto 4, 3) := by decide +kernel
theorem d_X2_takesAfterRecipe_132 : decode (bc mX2_takesAfterRecipe) 132 = .ok (.iconst 0, 1) := by decide +kernel
theorem d_X2_takesAfterRecipe_133 : decode (bc mX2_takesAfterRecipe) 133 = .ok (.ireturn, 1) := by decide +kernel
theorem d_X2_takesOperation_0 : decode (bc mX2_takesOperation) 0 = .ok (.iload_n 1, 1) := by decide +kernel
theorem d_X2_takesOperation_1 : decode (bc mX2_takesOperation) 1 = .ok (.tableswitch 49 42 45 #[43, 31, 49, 37], 31) := by decide +kernel
theorem d_X2_takesOperation_32 : decode (bc mX2_takesOperation) 32 = .ok (.aload_n 0, 1) := by decide +kernel
theorem d_X2_takesOperation_33 : decode (bc mX2_takesOperation) 33 = .ok (.iconst 2, 1) := by decide +kernel
theorem d_X2_takesOperation_34 : decode (bc mX2_takesOperation) 34 = .ok (.invokevirtual 99, 3) := by decide +kernel
theorem d_X2_takesOperation_37 : decode (bc mX2_takesOperation) 37 = .ok (.ireturn, 1) := by decide +kernel
theorem d_X2_takesOperation_38 : decode (bc mX2_takesOperation) 38 = .ok (.aload_n 0, 1) := by decide +kernel
theorem d_X2_takesOperation_39 : decode (bc mX2_takesOperation) 39 = .ok (.iconst 3, 1) := by decide +kernel
theorem d_X2_takesOperation_40 : decode (bc mX2_takesOperation) 40 = .ok (.invokevirtual 99, 3) := by decide +kernel
theorem d_X2_takesOperation_43 : decode (bc mX2_takesOperation) 43 = .ok (.ireturn, 1) := by decide +kernel
theorem d_X2_takesOperation_44 : decode (bc mX2_takesOperation) 44 = .ok (.aload_n 0, 1) := by decide +kernel
theorem d_X2_takesOperation_45 : decode (bc mX2_takesOperation) 45 = .ok (.iconst 4, 1) := by decide +kernel
theorem d_X2_takesOperation_46 : decode (bc mX2_takesOperation) 46 = .ok (.invokevirtual 99, 3) := by decide +kernel
theorem d_X2_takesOperation_49 : decode (bc mX2_takesOperation) 49 = .ok (.ireturn, 1) := by decide +kernel
theorem d_X2_takesOperation_50 : decode (bc mX2_takesOperation) 50 = .ok (.iconst 0, 1) := by decide +kernel
theorem d_X2_takesOperation_51 : decode (bc mX2_takesOperation) 51 = .ok (.ireturn, 1) := by decide +kernel
theorem d_X2_takesBracket_0 : decode (bc mX2_takesBracket) 0 = .ok (.aload_n 0, 1) := by decide +kernel
theorem d_X2_takesBracket_1 : decode (bc mX2_takesBracket) 1 = .ok (.dup, 1) := by decide +kernel
theorem d_X2_takesBracket_2 : decode (bc mX2_takesBracket) 2 = .ok (.getfield 35, 3) := by decide +kernel
theorem d_X2_takesBracket_5 : decode (bc mX2_takesBracket) 5 = .ok (.iconst 1, 1) := by decide +kernel
theorem d_X2_takesBracket_6 : decode (bc mX2_takesBracket) 6 = .ok (.isub, 1) := by decide +kernel
theorem d_X2_takesBracket_7 : decode (bc mX2_takesBracket) 7 = .ok (.putfield 35, 3) := by decide +kernel
theorem d_X2_takesBracket_10 : decode (bc mX2_takesBracket) 10 = .ok (.aload_n 0, 1) := by decide +kernel
theorem d_X2_takesBracket_11 : decode (bc mX2_takesBracket) 11 = .ok (.iconst 3, 1) := by decide +kernel
theorem d_X2_takesBracket_12 : decode (bc mX2_takesBracket) 12 = .ok (.putfield 31, 3) := by decide +kernel
theorem d_X2_takesBracket_15 : decode (bc mX2_takesBracket) 15 = .ok (.aload_n 0, 1) := by decide +kernel
theorem d_X2_takesBracket_16 : decode (bc mX2_takesBracket) 16 = .ok (.aload_n 0, 1) := by decide +kernel
theorem d_X2_takesBracket_17 : decode (bc mX2_takesBracket) 17 = .ok (.getfield 18, 3) := by decide +kernel
theorem d_X2_takesBracket_20 : decode (bc mX2_takesBracket) 20 = .ok (.aload_n 0, 1) := by decide +kernel
theorem d_X2_takesBracket_21 : decode (bc mX2_takesBracket) 21 = .ok (.getfield 35, 3) := by decide +kernel
theorem d_X2_takesBracket_24 : decode (bc mX2_takesBracket) 24 = .ok (.iaload, 1) := by decide +kernel
theorem d_X2_takesBracket_25 : decode (bc mX2_takesBracket) 25 = .ok (.iconst 0, 1) := by decide +kernel
theorem d_X2_takesBracket_26 : decode (bc mX2_takesBracket) 26 = .ok (.invokevirtual 73, 3) := by decide +kernel
theorem d_X2_takesBracket_29 : decode (bc mX2_takesBracket) 29 = .ok (.ireturn, 1) := by decide +kernel
theorem d_X2_takesQuestion_0 : decode (bc mX2_takesQuestion) 0 = .ok (.aload_n 0, 1) := by decide +kernel
theorem d_X2_takesQuestion_1 : decode (bc mX2_takesQuestion) 1 = .ok (.getfield 21, 3) := by decide +kernel
theorem d_X2_takesQuestion_4 : decode (bc mX2_takesQuestion) 4 = .ok (.aload_n 0, 1) := by decide +kernel
theorem d_X2_takesQuestion_5 : decode (bc mX2_takesQuestion) 5 = .ok (.getfield 35, 3) := by decide +kernel
theorem d_X2_takesQuestion_8 : decode (bc mX2_takesQuestion) 8 = .ok (.iconst 1, 1) := by decide +kernel
theorem d_X2_takesQuestion_9 : decode (bc mX2_takesQuestion) 9 = .ok (.isub, 1) := by decide +kernel
theorem d_X2_takesQuestion_10 : decode (bc mX2_takesQuestion) 10 = .ok (.aload_n 0, 1) := by decide +kernel
theorem d_X2_takesQuestion_11 : decode (bc mX2_takesQuestion) 11 = .ok (.getfield 43, 3) := by decide +kernel
theorem d_X2_takesQuestion_14 : decode (bc mX2_takesQuestion) 14 = .ok (.iastore, 1) := by decide +kernel
theorem d_X2_takesQuestion_15 : decode (bc mX2_takesQuestion) 15 = .ok (.aload_n 0, 1) := by decide +kernel
theorem d_X2_takesQuestion_16 : decode (bc mX2_takesQuestion) 16 = .ok (.iconst 5, 1) := by decide +kernel
theorem d_X2_takesQuestion_17 : decode (bc mX2_takesQuestion) 17 = .ok (.iconst 0, 1) := by decide +kernel
theorem d_X2_takesQuestion_18 : decode (bc mX2_takesQuestion) 18 = .ok (.invokevirtual 73, 3) := by decide +kernel
theorem d_X2_takesQuestion_21 : decode (bc mX2_takesQuestion) 21 = .ok (.ifCond .eq 16, 3) := by decide +kernel
theorem d_X2_takesQuestion_24 : decode (bc mX2_takesQuestion) 24 = .ok (.aload_n 0, 1) := by decide +kernel
theorem d_X2_takesQuestion_25 : decode (bc mX2_takesQuestion) 25 = .ok (.bipush 12, 2) := by decide +kernel
theorem d_X2_takesQuestion_27 : decode (bc mX2_takesQuestion) 27 = .ok (.invokevirtual 99, 3) := by decide +kernel
theorem d_X2_takesQuestion_30 : decode (bc mX2_takesQuestion) 30 = .ok (.ifCond .eq 7, 3) := by decide +kernel
theorem d_X2_takesQuestion_33 : decode (bc mX2_takesQuestion) 33 = .ok (.iconst 1, 1) := by decide +kernel
theorem d_X2_takesQuestion_34 : decode (bc mX2_takesQuestion) 34 = .ok (.goto 4, 3) := by decide +kernel
theorem d_X2_takesQuestion_37 : decode (bc mX2_takesQuestion) 37 = .ok (.iconst 0, 1) := by decide +kernel
theorem d_X2_takesQuestion_38 : decode (bc mX2_takesQuestion) 38 = .ok (.ireturn, 1) := by decide +kernel
theorem d_X2_takesColon_0 : decode (bc mX2_takesColon) 0 = .ok (.aload_n 0, 1) := by decide +kernel
theorem d_X2_takesColon_1 : decode (bc mX2_takesColon) 1 = .ok (.getfield 21, 3) := by decide +kernel
theorem d_X2_takesColon_4 : decode (bc mX2_takesColon) 4 = .ok (.aload_n 0, 1) := by decide +kernel
theorem d_X2_takesColon_5 : decode (bc mX2_takesColon) 5 = .ok (.getfield 35, 3) := by decide +kernel
theorem d_X2_takesColon_8 : decode (bc mX2_takesColon) 8 = .ok (.iconst 1, 1) := by decide +kernel
theorem d_X2_takesColon_9 : decode (bc mX2_takesColon) 9 = .ok (.isub, 1) := by decide +kernel
theorem d_X2_takesColon_10 : decode (bc mX2_takesColon) 10 = .ok (.iaload, 1) := by decide +kernel
theorem d_X2_takesColon_11 : decode (bc mX2_takesColon) 11 = .ok (.istore_n 1, 1) := by decide +kernel
theorem d_X2_takesColon_12 : decode (bc mX2_takesColon) 12 = .ok (.aload_n 0, 1) := by decide +kernel
theorem d_X2_takesColon_13 : decode (bc mX2_takesColon) 13 = .ok (.getfield 21, 3) := by decide +kernel
theorem d_X2_takesColon_16 : decode (bc mX2_takesColon) 16 = .ok (.aload_n 0, 1) := by decide +kernel
theorem d_X2_takesColon_17 : decode (bc mX2_takesColon) 17 = .ok (.getfield 35, 3) := by decide +kernel
theorem d_X2_takesColon_20 : decode (bc mX2_takesColon) 20 = .ok (.iconst 1, 1) := by decide +kernel
theorem d_X2_takesColon_21 : decode (bc mX2_takesColon) 21 = .ok (.isub, 1) := by decide +kernel
theorem d_X2_takesColon_22 : decode (bc mX2_takesColon) 22 = .ok (.aload_n 0, 1) := by decide +kernel
theorem d_X2_takesColon_23 : decode (bc mX2_takesColon) 23 = .ok (.getfield 43, 3) := by decide +kernel
theorem d_X2_takesColon_26 : decode (bc mX2_takesColon) 26 = .ok (.iastore, 1) := by decide +kernel
theorem d_X2_takesColon_27 : decode (bc mX2_takesColon) 27 = .ok (.aload_n 0, 1) := by decide +kernel
theorem d_X2_takesColon_28 : decode (bc mX2_takesColon) 28 = .ok (.bipush 6, 2) := by decide +kernel
theorem d_X2_takesColon_30 : decode (bc mX2_takesColon) 30 = .ok (.iconst 0, 1) := by decide +kernel
theorem d_X2_takesColon_31 : decode (bc mX2_takesColon) 31 = .ok (.invokevirtual 102, 3) := by decide +kernel
theorem d_X2_takesColon_34 : decode (bc mX2_takesColon) 34 = .ok (.ifCond .ne 5, 3) := by decide +kernel
theorem d_X2_takesColon_37 : decode (bc mX2_takesColon) 37 = .ok (.iconst 0, 1) := by decide +kernel
theorem d_X2_takesColon_38 : decode (bc mX2_takesColon) 38 = .ok (.ireturn, 1) := by decide +kernel
theorem d_X2_takesColon_39 : decode (bc mX2_takesColon) 39 = .ok (.aload_n 0, 1) := by decide +kernel
theorem d_X2_takesColon_40 : decode (bc mX2_takesColon) 40 = .ok (.iload_n 1, 1) := by decide +kernel
theorem d_X2_takesColon_41 : decode (bc mX2_takesColon) 41 = .ok (.invokevirtual 105, 3) := by decide +kernel
theorem d_X2_takesColon_44 : decode (bc mX2_takesColon) 44 = .ok (.aload_n 0, 1) := by decide +kernel
theorem d_X2_takesColon_45 : decode (bc mX2_takesColon) 45 = .ok (.bipush 13, 2) := by decide +kernel
theorem d_X2_takesColon_47 : decode (bc mX2_takesColon) 47 = .ok (.invokevirtual 99, 3) := by decide +kernel
theorem d_X2_takesColon_50 : decode (bc mX2_takesColon) 50 = .ok (.ireturn, 1) := by decide +kernel
theorem d_X2_takesBrace_0 : decode (bc mX2_takesBrace) 0 = .ok (.aload_n 0, 1) := by decide +kernel
theorem d_X2_takesBrace_1 : decode (bc mX2_takesBrace) 1 = .ok (.dup, 1) := by decide +kernel
theorem d_X2_takesBrace_2 : decode (bc mX2_takesBrace) 2 = .ok (.getfield 35, 3) := by decide +kernel
theorem d_X2_takesBrace_5 : decode (bc mX2_takesBrace) 5 = .ok (.iconst 1, 1) := by decide +kernel
theorem d_X2_takesBrace_6 : decode (bc mX2_takesBrace) 6 = .ok (.isub, 1) := by decide +kernel
theorem d_X2_takesBrace_7 : decode (bc mX2_takesBrace) 7 = .ok (.putfield 35, 3) := by decide +kernel
theorem d_X2_takesBrace_10 : decode (bc mX2_takesBrace) 10 = .ok (.aload_n 0, 1) := by decide +kernel
theorem d_X2_takesBrace_11 : decode (bc mX2_takesBrace) 11 = .ok (.aload_n 0, 1) := by decide +kernel
theorem d_X2_takesBrace_12 : decode (bc mX2_takesBrace) 12 = .ok (.getfield 21, 3) := by decide +kernel
theorem d_X2_takesBrace_15 : decode (bc mX2_takesBrace) 15 = .ok (.aload_n 0, 1) := by decide +kernel
theorem d_X2_takesBrace_16 : decode (bc mX2_takesBrace) 16 = .ok (.getfield 35, 3) := by decide +kernel
theorem d_X2_takesBrace_19 : decode (bc mX2_takesBrace) 19 = .ok (.iaload, 1) := by decide +kernel
theorem d_X2_takesBrace_20 : decode (bc mX2_takesBrace) 20 = .ok (.invokevirtual 105, 3) := by decide +kernel
theorem d_X2_takesBrace_23 : decode (bc mX2_takesBrace) 23 = .ok (.aload_n 0, 1) := by decide +kernel
theorem d_X2_takesBrace_24 : decode (bc mX2_takesBrace) 24 = .ok (.iconst 3, 1) := by decide +kernel
theorem d_X2_takesBrace_25 : decode (bc mX2_takesBrace) 25 = .ok (.putfield 31, 3) := by decide +kernel
theorem d_X2_takesBrace_28 : decode (bc mX2_takesBrace) 28 = .ok (.iconst 1, 1) := by decide +kernel
theorem d_X2_takesBrace_29 : decode (bc mX2_takesBrace) 29 = .ok (.ireturn, 1) := by decide +kernel
theorem d_X2_opens_0 : decode (bc mX2_opens) 0 = .ok (.aload_n 0, 1) := by decide +kernel
theorem d_X2_opens_1 : decode (bc mX2_opens) 1 = .ok (.getfield 35, 3) := by decide +kernel
theorem d_X2_opens_4 : decode (bc mX2_opens) 4 = .ok (.aload_n 0, 1) := by decide +kernel
theorem d_X2_opens_5 : decode (bc mX2_opens) 5 = .ok (.getfield 18, 3) := by decide +kernel
theorem d_X2_opens_8 : decode (bc mX2_opens) 8 = .ok (.arraylength, 1) := by decide +kernel
theorem d_X2_opens_9 : decode (bc mX2_opens) 9 = .ok (.if_icmp .lt 5, 3) := by decide +kernel
theorem d_X2_opens_12 : decode (bc mX2_opens) 12 = .ok (.iconst 0, 1) := by decide +kernel
theorem d_X2_opens_13 : decode (bc mX2_opens) 13 = .ok (.ireturn, 1) := by decide +kernel
theorem d_X2_opens_14 : decode (bc mX2_opens) 14 = .ok (.aload_n 0, 1) := by decide +kernel
theorem d_X2_opens_15 : decode (bc mX2_opens) 15 = .ok (.getfield 18, 3) := by decide +kernel
theorem d_X2_opens_18 : decode (bc mX2_opens) 18 = .ok (.aload_n 0, 1) := by decide +kernel
theorem d_X2_opens_19 : decode (bc mX2_opens) 19 = .ok (.getfield 35, 3) := by decide +kernel
theorem d_X2_opens_22 : decode (bc mX2_opens) 22 = .ok (.iload_n 1, 1) := by decide +kernel
theorem d_X2_opens_23 : decode (bc mX2_opens) 23 = .ok (.iastore, 1) := by decide +kernel
theorem d_X2_opens_24 : decode (bc mX2_opens) 24 = .ok (.aload_n 0, 1) := by decide +kernel
theorem d_X2_opens_25 : decode (bc mX2_opens) 25 = .ok (.dup, 1) := by decide +kernel
theorem d_X2_opens_26 : decode (bc mX2_opens) 26 = .ok (.getfield 35, 3) := by decide +kernel
theorem d_X2_opens_29 : decode (bc mX2_opens) 29 = .ok (.iconst 1, 1) := by decide +kernel
theorem d_X2_opens_30 : decode (bc mX2_opens) 30 = .ok (.iadd, 1) := by decide +kernel
theorem d_X2_opens_31 : decode (bc mX2_opens) 31 = .ok (.putfield 35, 3) := by decide +kernel
theorem d_X2_opens_34 : decode (bc mX2_opens) 34 = .ok (.iconst 1, 1) := by decide +kernel
theorem d_X2_opens_35 : decode (bc mX2_opens) 35 = .ok (.ireturn, 1) := by decide +kernel
theorem d_X2_waitsNext_0 : decode (bc mX2_waitsNext) 0 = .ok (.aload_n 0, 1) := by decide +kernel
theorem d_X2_waitsNext_1 : decode (bc mX2_waitsNext) 1 = .ok (.getfield 18, 3) := by decide +kernel
theorem d_X2_waitsNext_4 : decode (bc mX2_waitsNext) 4 = .ok (.aload_n 0, 1) := by decide +kernel
theorem d_X2_waitsNext_5 : decode (bc mX2_waitsNext) 5 = .ok (.getfield 35, 3) := by decide +kernel
theorem d_X2_waitsNext_8 : decode (bc mX2_waitsNext) 8 = .ok (.iconst 1, 1) := by decide +kernel
theorem d_X2_waitsNext_9 : decode (bc mX2_waitsNext) 9 = .ok (.isub, 1) := by decide +kernel
theorem d_X2_waitsNext_10 : decode (bc mX2_waitsNext) 10 = .ok (.iload_n 1, 1) := by decide +kernel
theorem d_X2_waitsNext_11 : decode (bc mX2_waitsNext) 11 = .ok (.iastore, 1) := by decide +kernel
theorem d_X2_waitsNext_12 : decode (bc mX2_waitsNext) 12 = .ok (.aload_n 0, 1) := by decide +kernel
theorem d_X2_waitsNext_13 : decode (bc mX2_waitsNext) 13 = .ok (.iconst 0, 1) := by decide +kernel
theorem d_X2_waitsNext_14 : decode (bc mX2_waitsNext) 14 = .ok (.putfield 31, 3) := by decide +kernel
theorem d_X2_waitsNext_17 : decode (bc mX2_waitsNext) 17 = .ok (.iconst 1, 1) := by decide +kernel
theorem d_X2_waitsNext_18 : decode (bc mX2_waitsNext) 18 = .ok (.ireturn, 1) := by decide +kernel
theorem d_X2_addsPart_0 : decode (bc mX2_addsPart) 0 = .ok (.aload_n 0, 1) := by decide +kernel
theorem d_X2_addsPart_1 : decode (bc mX2_addsPart) 1 = .ok (.dup, 1) := by decide +kernel
theorem d_X2_addsPart_2 : decode (bc mX2_addsPart) 2 = .ok (.getfield 46, 3) := by decide +kernel
theorem d_X2_addsPart_5 : decode (bc mX2_addsPart) 5 = .ok (.iconst 1, 1) := by decide +kernel
theorem d_X2_addsPart_6 : decode (bc mX2_addsPart) 6 = .ok (.iadd, 1) := by decide +kernel
theorem d_X2_addsPart_7 : decode (bc mX2_addsPart) 7 = .ok (.putfield 46, 3) := by decide +kernel
theorem d_X2_addsPart_10 : decode (bc mX2_addsPart) 10 = .ok (.aload_n 0, 1) := by decide +kernel
theorem d_X2_addsPart_11 : decode (bc mX2_addsPart) 11 = .ok (.iload_n 1, 1) := by decide +kernel
theorem d_X2_addsPart_12 : decode (bc mX2_addsPart) 12 = .ok (.iload_n 2, 1) := by decide +kernel
theorem d_X2_addsPart_13 : decode (bc mX2_addsPart) 13 = .ok (.invokevirtual 102, 3) := by decide +kernel
theorem d_X2_addsPart_16 : decode (bc mX2_addsPart) 16 = .ok (.ireturn, 1) := by decide +kernel
theorem d_X2_adds_0 : decode (bc mX2_adds) 0 = .ok (.aload_n 0, 1) := by decide +kernel
theorem d_X2_adds_1 : decode (bc mX2_adds) 1 = .ok (.getfield 43, 3) := by decide +kernel
theorem d_X2_adds_4 : decode (bc mX2_adds) 4 = .ok (.aload_n 0, 1) := by decide +kernel
theorem d_X2_adds_5 : decode (bc mX2_adds) 5 = .ok (.getfield 9, 3) := by decide +kernel
theorem d_X2_adds_8 : decode (bc mX2_adds) 8 = .ok (.arraylength, 1) := by decide +kernel
theorem d_X2_adds_9 : decode (bc mX2_adds) 9 = .ok (.if_icmp .lt 5, 3) := by decide +kernel
theorem d_X2_adds_12 : decode (bc mX2_adds) 12 = .ok (.iconst 0, 1) := by decide +kernel
theorem d_X2_adds_13 : decode (bc mX2_adds) 13 = .ok (.ireturn, 1) := by decide +kernel
theorem d_X2_adds_14 : decode (bc mX2_adds) 14 = .ok (.aload_n 0, 1) := by decide +kernel
theorem d_X2_adds_15 : decode (bc mX2_adds) 15 = .ok (.getfield 9, 3) := by decide +kernel
theorem d_X2_adds_18 : decode (bc mX2_adds) 18 = .ok (.aload_n 0, 1) := by decide +kernel
theorem d_X2_adds_19 : decode (bc mX2_adds) 19 = .ok (.getfield 43, 3) := by decide +kernel
theorem d_X2_adds_22 : decode (bc mX2_adds) 22 = .ok (.iload_n 1, 1) := by decide +kernel
theorem d_X2_adds_23 : decode (bc mX2_adds) 23 = .ok (.iastore, 1) := by decide +kernel
theorem d_X2_adds_24 : decode (bc mX2_adds) 24 = .ok (.aload_n 0, 1) := by decide +kernel
theorem d_X2_adds_25 : decode (bc mX2_adds) 25 = .ok (.getfield 15, 3) := by decide +kernel
theorem d_X2_adds_28 : decode (bc mX2_adds) 28 = .ok (.aload_n 0, 1) := by decide +kernel
theorem d_X2_adds_29 : decode (bc mX2_adds) 29 = .ok (.getfield 43, 3) := by decide +kernel
theorem d_X2_adds_32 : decode (bc mX2_adds) 32 = .ok (.iload_n 2, 1) := by decide +kernel
theorem d_X2_adds_33 : decode (bc mX2_adds) 33 = .ok (.iastore, 1) := by decide +kernel
theorem d_X2_adds_34 : decode (bc mX2_adds) 34 = .ok (.aload_n 0, 1) := by decide +kernel
theorem d_X2_adds_35 : decode (bc mX2_adds) 35 = .ok (.dup, 1) := by decide +kernel
theorem d_X2_adds_36 : decode (bc mX2_adds) 36 = .ok (.getfield 43, 3) := by decide +kernel
theorem d_X2_adds_39 : decode (bc mX2_adds) 39 = .ok (.iconst 1, 1) := by decide +kernel
theorem d_X2_adds_40 : decode (bc mX2_adds) 40 = .ok (.iadd, 1) := by decide +kernel
theorem d_X2_adds_41 : decode (bc mX2_adds) 41 = .ok (.putfield 43, 3) := by decide +kernel
theorem d_X2_adds_44 : decode (bc mX2_adds) 44 = .ok (.iconst 1, 1) := by decide +kernel
theorem d_X2_adds_45 : decode (bc mX2_adds) 45 = .ok (.ireturn, 1) := by decide +kernel
theorem d_X2_closesEnd_0 : decode (bc mX2_closesEnd) 0 = .ok (.iload_n 1, 1) := by decide +kernel
theorem d_X2_closesEnd_1 : decode (bc mX2_closesEnd) 1 = .ok (.ifCond .lt 21, 3) := by decide +kernel
theorem d_X2_closesEnd_4 : decode (bc mX2_closesEnd) 4 = .ok (.iload_n 1, 1) := by decide +kernel
theorem d_X2_closesEnd_5 : decode (bc mX2_closesEnd) 5 = .ok (.aload_n 0, 1) := by decide +kernel
theorem d_X2_closesEnd_6 : decode (bc mX2_closesEnd) 6 = .ok (.getfield 43, 3) := by decide +kernel
theorem d_X2_closesEnd_9 : decode (bc mX2_closesEnd) 9 = .ok (.if_icmp .ge 13, 3) := by decide +kernel
theorem d_X2_closesEnd_12 : decode (bc mX2_closesEnd) 12 = .ok (.aload_n 0, 1) := by decide +kernel
theorem d_X2_closesEnd_13 : decode (bc mX2_closesEnd) 13 = .ok (.getfield 15, 3) := by decide +kernel
theorem d_X2_closesEnd_16 : decode (bc mX2_closesEnd) 16 = .ok (.iload_n 1, 1) := by decide +kernel
theorem d_X2_closesEnd_17 : decode (bc mX2_closesEnd) 17 = .ok (.aload_n 0, 1) := by decide +kernel
theorem d_X2_closesEnd_18 : decode (bc mX2_closesEnd) 18 = .ok (.getfield 43, 3) := by decide +kernel
theorem d_X2_closesEnd_21 : decode (bc mX2_closesEnd) 21 = .ok (.iastore, 1) := by decide +kernel
theorem d_X2_closesEnd_22 : decode (bc mX2_closesEnd) 22 = .ok (.return_, 1) := by decide +kernel
theorem d_X2_isDigit_0 : decode (bc mX2_isDigit) 0 = .ok (.iload_n 0, 1) := by decide +kernel
theorem d_X2_isDigit_1 : decode (bc mX2_isDigit) 1 = .ok (.bipush 48, 2) := by decide +kernel
theorem d_X2_isDigit_3 : decode (bc mX2_isDigit) 3 = .ok (.if_icmp .lt 13, 3) := by decide +kernel
theorem d_X2_isDigit_6 : decode (bc mX2_isDigit) 6 = .ok (.iload_n 0, 1) := by decide +kernel
theorem d_X2_isDigit_7 : decode (bc mX2_isDigit) 7 = .ok (.bipush 57, 2) := by decide +kernel
theorem d_X2_isDigit_9 : decode (bc mX2_isDigit) 9 = .ok (.if_icmp .gt 7, 3) := by decide +kernel
theorem d_X2_isDigit_12 : decode (bc mX2_isDigit) 12 = .ok (.iconst 1, 1) := by decide +kernel
theorem d_X2_isDigit_13 : decode (bc mX2_isDigit) 13 = .ok (.goto 4, 3) := by decide +kernel
theorem d_X2_isDigit_16 : decode (bc mX2_isDigit) 16 = .ok (.iconst 0, 1) := by decide +kernel
theorem d_X2_isDigit_17 : decode (bc mX2_isDigit) 17 = .ok (.ireturn, 1) := by decide +kernel
theorem d_X3_init_0 : decode (bc mX3_init) 0 = .ok (.aload_n 0, 1) := by decide +kernel
theorem d_X3_init_1 : decode (bc mX3_init) 1 = .ok (.invokespecial 1, 3) := by decide +kernel
theorem d_X3_init_4 : decode (bc mX3_init) 4 = .ok (.aload_n 0, 1) := by decide +kernel
theorem d_X3_init_5 : decode (bc mX3_init) 5 = .ok (.aload_n 1, 1) := by decide +kernel
theorem d_X3_init_6 : decode (bc mX3_init) 6 = .ok (.getfield 7, 3) := by decide +kernel
theorem d_X3_init_9 : decode (bc mX3_init) 9 = .ok (.putfield 13, 3) := by decide +kernel
theorem d_X3_init_12 : decode (bc mX3_init) 12 = .ok (.aload_n 0, 1) := by decide +kernel
theorem d_X3_init_13 : decode (bc mX3_init) 13 = .ok (.aload_n 1, 1) := by decide +kernel
theorem d_X3_init_14 : decode (bc mX3_init) 14 = .ok (.getfield 16, 3) := by decide +kernel
theorem d_X3_init_17 : decode (bc mX3_init) 17 = .ok (.aload_n 0, 1) := by decide +kernel
theorem d_X3_init_18 : decode (bc mX3_init) 18 = .ok (.getfield 13, 3) := by decide +kernel
theorem d_X3_init_21 : decode (bc mX3_init) 21 = .ok (.invokestatic 20, 3) := by decide +kernel
theorem d_X3_init_24 : decode (bc mX3_init) 24 = .ok (.putfield 26, 3) := by decide +kernel
theorem d_X3_init_27 : decode (bc mX3_init) 27 = .ok (.aload_n 0, 1) := by decide +kernel
theorem d_X3_init_28 : decode (bc mX3_init) 28 = .ok (.aload_n 1, 1) := by decide +kernel
theorem d_X3_init_29 : decode (bc mX3_init) 29 = .ok (.getfield 27, 3) := by decide +kernel
theorem d_X3_init_32 : decode (bc mX3_init) 32 = .ok (.aload_n 0, 1) := by decide +kernel
theorem d_X3_init_33 : decode (bc mX3_init) 33 = .ok (.getfield 13, 3) := by decide +kernel
theorem d_X3_init_36 : decode (bc mX3_init) 36 = .ok (.invokestatic 20, 3) := by decide +kernel
theorem d_X3_init_39 : decode (bc mX3_init) 39 = .ok (.putfield 30, 3) := by decide +kernel
theorem d_X3_init_42 : decode (bc mX3_init) 42 = .ok (.aload_n 0, 1) := by decide +kernel
theorem d_X3_init_43 : decode (bc mX3_init) 43 = .ok (.aload_n 1, 1) := by decide +kernel
theorem d_X3_init_44 : decode (bc mX3_init) 44 = .ok (.getfield 31, 3) := by decide +kernel
theorem d_X3_init_47 : decode (bc mX3_init) 47 = .ok (.putfield 34, 3) := by decide +kernel
theorem d_X3_init_50 : decode (bc mX3_init) 50 = .ok (.aload_n 0, 1) := by decide +kernel
theorem d_X3_init_51 : decode (bc mX3_init) 51 = .ok (.aload_n 1, 1) := by decide +kernel
theorem d_X3_init_52 : decode (bc mX3_init) 52 = .ok (.getfield 35, 3) := by decide +kernel
theorem d_X3_init_55 : decode (bc mX3_init) 55 = .ok (.putfield 38, 3) := by decide +kernel
theorem d_X3_init_58 : decode (bc mX3_init) 58 = .ok (.aload_n 0, 1) := by decide +kernel
theorem d_X3_init_59 : decode (bc mX3_init) 59 = .ok (.aload_n 1, 1) := by decide +kernel
theorem d_X3_init_60 : decode (bc mX3_init) 60 = .ok (.getfield 39, 3) := by decide +kernel
theorem d_X3_init_63 : decode (bc mX3_init) 63 = .ok (.putfield 42, 3) := by decide +kernel
theorem d_X3_init_66 : decode (bc mX3_init) 66 = .ok (.return_, 1) := by decide +kernel
theorem d_X4_init_0 : decode (bc mX4_init) 0 = .ok (.aload_n 0, 1) := by decide +kernel
theorem d_X4_init_1 : decode (bc mX4_init) 1 = .ok (.invokespecial 3, 3) := by decide +kernel
theorem d_X4_init_4 : decode (bc mX4_init) 4 = .ok (.aload_n 0, 1) := by decide +kernel
theorem d_X4_init_5 : decode (bc mX4_init) 5 = .ok (.bipush 12, 2) := by decide +kernel
theorem d_X4_init_7 : decode (bc mX4_init) 7 = .ok (.newarray .int, 2) := by decide +kernel
theorem d_X4_init_9 : decode (bc mX4_init) 9 = .ok (.putfield 9, 3) := by decide +kernel
theorem d_X4_init_12 : decode (bc mX4_init) 12 = .ok (.aload_n 0, 1) := by decide +kernel
theorem d_X4_init_13 : decode (bc mX4_init) 13 = .ok (.iconst 2, 1) := by decide +kernel
theorem d_X4_init_14 : decode (bc mX4_init) 14 = .ok (.newarray .int, 2) := by decide +kernel
theorem d_X4_init_16 : decode (bc mX4_init) 16 = .ok (.dup, 1) := by decide +kernel
theorem d_X4_init_17 : decode (bc mX4_init) 17 = .ok (.iconst 0, 1) := by decide +kernel
theorem d_X4_init_18 : decode (bc mX4_init) 18 = .ok (.bipush 8, 2) := by decide +kernel
theorem d_X4_init_20 : decode (bc mX4_init) 20 = .ok (.iastore, 1) := by decide +kernel
theorem d_X4_init_21 : decode (bc mX4_init) 21 = .ok (.dup, 1) := by decide +kernel
theorem d_X4_init_22 : decode (bc mX4_init) 22 = .ok (.iconst 1, 1) := by decide +kernel
theorem d_X4_init_23 : decode (bc mX4_init) 23 = .ok (.iconst 1, 1) := by decide +kernel
theorem d_X4_init_24 : decode (bc mX4_init) 24 = .ok (.iastore, 1) := by decide +kernel
theorem d_X4_init_25 : decode (bc mX4_init) 25 = .ok (.putfield 15, 3) := by decide +kernel
theorem d_X4_init_28 : decode (bc mX4_init) 28 = .ok (.aload_n 0, 1) := by decide +kernel
theorem d_X4_init_29 : decode (bc mX4_init) 29 = .ok (.bipush 6, 2) := by decide +kernel
theorem d_X4_init_31 : decode (bc mX4_init) 31 = .ok (.anewarray 18, 3) := by decide +kernel
theorem d_X4_init_34 : decode (bc mX4_init) 34 = .ok (.putfield 20, 3) := by decide +kernel
theorem d_X4_init_37 : decode (bc mX4_init) 37 = .ok (.aload_n 0, 1) := by decide +kernel
theorem d_X4_init_38 : decode (bc mX4_init) 38 = .ok (.bipush 17, 2) := by decide +kernel
theorem d_X4_init_40 : decode (bc mX4_init) 40 = .ok (.anewarray 24, 3) := by decide +kernel
theorem d_X4_init_43 : decode (bc mX4_init) 43 = .ok (.putfield 26, 3) := by decide +kernel
theorem d_X4_init_46 : decode (bc mX4_init) 46 = .ok (.aload_n 0, 1) := by decide +kernel
theorem d_X4_init_47 : decode (bc mX4_init) 47 = .ok (.bipush 6, 2) := by decide +kernel
theorem d_X4_init_49 : decode (bc mX4_init) 49 = .ok (.newarray .int, 2) := by decide +kernel
theorem d_X4_init_51 : decode (bc mX4_init) 51 = .ok (.putfield 30, 3) := by decide +kernel
theorem d_X4_init_54 : decode (bc mX4_init) 54 = .ok (.aload_n 0, 1) := by decide +kernel
theorem d_X4_init_55 : decode (bc mX4_init) 55 = .ok (.bipush 6, 2) := by decide +kernel
theorem d_X4_init_57 : decode (bc mX4_init) 57 = .ok (.newarray .int, 2) := by decide +kernel
theorem d_X4_init_59 : decode (bc mX4_init) 59 = .ok (.putfield 33, 3) := by decide +kernel
theorem d_X4_init_62 : decode (bc mX4_init) 62 = .ok (.iconst 0, 1) := by decide +kernel
theorem d_X4_init_63 : decode (bc mX4_init) 63 = .ok (.istore_n 1, 1) := by decide +kernel
theorem d_X4_init_64 : decode (bc mX4_init) 64 = .ok (.iload_n 1, 1) := by decide +kernel
theorem d_X4_init_65 : decode (bc mX4_init) 65 = .ok (.aload_n 0, 1) := by decide +kernel
theorem d_X4_init_66 : decode (bc mX4_init) 66 = .ok (.getfield 26, 3) := by decide +kernel
theorem d_X4_init_69 : decode (bc mX4_init) 69 = .ok (.arraylength, 1) := by decide +kernel
theorem d_X4_init_70 : decode (bc mX4_init) 70 = .ok (.if_icmp .ge 22, 3) := by decide +kernel
theorem d_X4_init_73 : decode (bc mX4_init) 73 = .ok (.aload_n 0, 1) := by decide +kernel
theorem d_X4_init_74 : decode (bc mX4_init) 74 = .ok (.getfield 26, 3) := by decide +kernel
theorem d_X4_init_77 : decode (bc mX4_init) 77 = .ok (.iload_n 1, 1) := by decide +kernel
theorem d_X4_init_78 : decode (bc mX4_init) 78 = .ok (.new 24, 3) := by decide +kernel
theorem d_X4_init_81 : decode (bc mX4_init) 81 = .ok (.dup, 1) := by decide +kernel
theorem d_X4_init_82 : decode (bc mX4_init) 82 = .ok (.invokespecial 36, 3) := by decide +kernel
theorem d_X4_init_85 : decode (bc mX4_init) 85 = .ok (.aastore, 1) := by decide +kernel
theorem d_X4_init_86 : decode (bc mX4_init) 86 = .ok (.iinc 1 1, 3) := by decide +kernel
theorem d_X4_init_89 : decode (bc mX4_init) 89 = .ok (.goto (-25), 3) := by decide +kernel
theorem d_X4_init_92 : decode (bc mX4_init) 92 = .ok (.return_, 1) := by decide +kernel
theorem d_X4_copyFrom_0 : decode (bc mX4_copyFrom) 0 = .ok (.aload_n 1, 1) := by decide +kernel
theorem d_X4_copyFrom_1 : decode (bc mX4_copyFrom) 1 = .ok (.getfield 9, 3) := by decide +kernel
theorem d_X4_copyFrom_4 : decode (bc mX4_copyFrom) 4 = .ok (.iconst 0, 1) := by decide +kernel
theorem d_X4_copyFrom_5 : decode (bc mX4_copyFrom) 5 = .ok (.aload_n 0, 1) := by decide +kernel
theorem d_X4_copyFrom_6 : decode (bc mX4_copyFrom) 6 = .ok (.getfield 9, 3) := by decide +kernel
theorem d_X4_copyFrom_9 : decode (bc mX4_copyFrom) 9 = .ok (.iconst 0, 1) := by decide +kernel
theorem d_X4_copyFrom_10 : decode (bc mX4_copyFrom) 10 = .ok (.bipush 12, 2) := by decide +kernel
theorem d_X4_copyFrom_12 : decode (bc mX4_copyFrom) 12 = .ok (.invokestatic 37, 3) := by decide +kernel
theorem d_X4_copyFrom_15 : decode (bc mX4_copyFrom) 15 = .ok (.aload_n 0, 1) := by decide +kernel
theorem d_X4_copyFrom_16 : decode (bc mX4_copyFrom) 16 = .ok (.aload_n 1, 1) := by decide +kernel
theorem d_X4_copyFrom_17 : decode (bc mX4_copyFrom) 17 = .ok (.getfield 43, 3) := by decide +kernel
theorem d_X4_copyFrom_20 : decode (bc mX4_copyFrom) 20 = .ok (.putfield 43, 3) := by decide +kernel
theorem d_X4_copyFrom_23 : decode (bc mX4_copyFrom) 23 = .ok (.aload_n 1, 1) := by decide +kernel
theorem d_X4_copyFrom_24 : decode (bc mX4_copyFrom) 24 = .ok (.getfield 15, 3) := by decide +kernel
theorem d_X4_copyFrom_27 : decode (bc mX4_copyFrom) 27 = .ok (.iconst 0, 1) := by decide +kernel
theorem d_X4_copyFrom_28 : decode (bc mX4_copyFrom) 28 = .ok (.aload_n 0, 1) := by decide +kernel
theorem d_X4_copyFrom_29 : decode (bc mX4_copyFrom) 29 = .ok (.getfield 15, 3) := by decide +kernel
theorem d_X4_copyFrom_32 : decode (bc mX4_copyFrom) 32 = .ok (.iconst 0, 1) := by decide +kernel
theorem d_X4_copyFrom_33 : decode (bc mX4_copyFrom) 33 = .ok (.aload_n 0, 1) := by decide +kernel
theorem d_X4_copyFrom_34 : decode (bc mX4_copyFrom) 34 = .ok (.getfield 15, 3) := by decide +kernel
theorem d_X4_copyFrom_37 : decode (bc mX4_copyFrom) 37 = .ok (.arraylength, 1) := by decide +kernel
theorem d_X4_copyFrom_38 : decode (bc mX4_copyFrom) 38 = .ok (.invokestatic 37, 3) := by decide +kernel
theorem d_X4_copyFrom_41 : decode (bc mX4_copyFrom) 41 = .ok (.iconst 0, 1) := by decide +kernel
theorem d_X4_copyFrom_42 : decode (bc mX4_copyFrom) 42 = .ok (.istore_n 2, 1) := by decide +kernel
theorem d_X4_copyFrom_43 : decode (bc mX4_copyFrom) 43 = .ok (.iload_n 2, 1) := by decide +kernel
theorem d_X4_copyFrom_44 : decode (bc mX4_copyFrom) 44 = .ok (.bipush 6, 2) := by decide +kernel
theorem d_X4_copyFrom_46 : decode (bc mX4_copyFrom) 46 = .ok (.if_icmp .ge 21, 3) := by decide +kernel
theorem d_X4_copyFrom_49 : decode (bc mX4_copyFrom) 49 = .ok (.aload_n 0, 1) := by decide +kernel
theorem d_X4_copyFrom_50 : decode (bc mX4_copyFrom) 50 = .ok (.getfield 20, 3) := by decide +kernel
theorem d_X4_copyFrom_53 : decode (bc mX4_copyFrom) 53 = .ok (.iload_n 2, 1) := by decide +kernel
theorem d_X4_copyFrom_54 : decode (bc mX4_copyFrom) 54 = .ok (.aload_n 1, 1) := by decide +kernel
theorem d_X4_copyFrom_55 : decode (bc mX4_copyFrom) 55 = .ok (.getfield 20, 3) := by decide +kernel
theorem d_X4_copyFrom_58 : decode (bc mX4_copyFrom) 58 = .ok (.iload_n 2, 1) := by decide +kernel
theorem d_X4_copyFrom_59 : decode (bc mX4_copyFrom) 59 = .ok (.aaload, 1) := by decide +kernel
theorem d_X4_copyFrom_60 : decode (bc mX4_copyFrom) 60 = .ok (.aastore, 1) := by decide +kernel
theorem d_X4_copyFrom_61 : decode (bc mX4_copyFrom) 61 = .ok (.iinc 2 1, 3) := by decide +kernel
theorem d_X4_copyFrom_64 : decode (bc mX4_copyFrom) 64 = .ok (.goto (-21), 3) := by decide +kernel
theorem d_X4_copyFrom_67 : decode (bc mX4_copyFrom) 67 = .ok (.aload_n 0, 1) := by decide +kernel
theorem d_X4_copyFrom_68 : decode (bc mX4_copyFrom) 68 = .ok (.aload_n 1, 1) := by decide +kernel
theorem d_X4_copyFrom_69 : decode (bc mX4_copyFrom) 69 = .ok (.getfield 47, 3) := by decide +kernel
theorem d_X4_copyFrom_72 : decode (bc mX4_copyFrom) 72 = .ok (.putfield 47, 3) := by decide +kernel
theorem d_X4_copyFrom_75 : decode (bc mX4_copyFrom) 75 = .ok (.iconst 0, 1) := by decide +kernel
theorem d_X4_copyFrom_76 : decode (bc mX4_copyFrom) 76 = .ok (.istore_n 2, 1) := by decide +kernel
theorem d_X4_copyFrom_77 : decode (bc mX4_copyFrom) 77 = .ok (.iload_n 2, 1) := by decide +kernel
theorem d_X4_copyFrom_78 : decode (bc mX4_copyFrom) 78 = .ok (.aload_n 0, 1) := by decide +kernel
theorem d_X4_copyFrom_79 : decode (bc mX4_copyFrom) 79 = .ok (.getfield 47, 3) := by decide +kernel
theorem d_X4_copyFrom_82 : decode (bc mX4_copyFrom) 82 = .ok (.if_icmp .ge 24, 3) := by decide +kernel
theorem d_X4_copyFrom_85 : decode (bc mX4_copyFrom) 85 = .ok (.aload_n 0, 1) := by decide +kernel
theorem d_X4_copyFrom_86 : decode (bc mX4_copyFrom) 86 = .ok (.getfield 26, 3) := by decide +kernel
theorem d_X4_copyFrom_89 : decode (bc mX4_copyFrom) 89 = .ok (.iload_n 2, 1) := by decide +kernel
theorem d_X4_copyFrom_90 : decode (bc mX4_copyFrom) 90 = .ok (.aaload, 1) := by decide +kernel
theorem d_X4_copyFrom_91 : decode (bc mX4_copyFrom) 91 = .ok (.aload_n 1, 1) := by decide +kernel
theorem d_X4_copyFrom_92 : decode (bc mX4_copyFrom) 92 = .ok (.getfield 26, 3) := by decide +kernel
theorem d_X4_copyFrom_95 : decode (bc mX4_copyFrom) 95 = .ok (.iload_n 2, 1) := by decide +kernel
theorem d_X4_copyFrom_96 : decode (bc mX4_copyFrom) 96 = .ok (.aaload, 1) := by decide +kernel
theorem d_X4_copyFrom_97 : decode (bc mX4_copyFrom) 97 = .ok (.invokevirtual 50, 3) := by decide +kernel
theorem d_X4_copyFrom_100 : decode (bc mX4_copyFrom) 100 = .ok (.iinc 2 1, 3) := by decide +kernel
theorem d_X4_copyFrom_103 : decode (bc mX4_copyFrom) 103 = .ok (.goto (-26), 3) := by decide +kernel
theorem d_X4_copyFrom_106 : decode (bc mX4_copyFrom) 106 = .ok (.aload_n 0, 1) := by decide +kernel
theorem d_X4_copyFrom_107 : decode (bc mX4_copyFrom) 107 = .ok (.aload_n 1, 1) := by decide +kernel
theorem d_X4_copyFrom_108 : decode (bc mX4_copyFrom) 108 = .ok (.getfield 54, 3) := by decide +kernel
theorem d_X4_copyFrom_111 : decode (bc mX4_copyFrom) 111 = .ok (.putfield 54, 3) := by decide +kernel
theorem d_X4_copyFrom_114 : decode (bc mX4_copyFrom) 114 = .ok (.aload_n 1, 1) := by decide +kernel
theorem d_X4_copyFrom_115 : decode (bc mX4_copyFrom) 115 = .ok (.getfield 30, 3) := by decide +kernel
theorem d_X4_copyFrom_118 : decode (bc mX4_copyFrom) 118 = .ok (.iconst 0, 1) := by decide +kernel
theorem d_X4_copyFrom_119 : decode (bc mX4_copyFrom) 119 = .ok (.aload_n 0, 1) := by decide +kernel
theorem d_X4_copyFrom_120 : decode (bc mX4_copyFrom) 120 = .ok (.getfield 30, 3) := by decide +kernel
theorem d_X4_copyFrom_123 : decode (bc mX4_copyFrom) 123 = .ok (.iconst 0, 1) := by decide +kernel
theorem d_X4_copyFrom_124 : decode (bc mX4_copyFrom) 124 = .ok (.bipush 6, 2) := by decide +kernel
theorem d_X4_copyFrom_126 : decode (bc mX4_copyFrom) 126 = .ok (.invokestatic 37, 3) := by decide +kernel
theorem d_X4_copyFrom_129 : decode (bc mX4_copyFrom) 129 = .ok (.aload_n 1, 1) := by decide +kernel
theorem d_X4_copyFrom_130 : decode (bc mX4_copyFrom) 130 = .ok (.getfield 33, 3) := by decide +kernel
theorem d_X4_copyFrom_133 : decode (bc mX4_copyFrom) 133 = .ok (.iconst 0, 1) := by decide +kernel
theorem d_X4_copyFrom_134 : decode (bc mX4_copyFrom) 134 = .ok (.aload_n 0, 1) := by decide +kernel
theorem d_X4_copyFrom_135 : decode (bc mX4_copyFrom) 135 = .ok (.getfield 33, 3) := by decide +kernel
theorem d_X4_copyFrom_138 : decode (bc mX4_copyFrom) 138 = .ok (.iconst 0, 1) := by decide +kernel
theorem d_X4_copyFrom_139 : decode (bc mX4_copyFrom) 139 = .ok (.bipush 6, 2) := by decide +kernel
theorem d_X4_copyFrom_141 : decode (bc mX4_copyFrom) 141 = .ok (.invokestatic 37, 3) := by decide +kernel
theorem d_X4_copyFrom_144 : decode (bc mX4_copyFrom) 144 = .ok (.aload_n 0, 1) := by decide +kernel
theorem d_X4_copyFrom_145 : decode (bc mX4_copyFrom) 145 = .ok (.aload_n 1, 1) := by decide +kernel
theorem d_X4_copyFrom_146 : decode (bc mX4_copyFrom) 146 = .ok (.getfield 57, 3) := by decide +kernel
theorem d_X4_copyFrom_149 : decode (bc mX4_copyFrom) 149 = .ok (.putfield 57, 3) := by decide +kernel
theorem d_X4_copyFrom_152 : decode (bc mX4_copyFrom) 152 = .ok (.aload_n 0, 1) := by decide +kernel
theorem d_X4_copyFrom_153 : decode (bc mX4_copyFrom) 153 = .ok (.aload_n 1, 1) := by decide +kernel
theorem d_X4_copyFrom_154 : decode (bc mX4_copyFrom) 154 = .ok (.getfield 60, 3) := by decide +kernel
theorem d_X4_copyFrom_157 : decode (bc mX4_copyFrom) 157 = .ok (.putfield 60, 3) := by decide +kernel
theorem d_X4_copyFrom_160 : decode (bc mX4_copyFrom) 160 = .ok (.return_, 1) := by decide +kernel
theorem d_X4_loavesNaming_0 : decode (bc mX4_loavesNaming) 0 = .ok (.iconst 0, 1) := by decide +kernel
theorem d_X4_loavesNaming_1 : decode (bc mX4_loavesNaming) 1 = .ok (.istore_n 2, 1) := by decide +kernel
theorem d_X4_loavesNaming_2 : decode (bc mX4_loavesNaming) 2 = .ok (.iconst 0, 1) := by decide +kernel
theorem d_X4_loavesNaming_3 : decode (bc mX4_loavesNaming) 3 = .ok (.istore_n 3, 1) := by decide +kernel
theorem d_X4_loavesNaming_4 : decode (bc mX4_loavesNaming) 4 = .ok (.iload_n 3, 1) := by decide +kernel
theorem d_X4_loavesNaming_5 : decode (bc mX4_loavesNaming) 5 = .ok (.bipush 6, 2) := by decide +kernel
theorem d_X4_loavesNaming_7 : decode (bc mX4_loavesNaming) 7 = .ok (.if_icmp .ge 41, 3) := by decide +kernel
theorem d_X4_loavesNaming_10 : decode (bc mX4_loavesNaming) 10 = .ok (.aload_n 0, 1) := by decide +kernel
theorem d_X4_loavesNaming_11 : decode (bc mX4_loavesNaming) 11 = .ok (.getfield 20, 3) := by decide +kernel
theorem d_X4_loavesNaming_14 : decode (bc mX4_loavesNaming) 14 = .ok (.iload_n 3, 1) := by decide +kernel
theorem d_X4_loavesNaming_15 : decode (bc mX4_loavesNaming) 15 = .ok (.aaload, 1) := by decide +kernel
theorem d_X4_loavesNaming_16 : decode (bc mX4_loavesNaming) 16 = .ok (.ifnull 26, 3) := by decide +kernel
theorem d_X4_loavesNaming_19 : decode (bc mX4_loavesNaming) 19 = .ok (.aload_n 0, 1) := by decide +kernel
theorem d_X4_loavesNaming_20 : decode (bc mX4_loavesNaming) 20 = .ok (.getfield 20, 3) := by decide +kernel
theorem d_X4_loavesNaming_23 : decode (bc mX4_loavesNaming) 23 = .ok (.iload_n 3, 1) := by decide +kernel
theorem d_X4_loavesNaming_24 : decode (bc mX4_loavesNaming) 24 = .ok (.aaload, 1) := by decide +kernel
theorem d_X4_loavesNaming_25 : decode (bc mX4_loavesNaming) 25 = .ok (.getfield 63, 3) := by decide +kernel
theorem d_X4_loavesNaming_28 : decode (bc mX4_loavesNaming) 28 = .ok (.iload_n 1, 1) := by decide +kernel
theorem d_X4_loavesNaming_29 : decode (bc mX4_loavesNaming) 29 = .ok (.invokestatic 66, 3) := by decide +kernel
theorem d_X4_loavesNaming_32 : decode (bc mX4_loavesNaming) 32 = .ok (.iconst 1, 1) := by decide +kernel
theorem d_X4_loavesNaming_33 : decode (bc mX4_loavesNaming) 33 = .ok (.if_icmp .ne 9, 3) := by decide +kernel
theorem d_X4_loavesNaming_36 : decode (bc mX4_loavesNaming) 36 = .ok (.iload_n 2, 1) := by decide +kernel
theorem d_X4_loavesNaming_37 : decode (bc mX4_loavesNaming) 37 = .ok (.iconst 1, 1) := by decide +kernel
theorem d_X4_loavesNaming_38 : decode (bc mX4_loavesNaming) 38 = .ok (.iload_n 3, 1) := by decide +kernel
theorem d_X4_loavesNaming_39 : decode (bc mX4_loavesNaming) 39 = .ok (.ishl, 1) := by decide +kernel
theorem d_X4_loavesNaming_40 : decode (bc mX4_loavesNaming) 40 = .ok (.ior, 1) := by decide +kernel
theorem d_X4_loavesNaming_41 : decode (bc mX4_loavesNaming) 41 = .ok (.istore_n 2, 1) := by decide +kernel
theorem d_X4_loavesNaming_42 : decode (bc mX4_loavesNaming) 42 = .ok (.iinc 3 1, 3) := by decide +kernel
theorem d_X4_loavesNaming_45 : decode (bc mX4_loavesNaming) 45 = .ok (.goto (-41), 3) := by decide +kernel
theorem d_X4_loavesNaming_48 : decode (bc mX4_loavesNaming) 48 = .ok (.iload_n 2, 1) := by decide +kernel
theorem d_X4_loavesNaming_49 : decode (bc mX4_loavesNaming) 49 = .ok (.ireturn, 1) := by decide +kernel
theorem d_X4_loavesWithRecipe_0 : decode (bc mX4_loavesWithRecipe) 0 = .ok (.iconst 0, 1) := by decide +kernel
theorem d_X4_loavesWithRecipe_1 : decode (bc mX4_loavesWithRecipe) 1 = .ok (.istore_n 1, 1) := by decide +kernel
theorem d_X4_loavesWithRecipe_2 : decode (bc mX4_loavesWithRecipe) 2 = .ok (.iconst 0, 1) := by decide +kernel
theorem d_X4_loavesWithRecipe_3 : decode (bc mX4_loavesWithRecipe) 3 = .ok (.istore_n 2, 1) := by decide +kernel
theorem d_X4_loavesWithRecipe_4 : decode (bc mX4_loavesWithRecipe) 4 = .ok (.iload_n 2, 1) := by decide +kernel
theorem d_X4_loavesWithRecipe_5 : decode (bc mX4_loavesWithRecipe) 5 = .ok (.bipush 6, 2) := by decide +kernel
theorem d_X4_loavesWithRecipe_7 : decode (bc mX4_loavesWithRecipe) 7 = .ok (.if_icmp .ge 24, 3) := by decide +kernel
theorem d_X4_loavesWithRecipe_10 : decode (bc mX4_loavesWithRecipe) 10 = .ok (.aload_n 0, 1) := by decide +kernel
theorem d_X4_loavesWithRecipe_11 : decode (bc mX4_loavesWithRecipe) 11 = .ok (.getfield 20, 3) := by decide +kernel
theorem d_X4_loavesWithRecipe_14 : decode (bc mX4_loavesWithRecipe) 14 = .ok (.iload_n 2, 1) := by decide +kernel
theorem d_X4_loavesWithRecipe_15 : decode (bc mX4_loavesWithRecipe) 15 = .ok (.aaload, 1) := by decide +kernel
theorem d_X4_loavesWithRecipe_16 : decode (bc mX4_loavesWithRecipe) 16 = .ok (.ifnull 9, 3) := by decide +kernel
theorem d_X4_loavesWithRecipe_19 : decode (bc mX4_loavesWithRecipe) 19 = .ok (.iload_n 1, 1) := by decide +kernel
theorem d_X4_loavesWithRecipe_20 : decode (bc mX4_loavesWithRecipe) 20 = .ok (.iconst 1, 1) := by decide +kernel
theorem d_X4_loavesWithRecipe_21 : decode (bc mX4_loavesWithRecipe) 21 = .ok (.iload_n 2, 1) := by decide +kernel
theorem d_X4_loavesWithRecipe_22 : decode (bc mX4_loavesWithRecipe) 22 = .ok (.ishl, 1) := by decide +kernel
theorem d_X4_loavesWithRecipe_23 : decode (bc mX4_loavesWithRecipe) 23 = .ok (.ior, 1) := by decide +kernel
theorem d_X4_loavesWithRecipe_24 : decode (bc mX4_loavesWithRecipe) 24 = .ok (.istore_n 1, 1) := by decide +kernel
theorem d_X4_loavesWithRecipe_25 : decode (bc mX4_loavesWithRecipe) 25 = .ok (.iinc 2 1, 3) := by decide +kernel
theorem d_X4_loavesWithRecipe_28 : decode (bc mX4_loavesWithRecipe) 28 = .ok (.goto (-24), 3) := by decide +kernel
theorem d_X4_loavesWithRecipe_31 : decode (bc mX4_loavesWithRecipe) 31 = .ok (.iload_n 1, 1) := by decide +kernel
theorem d_X4_loavesWithRecipe_32 : decode (bc mX4_loavesWithRecipe) 32 = .ok (.ireturn, 1) := by decide +kernel
theorem d_X4_memoriesOf_0 : decode (bc mX4_memoriesOf) 0 = .ok (.iconst 0, 1) := by decide +kernel
theorem d_X4_memoriesOf_1 : decode (bc mX4_memoriesOf) 1 = .ok (.istore_n 2, 1) := by decide +kernel
theorem d_X4_memoriesOf_2 : decode (bc mX4_memoriesOf) 2 = .ok (.iconst 0, 1) := by decide +kernel
theorem d_X4_memoriesOf_3 : decode (bc mX4_memoriesOf) 3 = .ok (.istore_n 3, 1) := by decide +kernel
theorem d_X4_memoriesOf_4 : decode (bc mX4_memoriesOf) 4 = .ok (.iload_n 3, 1) := by decide +kernel
theorem d_X4_memoriesOf_5 : decode (bc mX4_memoriesOf) 5 = .ok (.aload_n 0, 1) := by decide +kernel
theorem d_X4_memoriesOf_6 : decode (bc mX4_memoriesOf) 6 = .ok (.getfield 47, 3) := by decide +kernel
theorem d_X4_memoriesOf_9 : decode (bc mX4_memoriesOf) 9 = .ok (.if_icmp .ge 25, 3) := by decide +kernel
theorem d_X4_memoriesOf_12 : decode (bc mX4_memoriesOf) 12 = .ok (.aload_n 0, 1) := by decide +kernel
theorem d_X4_memoriesOf_13 : decode (bc mX4_memoriesOf) 13 = .ok (.getfield 26, 3) := by decide +kernel
theorem d_X4_memoriesOf_16 : decode (bc mX4_memoriesOf) 16 = .ok (.iload_n 3, 1) := by decide +kernel
theorem d_X4_memoriesOf_17 : decode (bc mX4_memoriesOf) 17 = .ok (.aaload, 1) := by decide +kernel
theorem d_X4_memoriesOf_18 : decode (bc mX4_memoriesOf) 18 = .ok (.getfield 70, 3) := by decide +kernel
theorem d_X4_memoriesOf_21 : decode (bc mX4_memoriesOf) 21 = .ok (.iload_n 1, 1) := by decide +kernel
theorem d_X4_memoriesOf_22 : decode (bc mX4_memoriesOf) 22 = .ok (.if_icmp .ne 6, 3) := by decide +kernel
theorem d_X4_memoriesOf_25 : decode (bc mX4_memoriesOf) 25 = .ok (.iinc 2 1, 3) := by decide +kernel
theorem d_X4_memoriesOf_28 : decode (bc mX4_memoriesOf) 28 = .ok (.iinc 3 1, 3) := by decide +kernel
theorem d_X4_memoriesOf_31 : decode (bc mX4_memoriesOf) 31 = .ok (.goto (-27), 3) := by decide +kernel
theorem d_X4_memoriesOf_34 : decode (bc mX4_memoriesOf) 34 = .ok (.iload_n 2, 1) := by decide +kernel
theorem d_X4_memoriesOf_35 : decode (bc mX4_memoriesOf) 35 = .ok (.ireturn, 1) := by decide +kernel
theorem d_X4_serialsOf_0 : decode (bc mX4_serialsOf) 0 = .ok (.iconst 0, 1) := by decide +kernel
theorem d_X4_serialsOf_1 : decode (bc mX4_serialsOf) 1 = .ok (.istore_n 3, 1) := by decide +kernel
theorem d_X4_serialsOf_2 : decode (bc mX4_serialsOf) 2 = .ok (.iconst 0, 1) := by decide +kernel
theorem d_X4_serialsOf_3 : decode (bc mX4_serialsOf) 3 = .ok (.istore 4, 2) := by decide +kernel
theorem d_X4_serialsOf_5 : decode (bc mX4_serialsOf) 5 = .ok (.iload 4, 2) := by decide +kernel
theorem d_X4_serialsOf_7 : decode (bc mX4_serialsOf) 7 = .ok (.aload_n 0, 1) := by decide +kernel
theorem d_X4_serialsOf_8 : decode (bc mX4_serialsOf) 8 = .ok (.getfield 47, 3) := by decide +kernel
theorem d_X4_serialsOf_11 : decode (bc mX4_serialsOf) 11 = .ok (.if_icmp .ge 45, 3) := by decide +kernel
theorem d_X4_serialsOf_14 : decode (bc mX4_serialsOf) 14 = .ok (.aload_n 0, 1) := by decide +kernel
theorem d_X4_serialsOf_15 : decode (bc mX4_serialsOf) 15 = .ok (.getfield 26, 3) := by decide +kernel
theorem d_X4_serialsOf_18 : decode (bc mX4_serialsOf) 18 = .ok (.iload 4, 2) := by decide +kernel
theorem d_X4_serialsOf_20 : decode (bc mX4_serialsOf) 20 = .ok (.aaload, 1) := by decide +kernel
theorem d_X4_serialsOf_21 : decode (bc mX4_serialsOf) 21 = .ok (.getfield 70, 3) := by decide +kernel
theorem d_X4_serialsOf_24 : decode (bc mX4_serialsOf) 24 = .ok (.iload_n 1, 1) := by decide +kernel
theorem d_X4_serialsOf_25 : decode (bc mX4_serialsOf) 25 = .ok (.if_icmp .ne 25, 3) := by decide +kernel
theorem d_X4_serialsOf_28 : decode (bc mX4_serialsOf) 28 = .ok (.iload_n 3, 1) := by decide +kernel
theorem d_X4_serialsOf_29 : decode (bc mX4_serialsOf) 29 = .ok (.aload_n 2, 1) := by decide +kernel
theorem d_X4_serialsOf_30 : decode (bc mX4_serialsOf) 30 = .ok (.arraylength, 1) := by decide +kernel
theorem d_X4_serialsOf_31 : decode (bc mX4_serialsOf) 31 = .ok (.if_icmp .ge 19, 3) := by decide +kernel
theorem d_X4_serialsOf_34 : decode (bc mX4_serialsOf) 34 = .ok (.aload_n 2, 1) := by decide +kernel
theorem d_X4_serialsOf_35 : decode (bc mX4_serialsOf) 35 = .ok (.iload_n 3, 1) := by decide +kernel
theorem d_X4_serialsOf_36 : decode (bc mX4_serialsOf) 36 = .ok (.aload_n 0, 1) := by decide +kernel
theorem d_X4_serialsOf_37 : decode (bc mX4_serialsOf) 37 = .ok (.getfield 26, 3) := by decide +kernel
theorem d_X4_serialsOf_40 : decode (bc mX4_serialsOf) 40 = .ok (.iload 4, 2) := by decide +kernel
theorem d_X4_serialsOf_42 : decode (bc mX4_serialsOf) 42 = .ok (.aaload, 1) := by decide +kernel
theorem d_X4_serialsOf_43 : decode (bc mX4_serialsOf) 43 = .ok (.getfield 73, 3) := by decide +kernel
theorem d_X4_serialsOf_46 : decode (bc mX4_serialsOf) 46 = .ok (.iastore, 1) := by decide +kernel
theorem d_X4_serialsOf_47 : decode (bc mX4_serialsOf) 47 = .ok (.iinc 3 1, 3) := by decide +kernel
theorem d_X4_serialsOf_50 : decode (bc mX4_serialsOf) 50 = .ok (.iinc 4 1, 3) := by decide +kernel
theorem d_X4_serialsOf_53 : decode (bc mX4_serialsOf) 53 = .ok (.goto (-48), 3) := by decide +kernel
theorem d_X4_serialsOf_56 : decode (bc mX4_serialsOf) 56 = .ok (.iload_n 3, 1) := by decide +kernel
theorem d_X4_serialsOf_57 : decode (bc mX4_serialsOf) 57 = .ok (.ireturn, 1) := by decide +kernel
theorem d_X4_placeOfSerial_0 : decode (bc mX4_placeOfSerial) 0 = .ok (.iconst 0, 1) := by decide +kernel
theorem d_X4_placeOfSerial_1 : decode (bc mX4_placeOfSerial) 1 = .ok (.istore_n 2, 1) := by decide +kernel
theorem d_X4_placeOfSerial_2 : decode (bc mX4_placeOfSerial) 2 = .ok (.iload_n 2, 1) := by decide +kernel
theorem d_X4_placeOfSerial_3 : decode (bc mX4_placeOfSerial) 3 = .ok (.aload_n 0, 1) := by decide +kernel
theorem d_X4_placeOfSerial_4 : decode (bc mX4_placeOfSerial) 4 = .ok (.getfield 47, 3) := by decide +kernel
theorem d_X4_placeOfSerial_7 : decode (bc mX4_placeOfSerial) 7 = .ok (.if_icmp .ge 24, 3) := by decide +kernel
theorem d_X4_placeOfSerial_10 : decode (bc mX4_placeOfSerial) 10 = .ok (.aload_n 0, 1) := by decide +kernel
theorem d_X4_placeOfSerial_11 : decode (bc mX4_placeOfSerial) 11 = .ok (.getfield 26, 3) := by decide +kernel
theorem d_X4_placeOfSerial_14 : decode (bc mX4_placeOfSerial) 14 = .ok (.iload_n 2, 1) := by decide +kernel
theorem d_X4_placeOfSerial_15 : decode (bc mX4_placeOfSerial) 15 = .ok (.aaload, 1) := by decide +kernel
theorem d_X4_placeOfSerial_16 : decode (bc mX4_placeOfSerial) 16 = .ok (.getfield 73, 3) := by decide +kernel
theorem d_X4_placeOfSerial_19 : decode (bc mX4_placeOfSerial) 19 = .ok (.iload_n 1, 1) := by decide +kernel
theorem d_X4_placeOfSerial_20 : decode (bc mX4_placeOfSerial) 20 = .ok (.if_icmp .ne 5, 3) := by decide +kernel
theorem d_X4_placeOfSerial_23 : decode (bc mX4_placeOfSerial) 23 = .ok (.iload_n 2, 1) := by decide +kernel
theorem d_X4_placeOfSerial_24 : decode (bc mX4_placeOfSerial) 24 = .ok (.ireturn, 1) := by decide +kernel
theorem d_X4_placeOfSerial_25 : decode (bc mX4_placeOfSerial) 25 = .ok (.iinc 2 1, 3) := by decide +kernel
theorem d_X4_placeOfSerial_28 : decode (bc mX4_placeOfSerial) 28 = .ok (.goto (-26), 3) := by decide +kernel
theorem d_X4_placeOfSerial_31 : decode (bc mX4_placeOfSerial) 31 = .ok (.iconst (-1), 1) := by decide +kernel
theorem d_X4_placeOfSerial_32 : decode (bc mX4_placeOfSerial) 32 = .ok (.ireturn, 1) := by decide +kernel
theorem d_X4_use_0 : decode (bc mX4_use) 0 = .ok (.iload_n 1, 1) := by decide +kernel
theorem d_X4_use_1 : decode (bc mX4_use) 1 = .ok (.ifCond .lt 11, 3) := by decide +kernel
theorem d_X4_use_4 : decode (bc mX4_use) 4 = .ok (.iload_n 1, 1) := by decide +kernel
theorem d_X4_use_5 : decode (bc mX4_use) 5 = .ok (.aload_n 0, 1) := by decide +kernel
theorem d_X4_use_6 : decode (bc mX4_use) 6 = .ok (.getfield 47, 3) := by decide +kernel
theorem d_X4_use_9 : decode (bc mX4_use) 9 = .ok (.if_icmp .lt 4, 3) := by decide +kernel
theorem d_X4_use_12 : decode (bc mX4_use) 12 = .ok (.return_, 1) := by decide +kernel
theorem d_X4_use_13 : decode (bc mX4_use) 13 = .ok (.aload_n 0, 1) := by decide +kernel
theorem d_X4_use_14 : decode (bc mX4_use) 14 = .ok (.getfield 26, 3) := by decide +kernel
theorem d_X4_use_17 : decode (bc mX4_use) 17 = .ok (.iload_n 1, 1) := by decide +kernel
theorem d_X4_use_18 : decode (bc mX4_use) 18 = .ok (.aaload, 1) := by decide +kernel
theorem d_X4_use_19 : decode (bc mX4_use) 19 = .ok (.astore_n 2, 1) := by decide +kernel
theorem d_X4_use_20 : decode (bc mX4_use) 20 = .ok (.iload_n 1, 1) := by decide +kernel
theorem d_X4_use_21 : decode (bc mX4_use) 21 = .ok (.istore_n 3, 1) := by decide +kernel
theorem d_X4_use_22 : decode (bc mX4_use) 22 = .ok (.iload_n 3, 1) := by decide +kernel
theorem d_X4_use_23 : decode (bc mX4_use) 23 = .ok (.ifCond .le 23, 3) := by decide +kernel
theorem d_X4_use_26 : decode (bc mX4_use) 26 = .ok (.aload_n 0, 1) := by decide +kernel
theorem d_X4_use_27 : decode (bc mX4_use) 27 = .ok (.getfield 26, 3) := by decide +kernel
theorem d_X4_use_30 : decode (bc mX4_use) 30 = .ok (.iload_n 3, 1) := by decide +kernel
theorem d_X4_use_31 : decode (bc mX4_use) 31 = .ok (.aload_n 0, 1) := by decide +kernel
theorem d_X4_use_32 : decode (bc mX4_use) 32 = .ok (.getfield 26, 3) := by decide +kernel
theorem d_X4_use_35 : decode (bc mX4_use) 35 = .ok (.iload_n 3, 1) := by decide +kernel
theorem d_X4_use_36 : decode (bc mX4_use) 36 = .ok (.iconst 1, 1) := by decide +kernel
theorem d_X4_use_37 : decode (bc mX4_use) 37 = .ok (.isub, 1) := by decide +kernel
theorem d_X4_use_38 : decode (bc mX4_use) 38 = .ok (.aaload, 1) := by decide +kernel
theorem d_X4_use_39 : decode (bc mX4_use) 39 = .ok (.aastore, 1) := by decide +kernel
theorem d_X4_use_40 : decode (bc mX4_use) 40 = .ok (.iinc 3 (-1), 3) := by decide +kernel
theorem d_X4_use_43 : decode (bc mX4_use) 43 = .ok (.goto (-21), 3) := by decide +kernel
theorem d_X4_use_46 : decode (bc mX4_use) 46 = .ok (.aload_n 0, 1) := by decide +kernel
theorem d_X4_use_47 : decode (bc mX4_use) 47 = .ok (.getfield 26, 3) := by decide +kernel
theorem d_X4_use_50 : decode (bc mX4_use) 50 = .ok (.iconst 0, 1) := by decide +kernel
theorem d_X4_use_51 : decode (bc mX4_use) 51 = .ok (.aload_n 2, 1) := by decide +kernel
theorem d_X4_use_52 : decode (bc mX4_use) 52 = .ok (.aastore, 1) := by decide +kernel
theorem d_X4_use_53 : decode (bc mX4_use) 53 = .ok (.aload_n 2, 1) := by decide +kernel
theorem d_X4_use_54 : decode (bc mX4_use) 54 = .ok (.dup, 1) := by decide +kernel
theorem d_X4_use_55 : decode (bc mX4_use) 55 = .ok (.getfield 76, 3) := by decide +kernel
theorem d_X4_use_58 : decode (bc mX4_use) 58 = .ok (.iconst 1, 1) := by decide +kernel
theorem d_X4_use_59 : decode (bc mX4_use) 59 = .ok (.iadd, 1) := by decide +kernel
theorem d_X4_use_60 : decode (bc mX4_use) 60 = .ok (.putfield 76, 3) := by decide +kernel
theorem d_X4_use_63 : decode (bc mX4_use) 63 = .ok (.return_, 1) := by decide +kernel
theorem d_X4_keepMemory_0 : decode (bc mX4_keepMemory) 0 = .ok (.aload_n 0, 1) := by decide +kernel
theorem d_X4_keepMemory_1 : decode (bc mX4_keepMemory) 1 = .ok (.getfield 47, 3) := by decide +kernel
theorem d_X4_keepMemory_4 : decode (bc mX4_keepMemory) 4 = .ok (.aload_n 0, 1) := by decide +kernel
theorem d_X4_keepMemory_5 : decode (bc mX4_keepMemory) 5 = .ok (.getfield 26, 3) := by decide +kernel
theorem d_X4_keepMemory_8 : decode (bc mX4_keepMemory) 8 = .ok (.arraylength, 1) := by decide +kernel
theorem d_X4_keepMemory_9 : decode (bc mX4_keepMemory) 9 = .ok (.if_icmp .lt 4, 3) := by decide +kernel
theorem d_X4_keepMemory_12 : decode (bc mX4_keepMemory) 12 = .ok (.return_, 1) := by decide +kernel
theorem d_X4_keepMemory_13 : decode (bc mX4_keepMemory) 13 = .ok (.aload_n 0, 1) := by decide +kernel
theorem d_X4_keepMemory_14 : decode (bc mX4_keepMemory) 14 = .ok (.dup, 1) := by decide +kernel
theorem d_X4_keepMemory_15 : decode (bc mX4_keepMemory) 15 = .ok (.getfield 54, 3) := by decide +kernel
theorem d_X4_keepMemory_18 : decode (bc mX4_keepMemory) 18 = .ok (.iconst 1, 1) := by decide +kernel
theorem d_X4_keepMemory_19 : decode (bc mX4_keepMemory) 19 = .ok (.iadd, 1) := by decide +kernel
theorem d_X4_keepMemory_20 : decode (bc mX4_keepMemory) 20 = .ok (.putfield 54, 3) := by decide +kernel
theorem d_X4_keepMemory_23 : decode (bc mX4_keepMemory) 23 = .ok (.aload_n 0, 1) := by decide +kernel
theorem d_X4_keepMemory_24 : decode (bc mX4_keepMemory) 24 = .ok (.getfield 26, 3) := by decide +kernel
theorem d_X4_keepMemory_27 : decode (bc mX4_keepMemory) 27 = .ok (.aload_n 0, 1) := by decide +kernel
theorem d_X4_keepMemory_28 : decode (bc mX4_keepMemory) 28 = .ok (.getfield 47, 3) := by decide +kernel
theorem d_X4_keepMemory_31 : decode (bc mX4_keepMemory) 31 = .ok (.aaload, 1) := by decide +kernel
theorem d_X4_keepMemory_32 : decode (bc mX4_keepMemory) 32 = .ok (.aload_n 1, 1) := by decide +kernel
theorem d_X4_keepMemory_33 : decode (bc mX4_keepMemory) 33 = .ok (.invokevirtual 50, 3) := by decide +kernel
theorem d_X4_keepMemory_36 : decode (bc mX4_keepMemory) 36 = .ok (.aload_n 0, 1) := by decide +kernel
theorem d_X4_keepMemory_37 : decode (bc mX4_keepMemory) 37 = .ok (.getfield 26, 3) := by decide +kernel
theorem d_X4_keepMemory_40 : decode (bc mX4_keepMemory) 40 = .ok (.aload_n 0, 1) := by decide +kernel
theorem d_X4_keepMemory_41 : decode (bc mX4_keepMemory) 41 = .ok (.getfield 47, 3) := by decide +kernel
theorem d_X4_keepMemory_44 : decode (bc mX4_keepMemory) 44 = .ok (.aaload, 1) := by decide +kernel
theorem d_X4_keepMemory_45 : decode (bc mX4_keepMemory) 45 = .ok (.aload_n 0, 1) := by decide +kernel
theorem d_X4_keepMemory_46 : decode (bc mX4_keepMemory) 46 = .ok (.getfield 54, 3) := by decide +kernel
theorem d_X4_keepMemory_49 : decode (bc mX4_keepMemory) 49 = .ok (.putfield 73, 3) := by decide +kernel
theorem d_X4_keepMemory_52 : decode (bc mX4_keepMemory) 52 = .ok (.aload_n 0, 1) := by decide +kernel
theorem d_X4_keepMemory_53 : decode (bc mX4_keepMemory) 53 = .ok (.dup, 1) := by decide +kernel
theorem d_X4_keepMemory_54 : decode (bc mX4_keepMemory) 54 = .ok (.getfield 47, 3) := by decide +kernel
theorem d_X4_keepMemory_57 : decode (bc mX4_keepMemory) 57 = .ok (.iconst 1, 1) := by decide +kernel
theorem d_X4_keepMemory_58 : decode (bc mX4_keepMemory) 58 = .ok (.iadd, 1) := by decide +kernel
theorem d_X4_keepMemory_59 : decode (bc mX4_keepMemory) 59 = .ok (.putfield 47, 3) := by decide +kernel
theorem d_X4_keepMemory_62 : decode (bc mX4_keepMemory) 62 = .ok (.aload_n 0, 1) := by decide +kernel
theorem d_X4_keepMemory_63 : decode (bc mX4_keepMemory) 63 = .ok (.aload_n 0, 1) := by decide +kernel
theorem d_X4_keepMemory_64 : decode (bc mX4_keepMemory) 64 = .ok (.getfield 47, 3) := by decide +kernel
theorem d_X4_keepMemory_67 : decode (bc mX4_keepMemory) 67 = .ok (.iconst 1, 1) := by decide +kernel
theorem d_X4_keepMemory_68 : decode (bc mX4_keepMemory) 68 = .ok (.isub, 1) := by decide +kernel
theorem d_X4_keepMemory_69 : decode (bc mX4_keepMemory) 69 = .ok (.invokevirtual 79, 3) := by decide +kernel
theorem d_X4_keepMemory_72 : decode (bc mX4_keepMemory) 72 = .ok (.aload_n 0, 1) := by decide +kernel
theorem d_X4_keepMemory_73 : decode (bc mX4_keepMemory) 73 = .ok (.invokevirtual 83, 3) := by decide +kernel
theorem d_X4_keepMemory_76 : decode (bc mX4_keepMemory) 76 = .ok (.return_, 1) := by decide +kernel
theorem d_X4_dropBeyondRoom_0 : decode (bc mX4_dropBeyondRoom) 0 = .ok (.aload_n 0, 1) := by decide +kernel
theorem d_X4_dropBeyondRoom_1 : decode (bc mX4_dropBeyondRoom) 1 = .ok (.getfield 47, 3) := by decide +kernel
theorem d_X4_dropBeyondRoom_4 : decode (bc mX4_dropBeyondRoom) 4 = .ok (.iconst 1, 1) := by decide +kernel
theorem d_X4_dropBeyondRoom_5 : decode (bc mX4_dropBeyondRoom) 5 = .ok (.isub, 1) := by decide +kernel
theorem d_X4_dropBeyondRoom_6 : decode (bc mX4_dropBeyondRoom) 6 = .ok (.istore_n 1, 1) := by decide +kernel
theorem d_X4_dropBeyondRoom_7 : decode (bc mX4_dropBeyondRoom) 7 = .ok (.iload_n 1, 1) := by decide +kernel
theorem d_X4_dropBeyondRoom_8 : decode (bc mX4_dropBeyondRoom) 8 = .ok (.aload_n 0, 1) := by decide +kernel
theorem d_X4_dropBeyondRoom_9 : decode (bc mX4_dropBeyondRoom) 9 = .ok (.getfield 15, 3) := by decide +kernel
theorem d_X4_dropBeyondRoom_12 : decode (bc mX4_dropBeyondRoom) 12 = .ok (.iconst 0, 1) := by decide +kernel
theorem d_X4_dropBeyondRoom_13 : decode (bc mX4_dropBeyondRoom) 13 = .ok (.iaload, 1) := by decide +kernel
theorem d_X4_dropBeyondRoom_14 : decode (bc mX4_dropBeyondRoom) 14 = .ok (.if_icmp .lt 14, 3) := by decide +kernel
theorem d_X4_dropBeyondRoom_17 : decode (bc mX4_dropBeyondRoom) 17 = .ok (.aload_n 0, 1) := by decide +kernel
theorem d_X4_dropBeyondRoom_18 : decode (bc mX4_dropBeyondRoom) 18 = .ok (.iload_n 1, 1) := by decide +kernel
theorem d_X4_dropBeyondRoom_19 : decode (bc mX4_dropBeyondRoom) 19 = .ok (.invokevirtual 86, 3) := by decide +kernel
theorem d_X4_dropBeyondRoom_22 : decode (bc mX4_dropBeyondRoom) 22 = .ok (.iinc 1 (-1), 3) := by decide +kernel
theorem d_X4_dropBeyondRoom_25 : decode (bc mX4_dropBeyondRoom) 25 = .ok (.goto (-18), 3) := by decide +kernel
theorem d_X4_dropBeyondRoom_28 : decode (bc mX4_dropBeyondRoom) 28 = .ok (.return_, 1) := by decide +kernel
theorem d_X4_dropAllOf_0 : decode (bc mX4_dropAllOf) 0 = .ok (.aload_n 0, 1) := by decide +kernel
theorem d_X4_dropAllOf_1 : decode (bc mX4_dropAllOf) 1 = .ok (.getfield 47, 3) := by decide +kernel
theorem d_X4_dropAllOf_4 : decode (bc mX4_dropAllOf) 4 = .ok (.iconst 1, 1) := by decide +kernel
theorem d_X4_dropAllOf_5 : decode (bc mX4_dropAllOf) 5 = .ok (.isub, 1) := by decide +kernel
theorem d_X4_dropAllOf_6 : decode (bc mX4_dropAllOf) 6 = .ok (.istore_n 2, 1) := by decide +kernel
theorem d_X4_dropAllOf_7 : decode (bc mX4_dropAllOf) 7 = .ok (.iload_n 2, 1) := by decide +kernel
theorem d_X4_dropAllOf_8 : decode (bc mX4_dropAllOf) 8 = .ok (.ifCond .lt 27, 3) := by decide +kernel
theorem d_X4_dropAllOf_11 : decode (bc mX4_dropAllOf) 11 = .ok (.aload_n 0, 1) := by decide +kernel
theorem d_X4_dropAllOf_12 : decode (bc mX4_dropAllOf) 12 = .ok (.getfield 26, 3) := by decide +kernel
theorem d_X4_dropAllOf_15 : decode (bc mX4_dropAllOf) 15 = .ok (.iload_n 2, 1) := by decide +kernel
theorem d_X4_dropAllOf_16 : decode (bc mX4_dropAllOf) 16 = .ok (.aaload, 1) := by decide +kernel
theorem d_X4_dropAllOf_17 : decode (bc mX4_dropAllOf) 17 = .ok (.getfield 70, 3) := by decide +kernel
theorem d_X4_dropAllOf_20 : decode (bc mX4_dropAllOf) 20 = .ok (.iload_n 1, 1) := by decide +kernel
theorem d_X4_dropAllOf_21 : decode (bc mX4_dropAllOf) 21 = .ok (.if_icmp .ne 8, 3) := by decide +kernel
theorem d_X4_dropAllOf_24 : decode (bc mX4_dropAllOf) 24 = .ok (.aload_n 0, 1) := by decide +kernel
theorem d_X4_dropAllOf_25 : decode (bc mX4_dropAllOf) 25 = .ok (.iload_n 2, 1) := by decide +kernel
theorem d_X4_dropAllOf_26 : decode (bc mX4_dropAllOf) 26 = .ok (.invokevirtual 86, 3) := by decide +kernel
theorem d_X4_dropAllOf_29 : decode (bc mX4_dropAllOf) 29 = .ok (.iinc 2 (-1), 3) := by decide +kernel
theorem d_X4_dropAllOf_32 : decode (bc mX4_dropAllOf) 32 = .ok (.goto (-25), 3) := by decide +kernel
theorem d_X4_dropAllOf_35 : decode (bc mX4_dropAllOf) 35 = .ok (.return_, 1) := by decide +kernel
theorem d_X4_drop_0 : decode (bc mX4_drop) 0 = .ok (.iload_n 1, 1) := by decide +kernel
theorem d_X4_drop_1 : decode (bc mX4_drop) 1 = .ok (.ifCond .lt 11, 3) := by decide +kernel
theorem d_X4_drop_4 : decode (bc mX4_drop) 4 = .ok (.iload_n 1, 1) := by decide +kernel
theorem d_X4_drop_5 : decode (bc mX4_drop) 5 = .ok (.aload_n 0, 1) := by decide +kernel
theorem d_X4_drop_6 : decode (bc mX4_drop) 6 = .ok (.getfield 47, 3) := by decide +kernel
theorem d_X4_drop_9 : decode (bc mX4_drop) 9 = .ok (.if_icmp .lt 4, 3) := by decide +kernel
theorem d_X4_drop_12 : decode (bc mX4_drop) 12 = .ok (.return_, 1) := by decide +kernel
theorem d_X4_drop_13 : decode (bc mX4_drop) 13 = .ok (.aload_n 0, 1) := by decide +kernel
theorem d_X4_drop_14 : decode (bc mX4_drop) 14 = .ok (.getfield 26, 3) := by decide +kernel
theorem d_X4_drop_17 : decode (bc mX4_drop) 17 = .ok (.iload_n 1, 1) := by decide +kernel
theorem d_X4_drop_18 : decode (bc mX4_drop) 18 = .ok (.aaload, 1) := by decide +kernel
theorem d_X4_drop_19 : decode (bc mX4_drop) 19 = .ok (.astore_n 2, 1) := by decide +kernel
theorem d_X4_drop_20 : decode (bc mX4_drop) 20 = .ok (.aload_n 0, 1) := by decide +kernel
theorem d_X4_drop_21 : decode (bc mX4_drop) 21 = .ok (.dup, 1) := by decide +kernel
theorem d_X4_drop_22 : decode (bc mX4_drop) 22 = .ok (.getfield 47, 3) := by decide +kernel
theorem d_X4_drop_25 : decode (bc mX4_drop) 25 = .ok (.iconst 1, 1) := by decide +kernel
theorem d_X4_drop_26 : decode (bc mX4_drop) 26 = .ok (.isub, 1) := by decide +kernel
theorem d_X4_drop_27 : decode (bc mX4_drop) 27 = .ok (.putfield 47, 3) := by decide +kernel
theorem d_X4_drop_30 : decode (bc mX4_drop) 30 = .ok (.iload_n 1, 1) := by decide +kernel
theorem d_X4_drop_31 : decode (bc mX4_drop) 31 = .ok (.istore_n 3, 1) := by decide +kernel
theorem d_X4_drop_32 : decode (bc mX4_drop) 32 = .ok (.iload_n 3, 1) := by decide +kernel
theorem d_X4_drop_33 : decode (bc mX4_drop) 33 = .ok (.aload_n 0, 1) := by decide +kernel
theorem d_X4_drop_34 : decode (bc mX4_drop) 34 = .ok (.getfield 47, 3) := by decide +kernel
theorem d_X4_drop_37 : decode (bc mX4_drop) 37 = .ok (.if_icmp .ge 23, 3) := by decide +kernel
theorem d_X4_drop_40 : decode (bc mX4_drop) 40 = .ok (.aload_n 0, 1) := by decide +kernel
theorem d_X4_drop_41 : decode (bc mX4_drop) 41 = .ok (.getfield 26, 3) := by decide +kernel
theorem d_X4_drop_44 : decode (bc mX4_drop) 44 = .ok (.iload_n 3, 1) := by decide +kernel
theorem d_X4_drop_45 : decode (bc mX4_drop) 45 = .ok (.aload_n 0, 1) := by decide +kernel
theorem d_X4_drop_46 : decode (bc mX4_drop) 46 = .ok (.getfield 26, 3) := by decide +kernel
theorem d_X4_drop_49 : decode (bc mX4_drop) 49 = .ok (.iload_n 3, 1) := by decide +kernel
theorem d_X4_drop_50 : decode (bc mX4_drop) 50 = .ok (.iconst 1, 1) := by decide +kernel
theorem d_X4_drop_51 : decode (bc mX4_drop) 51 = .ok (.iadd, 1) := by decide +kernel
theorem d_X4_drop_52 : decode (bc mX4_drop) 52 = .ok (.aaload, 1) := by decide +kernel
theorem d_X4_drop_53 : decode (bc mX4_drop) 53 = .ok (.aastore, 1) := by decide +kernel
theorem d_X4_drop_54 : decode (bc mX4_drop) 54 = .ok (.iinc 3 1, 3) := by decide +kernel
theorem d_X4_drop_57 : decode (bc mX4_drop) 57 = .ok (.goto (-25), 3) := by decide +kernel
theorem d_X4_drop_60 : decode (bc mX4_drop) 60 = .ok (.aload_n 0, 1) := by decide +kernel
theorem d_X4_drop_61 : decode (bc mX4_drop) 61 = .ok (.getfield 26, 3) := by decide +kernel
theorem d_X4_drop_64 : decode (bc mX4_drop) 64 = .ok (.aload_n 0, 1) := by decide +kernel
theorem d_X4_drop_65 : decode (bc mX4_drop) 65 = .ok (.getfield 47, 3) := by decide +kernel
theorem d_X4_drop_68 : decode (bc mX4_drop) 68 = .ok (.aload_n 2, 1) := by decide +kernel
theorem d_X4_drop_69 : decode (bc mX4_drop) 69 = .ok (.aastore, 1) := by decide +kernel
theorem d_X4_drop_70 : decode (bc mX4_drop) 70 = .ok (.aload_n 2, 1) := by decide +kernel
theorem d_X4_drop_71 : decode (bc mX4_drop) 71 = .ok (.iconst 0, 1) := by decide +kernel
theorem d_X4_drop_72 : decode (bc mX4_drop) 72 = .ok (.putfield 73, 3) := by decide +kernel
theorem d_X4_drop_75 : decode (bc mX4_drop) 75 = .ok (.return_, 1) := by decide +kernel
theorem d_X5_init_0 : decode (bc mX5_init) 0 = .ok (.aload_n 0, 1) := by decide +kernel
theorem d_X5_init_1 : decode (bc mX5_init) 1 = .ok (.invokespecial 3, 3) := by decide +kernel
theorem d_X5_init_4 : decode (bc mX5_init) 4 = .ok (.aload_n 0, 1) := by decide +kernel
theorem d_X5_init_5 : decode (bc mX5_init) 5 = .ok (.bipush 60, 2) := by decide +kernel
theorem d_X5_init_7 : decode (bc mX5_init) 7 = .ok (.newarray .int, 2) := by decide +kernel
theorem d_X5_init_9 : decode (bc mX5_init) 9 = .ok (.putfield 9, 3) := by decide +kernel
theorem d_X5_init_12 : decode (bc mX5_init) 12 = .ok (.aload_n 0, 1) := by decide +kernel
theorem d_X5_init_13 : decode (bc mX5_init) 13 = .ok (.new 13, 3) := by decide +kernel
theorem d_X5_init_16 : decode (bc mX5_init) 16 = .ok (.dup, 1) := by decide +kernel
theorem d_X5_init_17 : decode (bc mX5_init) 17 = .ok (.invokespecial 15, 3) := by decide +kernel
theorem d_X5_init_20 : decode (bc mX5_init) 20 = .ok (.putfield 16, 3) := by decide +kernel
theorem d_X5_init_23 : decode (bc mX5_init) 23 = .ok (.aload_n 0, 1) := by decide +kernel
theorem d_X5_init_24 : decode (bc mX5_init) 24 = .ok (.bipush 6, 2) := by decide +kernel
theorem d_X5_init_26 : decode (bc mX5_init) 26 = .ok (.anewarray 13, 3) := by decide +kernel
theorem d_X5_init_29 : decode (bc mX5_init) 29 = .ok (.putfield 20, 3) := by decide +kernel
theorem d_X5_init_32 : decode (bc mX5_init) 32 = .ok (.aload_n 0, 1) := by decide +kernel
theorem d_X5_init_33 : decode (bc mX5_init) 33 = .ok (.iconst 2, 1) := by decide +kernel
theorem d_X5_init_34 : decode (bc mX5_init) 34 = .ok (.anewarray 13, 3) := by decide +kernel
theorem d_X5_init_37 : decode (bc mX5_init) 37 = .ok (.putfield 24, 3) := by decide +kernel
theorem d_X5_init_40 : decode (bc mX5_init) 40 = .ok (.aload_n 0, 1) := by decide +kernel
theorem d_X5_init_41 : decode (bc mX5_init) 41 = .ok (.iconst 2, 1) := by decide +kernel
theorem d_X5_init_42 : decode (bc mX5_init) 42 = .ok (.newarray .boolean, 2) := by decide +kernel
theorem d_X5_init_44 : decode (bc mX5_init) 44 = .ok (.putfield 27, 3) := by decide +kernel
theorem d_X5_init_47 : decode (bc mX5_init) 47 = .ok (.aload_n 0, 1) := by decide +kernel
theorem d_X5_init_48 : decode (bc mX5_init) 48 = .ok (.new 13, 3) := by decide +kernel
theorem d_X5_init_51 : decode (bc mX5_init) 51 = .ok (.dup, 1) := by decide +kernel
theorem d_X5_init_52 : decode (bc mX5_init) 52 = .ok (.invokespecial 15, 3) := by decide +kernel
theorem d_X5_init_55 : decode (bc mX5_init) 55 = .ok (.putfield 31, 3) := by decide +kernel
theorem d_X5_init_58 : decode (bc mX5_init) 58 = .ok (.aload_n 0, 1) := by decide +kernel
theorem d_X5_init_59 : decode (bc mX5_init) 59 = .ok (.new 34, 3) := by decide +kernel
theorem d_X5_init_62 : decode (bc mX5_init) 62 = .ok (.dup, 1) := by decide +kernel
theorem d_X5_init_63 : decode (bc mX5_init) 63 = .ok (.invokespecial 36, 3) := by decide +kernel
theorem d_X5_init_66 : decode (bc mX5_init) 66 = .ok (.putfield 37, 3) := by decide +kernel
theorem d_X5_init_69 : decode (bc mX5_init) 69 = .ok (.aload_n 0, 1) := by decide +kernel
theorem d_X5_init_70 : decode (bc mX5_init) 70 = .ok (.new 41, 3) := by decide +kernel
theorem d_X5_init_73 : decode (bc mX5_init) 73 = .ok (.dup, 1) := by decide +kernel
theorem d_X5_init_74 : decode (bc mX5_init) 74 = .ok (.invokespecial 43, 3) := by decide +kernel
theorem d_X5_init_77 : decode (bc mX5_init) 77 = .ok (.putfield 44, 3) := by decide +kernel
theorem d_X5_init_80 : decode (bc mX5_init) 80 = .ok (.iconst 0, 1) := by decide +kernel
theorem d_X5_init_81 : decode (bc mX5_init) 81 = .ok (.istore_n 1, 1) := by decide +kernel
theorem d_X5_init_82 : decode (bc mX5_init) 82 = .ok (.iload_n 1, 1) := by decide +kernel
theorem d_X5_init_83 : decode (bc mX5_init) 83 = .ok (.bipush 6, 2) := by decide +kernel
theorem d_X5_init_85 : decode (bc mX5_init) 85 = .ok (.if_icmp .ge 22, 3) := by decide +kernel
theorem d_X5_init_88 : decode (bc mX5_init) 88 = .ok (.aload_n 0, 1) := by decide +kernel
theorem d_X5_init_89 : decode (bc mX5_init) 89 = .ok (.getfield 20, 3) := by decide +kernel
theorem d_X5_init_92 : decode (bc mX5_init) 92 = .ok (.iload_n 1, 1) := by decide +kernel
theorem d_X5_init_93 : decode (bc mX5_init) 93 = .ok (.new 13, 3) := by decide +kernel
theorem d_X5_init_96 : decode (bc mX5_init) 96 = .ok (.dup, 1) := by decide +kernel
theorem d_X5_init_97 : decode (bc mX5_init) 97 = .ok (.invokespecial 15, 3) := by decide +kernel
theorem d_X5_init_100 : decode (bc mX5_init) 100 = .ok (.aastore, 1) := by decide +kernel
theorem d_X5_init_101 : decode (bc mX5_init) 101 = .ok (.iinc 1 1, 3) := by decide +kernel
theorem d_X5_init_104 : decode (bc mX5_init) 104 = .ok (.goto (-22), 3) := by decide +kernel
theorem d_X5_init_107 : decode (bc mX5_init) 107 = .ok (.iconst 0, 1) := by decide +kernel
theorem d_X5_init_108 : decode (bc mX5_init) 108 = .ok (.istore_n 1, 1) := by decide +kernel
theorem d_X5_init_109 : decode (bc mX5_init) 109 = .ok (.iload_n 1, 1) := by decide +kernel
theorem d_X5_init_110 : decode (bc mX5_init) 110 = .ok (.iconst 2, 1) := by decide +kernel
theorem d_X5_init_111 : decode (bc mX5_init) 111 = .ok (.if_icmp .ge 22, 3) := by decide +kernel
theorem d_X5_init_114 : decode (bc mX5_init) 114 = .ok (.aload_n 0, 1) := by decide +kernel
theorem d_X5_init_115 : decode (bc mX5_init) 115 = .ok (.getfield 24, 3) := by decide +kernel
theorem d_X5_init_118 : decode (bc mX5_init) 118 = .ok (.iload_n 1, 1) := by decide +kernel
theorem d_X5_init_119 : decode (bc mX5_init) 119 = .ok (.new 13, 3) := by decide +kernel
theorem d_X5_init_122 : decode (bc mX5_init) 122 = .ok (.dup, 1) := by decide +kernel
theorem d_X5_init_123 : decode (bc mX5_init) 123 = .ok (.invokespecial 15, 3) := by decide +kernel
theorem d_X5_init_126 : decode (bc mX5_init) 126 = .ok (.aastore, 1) := by decide +kernel
theorem d_X5_init_127 : decode (bc mX5_init) 127 = .ok (.iinc 1 1, 3) := by decide +kernel
theorem d_X5_init_130 : decode (bc mX5_init) 130 = .ok (.goto (-21), 3) := by decide +kernel
theorem d_X5_init_133 : decode (bc mX5_init) 133 = .ok (.return_, 1) := by decide +kernel
theorem d_X5_set_0 : decode (bc mX5_set) 0 = .ok (.iload_n 1, 1) := by decide +kernel
theorem d_X5_set_1 : decode (bc mX5_set) 1 = .ok (.iload_n 2, 1) := by decide +kernel
theorem d_X5_set_2 : decode (bc mX5_set) 2 = .ok (.invokestatic 48, 3) := by decide +kernel
theorem d_X5_set_5 : decode (bc mX5_set) 5 = .ok (.ifCond .ne 6, 3) := by decide +kernel
theorem d_X5_set_8 : decode (bc mX5_set) 8 = .ok (.bipush (-2), 2) := by decide +kernel
theorem d_X5_set_10 : decode (bc mX5_set) 10 = .ok (.ireturn, 1) := by decide +kernel
theorem d_X5_set_11 : decode (bc mX5_set) 11 = .ok (.aload_n 0, 1) := by decide +kernel
theorem d_X5_set_12 : decode (bc mX5_set) 12 = .ok (.invokevirtual 52, 3) := by decide +kernel
theorem d_X5_set_15 : decode (bc mX5_set) 15 = .ok (.aload_n 0, 1) := by decide +kernel
theorem d_X5_set_16 : decode (bc mX5_set) 16 = .ok (.getfield 16, 3) := by decide +kernel
theorem d_X5_set_19 : decode (bc mX5_set) 19 = .ok (.getfield 55, 3) := by decide +kernel
theorem d_X5_set_22 : decode (bc mX5_set) 22 = .ok (.iload_n 1, 1) := by decide +kernel
theorem d_X5_set_23 : decode (bc mX5_set) 23 = .ok (.iaload, 1) := by decide +kernel
theorem d_X5_set_24 : decode (bc mX5_set) 24 = .ok (.istore_n 3, 1) := by decide +kernel
theorem d_X5_set_25 : decode (bc mX5_set) 25 = .ok (.aload_n 0, 1) := by decide +kernel
theorem d_X5_set_26 : decode (bc mX5_set) 26 = .ok (.getfield 16, 3) := by decide +kernel
theorem d_X5_set_29 : decode (bc mX5_set) 29 = .ok (.getfield 55, 3) := by decide +kernel
theorem d_X5_set_32 : decode (bc mX5_set) 32 = .ok (.iload_n 1, 1) := by decide +kernel
theorem d_X5_set_33 : decode (bc mX5_set) 33 = .ok (.iload_n 2, 1) := by decide +kernel
theorem d_X5_set_34 : decode (bc mX5_set) 34 = .ok (.iastore, 1) := by decide +kernel
theorem d_X5_set_35 : decode (bc mX5_set) 35 = .ok (.aload_n 0, 1) := by decide +kernel
theorem d_X5_set_36 : decode (bc mX5_set) 36 = .ok (.getfield 16, 3) := by decide +kernel
theorem d_X5_set_39 : decode (bc mX5_set) 39 = .ok (.invokevirtual 58, 3) := by decide +kernel
theorem d_X5_set_42 : decode (bc mX5_set) 42 = .ok (.iload_n 3, 1) := by decide +kernel
theorem d_X5_set_43 : decode (bc mX5_set) 43 = .ok (.ireturn, 1) := by decide +kernel
theorem d_X5_put_0 : decode (bc mX5_put) 0 = .ok (.iload_n 1, 1) := by decide +kernel
theorem d_X5_put_1 : decode (bc mX5_put) 1 = .ok (.invokestatic 61, 3) := by decide +kernel
theorem d_X5_put_4 : decode (bc mX5_put) 4 = .ok (.ifCond .ne 5, 3) := by decide +kernel
theorem d_X5_put_7 : decode (bc mX5_put) 7 = .ok (.iconst (-1), 1) := by decide +kernel
theorem d_X5_put_8 : decode (bc mX5_put) 8 = .ok (.ireturn, 1) := by decide +kernel
theorem d_X5_put_9 : decode (bc mX5_put) 9 = .ok (.iload_n 2, 1) := by decide +kernel
theorem d_X5_put_10 : decode (bc mX5_put) 10 = .ok (.invokestatic 65, 3) := by decide +kernel
theorem d_X5_put_13 : decode (bc mX5_put) 13 = .ok (.ifCond .ne 6, 3) := by decide +kernel
theorem d_X5_put_16 : decode (bc mX5_put) 16 = .ok (.bipush (-2), 2) := by decide +kernel
theorem d_X5_put_18 : decode (bc mX5_put) 18 = .ok (.ireturn, 1) := by decide +kernel
theorem d_X5_put_19 : decode (bc mX5_put) 19 = .ok (.aload_n 0, 1) := by decide +kernel
theorem d_X5_put_20 : decode (bc mX5_put) 20 = .ok (.invokevirtual 52, 3) := by decide +kernel
theorem d_X5_put_23 : decode (bc mX5_put) 23 = .ok (.aload_n 0, 1) := by decide +kernel
theorem d_X5_put_24 : decode (bc mX5_put) 24 = .ok (.getfield 16, 3) := by decide +kernel
theorem d_X5_put_27 : decode (bc mX5_put) 27 = .ok (.getfield 68, 3) := by decide +kernel
theorem d_X5_put_30 : decode (bc mX5_put) 30 = .ok (.iload_n 1, 1) := by decide +kernel
theorem d_X5_put_31 : decode (bc mX5_put) 31 = .ok (.iaload, 1) := by decide +kernel
theorem d_X5_put_32 : decode (bc mX5_put) 32 = .ok (.istore_n 3, 1) := by decide +kernel
theorem d_X5_put_33 : decode (bc mX5_put) 33 = .ok (.aload_n 0, 1) := by decide +kernel
theorem d_X5_put_34 : decode (bc mX5_put) 34 = .ok (.getfield 16, 3) := by decide +kernel
theorem d_X5_put_37 : decode (bc mX5_put) 37 = .ok (.getfield 68, 3) := by decide +kernel
theorem d_X5_put_40 : decode (bc mX5_put) 40 = .ok (.iload_n 1, 1) := by decide +kernel
theorem d_X5_put_41 : decode (bc mX5_put) 41 = .ok (.iload_n 2, 1) := by decide +kernel
theorem d_X5_put_42 : decode (bc mX5_put) 42 = .ok (.iastore, 1) := by decide +kernel
theorem d_X5_put_43 : decode (bc mX5_put) 43 = .ok (.iload_n 3, 1) := by decide +kernel
theorem d_X5_put_44 : decode (bc mX5_put) 44 = .ok (.ireturn, 1) := by decide +kernel
theorem d_X5_poison_0 : decode (bc mX5_poison) 0 = .ok (.iload_n 1, 1) := by decide +kernel
theorem d_X5_poison_1 : decode (bc mX5_poison) 1 = .ok (.invokestatic 61, 3) := by decide +kernel
theorem d_X5_poison_4 : decode (bc mX5_poison) 4 = .ok (.ifCond .ne 5, 3) := by decide +kernel
theorem d_X5_poison_7 : decode (bc mX5_poison) 7 = .ok (.iconst (-1), 1) := by decide +kernel
theorem d_X5_poison_8 : decode (bc mX5_poison) 8 = .ok (.ireturn, 1) := by decide +kernel
theorem d_X5_poison_9 : decode (bc mX5_poison) 9 = .ok (.iload_n 2, 1) := by decide +kernel
theorem d_X5_poison_10 : decode (bc mX5_poison) 10 = .ok (.ifCond .eq 11, 3) := by decide +kernel
theorem d_X5_poison_13 : decode (bc mX5_poison) 13 = .ok (.iload_n 2, 1) := by decide +kernel
theorem d_X5_poison_14 : decode (bc mX5_poison) 14 = .ok (.iconst 1, 1) := by decide +kernel
theorem d_X5_poison_15 : decode (bc mX5_poison) 15 = .ok (.if_icmp .eq 6, 3) := by decide +kernel
theorem d_X5_poison_18 : decode (bc mX5_poison) 18 = .ok (.bipush (-2), 2) := by decide +kernel
theorem d_X5_poison_20 : decode (bc mX5_poison) 20 = .ok (.ireturn, 1) := by decide +kernel
theorem d_X5_poison_21 : decode (bc mX5_poison) 21 = .ok (.aload_n 0, 1) := by decide +kernel
theorem d_X5_poison_22 : decode (bc mX5_poison) 22 = .ok (.invokevirtual 52, 3) := by decide +kernel
theorem d_X5_poison_25 : decode (bc mX5_poison) 25 = .ok (.aload_n 0, 1) := by decide +kernel
theorem d_X5_poison_26 : decode (bc mX5_poison) 26 = .ok (.getfield 16, 3) := by decide +kernel
theorem d_X5_poison_29 : decode (bc mX5_poison) 29 = .ok (.getfield 71, 3) := by decide +kernel
theorem d_X5_poison_32 : decode (bc mX5_poison) 32 = .ok (.iload_n 1, 1) := by decide +kernel
theorem d_X5_poison_33 : decode (bc mX5_poison) 33 = .ok (.invokestatic 75, 3) := by decide +kernel
theorem d_X5_poison_36 : decode (bc mX5_poison) 36 = .ok (.istore_n 3, 1) := by decide +kernel
theorem d_X5_poison_37 : decode (bc mX5_poison) 37 = .ok (.aload_n 0, 1) := by decide +kernel
theorem d_X5_poison_38 : decode (bc mX5_poison) 38 = .ok (.getfield 16, 3) := by decide +kernel
theorem d_X5_poison_41 : decode (bc mX5_poison) 41 = .ok (.aload_n 0, 1) := by decide +kernel
theorem d_X5_poison_42 : decode (bc mX5_poison) 42 = .ok (.getfield 16, 3) := by decide +kernel
theorem d_X5_poison_45 : decode (bc mX5_poison) 45 = .ok (.getfield 71, 3) := by decide +kernel
theorem d_X5_poison_48 : decode (bc mX5_poison) 48 = .ok (.iconst 1, 1) := by decide +kernel
theorem d_X5_poison_49 : decode (bc mX5_poison) 49 = .ok (.iload_n 1, 1) := by decide +kernel
theorem d_X5_poison_50 : decode (bc mX5_poison) 50 = .ok (.ishl, 1) := by decide +kernel
theorem d_X5_poison_51 : decode (bc mX5_poison) 51 = .ok (.iconst (-1), 1) := by decide +kernel
theorem d_X5_poison_52 : decode (bc mX5_poison) 52 = .ok (.ixor, 1) := by decide +kernel
theorem d_X5_poison_53 : decode (bc mX5_poison) 53 = .ok (.iand, 1) := by decide +kernel
theorem d_X5_poison_54 : decode (bc mX5_poison) 54 = .ok (.iload_n 2, 1) := by decide +kernel
theorem d_X5_poison_55 : decode (bc mX5_poison) 55 = .ok (.iload_n 1, 1) := by decide +kernel
theorem d_X5_poison_56 : decode (bc mX5_poison) 56 = .ok (.ishl, 1) := by decide +kernel
theorem d_X5_poison_57 : decode (bc mX5_poison) 57 = .ok (.ior, 1) := by decide +kernel
theorem d_X5_poison_58 : decode (bc mX5_poison) 58 = .ok (.putfield 71, 3) := by decide +kernel
theorem d_X5_poison_61 : decode (bc mX5_poison) 61 = .ok (.iload_n 3, 1) := by decide +kernel
theorem d_X5_poison_62 : decode (bc mX5_poison) 62 = .ok (.ireturn, 1) := by decide +kernel
theorem d_X5_ask_0 : decode (bc mX5_ask) 0 = .ok (.iload_n 1, 1) := by decide +kernel
theorem d_X5_ask_1 : decode (bc mX5_ask) 1 = .ok (.invokestatic 79, 3) := by decide +kernel
theorem d_X5_ask_4 : decode (bc mX5_ask) 4 = .ok (.ifCond .ne 5, 3) := by decide +kernel
theorem d_X5_ask_7 : decode (bc mX5_ask) 7 = .ok (.iconst (-1), 1) := by decide +kernel
theorem d_X5_ask_8 : decode (bc mX5_ask) 8 = .ok (.ireturn, 1) := by decide +kernel
theorem d_X5_ask_9 : decode (bc mX5_ask) 9 = .ok (.aload_n 0, 1) := by decide +kernel
theorem d_X5_ask_10 : decode (bc mX5_ask) 10 = .ok (.invokevirtual 52, 3) := by decide +kernel
theorem d_X5_ask_13 : decode (bc mX5_ask) 13 = .ok (.aload_n 0, 1) := by decide +kernel
theorem d_X5_ask_14 : decode (bc mX5_ask) 14 = .ok (.getfield 37, 3) := by decide +kernel
theorem d_X5_ask_17 : decode (bc mX5_ask) 17 = .ok (.aload_n 0, 1) := by decide +kernel
theorem d_X5_ask_18 : decode (bc mX5_ask) 18 = .ok (.getfield 16, 3) := by decide +kernel
theorem d_X5_ask_21 : decode (bc mX5_ask) 21 = .ok (.iload_n 1, 1) := by decide +kernel
theorem d_X5_ask_22 : decode (bc mX5_ask) 22 = .ok (.invokevirtual 82, 3) := by decide +kernel
theorem d_X5_ask_25 : decode (bc mX5_ask) 25 = .ok (.ireturn, 1) := by decide +kernel
theorem d_X5_forget_0 : decode (bc mX5_forget) 0 = .ok (.aload_n 0, 1) := by decide +kernel
theorem d_X5_forget_1 : decode (bc mX5_forget) 1 = .ok (.iload_n 1, 1) := by decide +kernel
theorem d_X5_forget_2 : decode (bc mX5_forget) 2 = .ok (.invokevirtual 86, 3) := by decide +kernel
theorem d_X5_forget_5 : decode (bc mX5_forget) 5 = .ok (.ifCond .ne 5, 3) := by decide +kernel
theorem d_X5_forget_8 : decode (bc mX5_forget) 8 = .ok (.iconst (-1), 1) := by decide +kernel
theorem d_X5_forget_9 : decode (bc mX5_forget) 9 = .ok (.ireturn, 1) := by decide +kernel
theorem d_X5_forget_10 : decode (bc mX5_forget) 10 = .ok (.aload_n 0, 1) := by decide +kernel
theorem d_X5_forget_11 : decode (bc mX5_forget) 11 = .ok (.invokevirtual 52, 3) := by decide +kernel
theorem d_X5_forget_14 : decode (bc mX5_forget) 14 = .ok (.aload_n 0, 1) := by decide +kernel
theorem d_X5_forget_15 : decode (bc mX5_forget) 15 = .ok (.getfield 16, 3) := by decide +kernel
theorem d_X5_forget_18 : decode (bc mX5_forget) 18 = .ok (.iload_n 1, 1) := by decide +kernel
theorem d_X5_forget_19 : decode (bc mX5_forget) 19 = .ok (.invokevirtual 89, 3) := by decide +kernel
theorem d_X5_forget_22 : decode (bc mX5_forget) 22 = .ok (.aload_n 0, 1) := by decide +kernel
theorem d_X5_forget_23 : decode (bc mX5_forget) 23 = .ok (.getfield 16, 3) := by decide +kernel
theorem d_X5_forget_26 : decode (bc mX5_forget) 26 = .ok (.getfield 93, 3) := by decide +kernel
theorem d_X5_forget_29 : decode (bc mX5_forget) 29 = .ok (.ireturn, 1) := by decide +kernel
theorem d_X5_type_0 : decode (bc mX5_type) 0 = .ok (.lload_n 1, 1) := by decide +kernel
theorem d_X5_type_1 : decode (bc mX5_type) 1 = .ok (.invokestatic 96, 3) := by decide +kernel
theorem d_X5_type_4 : decode (bc mX5_type) 4 = .ok (.istore_n 3, 1) := by decide +kernel
theorem d_X5_type_5 : decode (bc mX5_type) 5 = .ok (.iload_n 3, 1) := by decide +kernel
theorem d_X5_type_6 : decode (bc mX5_type) 6 = .ok (.ifCond .ne 6, 3) := by decide +kernel
theorem d_X5_type_9 : decode (bc mX5_type) 9 = .ok (.bipush (-2), 2) := by decide +kernel
theorem d_X5_type_11 : decode (bc mX5_type) 11 = .ok (.ireturn, 1) := by decide +kernel
theorem d_X5_type_12 : decode (bc mX5_type) 12 = .ok (.iload_n 3, 1) := by decide +kernel
theorem d_X5_type_13 : decode (bc mX5_type) 13 = .ok (.bipush 60, 2) := by decide +kernel
theorem d_X5_type_15 : decode (bc mX5_type) 15 = .ok (.aload_n 0, 1) := by decide +kernel
theorem d_X5_type_16 : decode (bc mX5_type) 16 = .ok (.getfield 100, 3) := by decide +kernel
theorem d_X5_type_19 : decode (bc mX5_type) 19 = .ok (.isub, 1) := by decide +kernel
theorem d_X5_type_20 : decode (bc mX5_type) 20 = .ok (.if_icmp .le 6, 3) := by decide +kernel
theorem d_X5_type_23 : decode (bc mX5_type) 23 = .ok (.bipush (-4), 2) := by decide +kernel
theorem d_X5_type_25 : decode (bc mX5_type) 25 = .ok (.ireturn, 1) := by decide +kernel
theorem d_X5_type_26 : decode (bc mX5_type) 26 = .ok (.iload_n 3, 1) := by decide +kernel
theorem d_X5_type_27 : decode (bc mX5_type) 27 = .ok (.iconst 1, 1) := by decide +kernel
theorem d_X5_type_28 : decode (bc mX5_type) 28 = .ok (.isub, 1) := by decide +kernel
theorem d_X5_type_29 : decode (bc mX5_type) 29 = .ok (.istore 4, 2) := by decide +kernel
theorem d_X5_type_31 : decode (bc mX5_type) 31 = .ok (.iload 4, 2) := by decide +kernel
theorem d_X5_type_33 : decode (bc mX5_type) 33 = .ok (.ifCond .lt 40, 3) := by decide +kernel
theorem d_X5_type_36 : decode (bc mX5_type) 36 = .ok (.aload_n 0, 1) := by decide +kernel
theorem d_X5_type_37 : decode (bc mX5_type) 37 = .ok (.getfield 9, 3) := by decide +kernel
theorem d_X5_type_40 : decode (bc mX5_type) 40 = .ok (.aload_n 0, 1) := by decide +kernel
theorem d_X5_type_41 : decode (bc mX5_type) 41 = .ok (.getfield 100, 3) := by decide +kernel
theorem d_X5_type_44 : decode (bc mX5_type) 44 = .ok (.lload_n 1, 1) := by decide +kernel
theorem d_X5_type_45 : decode (bc mX5_type) 45 = .ok (.bipush 8, 2) := by decide +kernel
theorem d_X5_type_47 : decode (bc mX5_type) 47 = .ok (.iload 4, 2) := by decide +kernel
theorem d_X5_type_49 : decode (bc mX5_type) 49 = .ok (.imul, 1) := by decide +kernel
theorem d_X5_type_50 : decode (bc mX5_type) 50 = .ok (.lushr, 1) := by decide +kernel
theorem d_X5_type_51 : decode (bc mX5_type) 51 = .ok (.ldc2_w 103, 3) := by decide +kernel
theorem d_X5_type_54 : decode (bc mX5_type) 54 = .ok (.land, 1) := by decide +kernel
theorem d_X5_type_55 : decode (bc mX5_type) 55 = .ok (.l2i, 1) := by decide +kernel
theorem d_X5_type_56 : decode (bc mX5_type) 56 = .ok (.iastore, 1) := by decide +kernel
theorem d_X5_type_57 : decode (bc mX5_type) 57 = .ok (.aload_n 0, 1) := by decide +kernel
theorem d_X5_type_58 : decode (bc mX5_type) 58 = .ok (.dup, 1) := by decide +kernel
theorem d_X5_type_59 : decode (bc mX5_type) 59 = .ok (.getfield 100, 3) := by decide +kernel
theorem d_X5_type_62 : decode (bc mX5_type) 62 = .ok (.iconst 1, 1) := by decide +kernel
theorem d_X5_type_63 : decode (bc mX5_type) 63 = .ok (.iadd, 1) := by decide +kernel
theorem d_X5_type_64 : decode (bc mX5_type) 64 = .ok (.putfield 100, 3) := by decide +kernel
theorem d_X5_type_67 : decode (bc mX5_type) 67 = .ok (.iinc 4 (-1), 3) := by decide +kernel
theorem d_X5_type_70 : decode (bc mX5_type) 70 = .ok (.goto (-39), 3) := by decide +kernel
theorem d_X5_type_73 : decode (bc mX5_type) 73 = .ok (.aload_n 0, 1) := by decide +kernel
theorem d_X5_type_74 : decode (bc mX5_type) 74 = .ok (.getfield 100, 3) := by decide +kernel
theorem d_X5_type_77 : decode (bc mX5_type) 77 = .ok (.ireturn, 1) := by decide +kernel
theorem d_X5_wipe_0 : decode (bc mX5_wipe) 0 = .ok (.aload_n 0, 1) := by decide +kernel
theorem d_X5_wipe_1 : decode (bc mX5_wipe) 1 = .ok (.getfield 100, 3) := by decide +kernel
theorem d_X5_wipe_4 : decode (bc mX5_wipe) 4 = .ok (.istore_n 1, 1) := by decide +kernel
theorem d_X5_wipe_5 : decode (bc mX5_wipe) 5 = .ok (.aload_n 0, 1) := by decide +kernel
theorem d_X5_wipe_6 : decode (bc mX5_wipe) 6 = .ok (.iconst 0, 1) := by decide +kernel
theorem d_X5_wipe_7 : decode (bc mX5_wipe) 7 = .ok (.putfield 100, 3) := by decide +kernel
theorem d_X5_wipe_10 : decode (bc mX5_wipe) 10 = .ok (.iload_n 1, 1) := by decide +kernel
theorem d_X5_wipe_11 : decode (bc mX5_wipe) 11 = .ok (.ireturn, 1) := by decide +kernel
theorem d_X5_fault_0 : decode (bc mX5_fault) 0 = .ok (.aload_n 0, 1) := by decide +kernel
theorem d_X5_fault_1 : decode (bc mX5_fault) 1 = .ok (.getfield 44, 3) := by decide +kernel
theorem d_X5_fault_4 : decode (bc mX5_fault) 4 = .ok (.aload_n 0, 1) := by decide +kernel
theorem d_X5_fault_5 : decode (bc mX5_fault) 5 = .ok (.getfield 9, 3) := by decide +kernel
theorem d_X5_fault_8 : decode (bc mX5_fault) 8 = .ok (.aload_n 0, 1) := by decide +kernel
theorem d_X5_fault_9 : decode (bc mX5_fault) 9 = .ok (.getfield 100, 3) := by decide +kernel
theorem d_X5_fault_12 : decode (bc mX5_fault) 12 = .ok (.invokevirtual 105, 3) := by decide +kernel
theorem d_X5_fault_15 : decode (bc mX5_fault) 15 = .ok (.ireturn, 1) := by decide +kernel
theorem d_X5_recipe_0 : decode (bc mX5_recipe) 0 = .ok (.iload_n 1, 1) := by decide +kernel
theorem d_X5_recipe_1 : decode (bc mX5_recipe) 1 = .ok (.invokestatic 79, 3) := by decide +kernel
theorem d_X5_recipe_4 : decode (bc mX5_recipe) 4 = .ok (.ifCond .ne 5, 3) := by decide +kernel
theorem d_X5_recipe_7 : decode (bc mX5_recipe) 7 = .ok (.iconst (-1), 1) := by decide +kernel
theorem d_X5_recipe_8 : decode (bc mX5_recipe) 8 = .ok (.ireturn, 1) := by decide +kernel
theorem d_X5_recipe_9 : decode (bc mX5_recipe) 9 = .ok (.aload_n 0, 1) := by decide +kernel
theorem d_X5_recipe_10 : decode (bc mX5_recipe) 10 = .ok (.getfield 44, 3) := by decide +kernel
theorem d_X5_recipe_13 : decode (bc mX5_recipe) 13 = .ok (.aload_n 0, 1) := by decide +kernel
theorem d_X5_recipe_14 : decode (bc mX5_recipe) 14 = .ok (.getfield 9, 3) := by decide +kernel
theorem d_X5_recipe_17 : decode (bc mX5_recipe) 17 = .ok (.aload_n 0, 1) := by decide +kernel
theorem d_X5_recipe_18 : decode (bc mX5_recipe) 18 = .ok (.getfield 100, 3) := by decide +kernel
theorem d_X5_recipe_21 : decode (bc mX5_recipe) 21 = .ok (.invokevirtual 105, 3) := by decide +kernel
theorem d_X5_recipe_24 : decode (bc mX5_recipe) 24 = .ok (.bipush (-6), 2) := by decide +kernel
theorem d_X5_recipe_26 : decode (bc mX5_recipe) 26 = .ok (.if_icmp .eq 6, 3) := by decide +kernel
theorem d_X5_recipe_29 : decode (bc mX5_recipe) 29 = .ok (.bipush (-3), 2) := by decide +kernel
theorem d_X5_recipe_31 : decode (bc mX5_recipe) 31 = .ok (.ireturn, 1) := by decide +kernel
theorem d_X5_recipe_32 : decode (bc mX5_recipe) 32 = .ok (.aload_n 0, 1) := by decide +kernel
theorem d_X5_recipe_33 : decode (bc mX5_recipe) 33 = .ok (.getfield 44, 3) := by decide +kernel
theorem d_X5_recipe_36 : decode (bc mX5_recipe) 36 = .ok (.getfield 109, 3) := by decide +kernel
theorem d_X5_recipe_39 : decode (bc mX5_recipe) 39 = .ok (.iload_n 1, 1) := by decide +kernel
theorem d_X5_recipe_40 : decode (bc mX5_recipe) 40 = .ok (.iushr, 1) := by decide +kernel
theorem d_X5_recipe_41 : decode (bc mX5_recipe) 41 = .ok (.ifCond .eq 6, 3) := by decide +kernel
theorem d_X5_recipe_44 : decode (bc mX5_recipe) 44 = .ok (.bipush (-5), 2) := by decide +kernel
theorem d_X5_recipe_46 : decode (bc mX5_recipe) 46 = .ok (.ireturn, 1) := by decide +kernel
theorem d_X5_recipe_47 : decode (bc mX5_recipe) 47 = .ok (.aload_n 0, 1) := by decide +kernel
theorem d_X5_recipe_48 : decode (bc mX5_recipe) 48 = .ok (.invokevirtual 52, 3) := by decide +kernel
theorem d_X5_recipe_51 : decode (bc mX5_recipe) 51 = .ok (.aload_n 0, 1) := by decide +kernel
theorem d_X5_recipe_52 : decode (bc mX5_recipe) 52 = .ok (.getfield 44, 3) := by decide +kernel
theorem d_X5_recipe_55 : decode (bc mX5_recipe) 55 = .ok (.invokevirtual 112, 3) := by decide +kernel
theorem d_X5_recipe_58 : decode (bc mX5_recipe) 58 = .ok (.astore_n 2, 1) := by decide +kernel
theorem d_X5_recipe_59 : decode (bc mX5_recipe) 59 = .ok (.aload_n 0, 1) := by decide +kernel
theorem d_X5_recipe_60 : decode (bc mX5_recipe) 60 = .ok (.getfield 16, 3) := by decide +kernel
theorem d_X5_recipe_63 : decode (bc mX5_recipe) 63 = .ok (.getfield 116, 3) := by decide +kernel
theorem d_X5_recipe_66 : decode (bc mX5_recipe) 66 = .ok (.iload_n 1, 1) := by decide +kernel
theorem d_X5_recipe_67 : decode (bc mX5_recipe) 67 = .ok (.aload_n 2, 1) := by decide +kernel
theorem d_X5_recipe_68 : decode (bc mX5_recipe) 68 = .ok (.aastore, 1) := by decide +kernel
theorem d_X5_recipe_69 : decode (bc mX5_recipe) 69 = .ok (.aload_n 0, 1) := by decide +kernel
theorem d_X5_recipe_70 : decode (bc mX5_recipe) 70 = .ok (.getfield 16, 3) := by decide +kernel
theorem d_X5_recipe_73 : decode (bc mX5_recipe) 73 = .ok (.iload_n 1, 1) := by decide +kernel
theorem d_X5_recipe_74 : decode (bc mX5_recipe) 74 = .ok (.invokevirtual 120, 3) := by decide +kernel
theorem d_X5_recipe_77 : decode (bc mX5_recipe) 77 = .ok (.aload_n 0, 1) := by decide +kernel
theorem d_X5_recipe_78 : decode (bc mX5_recipe) 78 = .ok (.iconst 0, 1) := by decide +kernel
theorem d_X5_recipe_79 : decode (bc mX5_recipe) 79 = .ok (.putfield 100, 3) := by decide +kernel
theorem d_X5_recipe_82 : decode (bc mX5_recipe) 82 = .ok (.aload_n 2, 1) := by decide +kernel
theorem d_X5_recipe_83 : decode (bc mX5_recipe) 83 = .ok (.getfield 123, 3) := by decide +kernel
theorem d_X5_recipe_86 : decode (bc mX5_recipe) 86 = .ok (.ireturn, 1) := by decide +kernel
theorem d_X5_ofShelf_0 : decode (bc mX5_ofShelf) 0 = .ok (.iload_n 1, 1) := by decide +kernel
theorem d_X5_ofShelf_1 : decode (bc mX5_ofShelf) 1 = .ok (.invokestatic 61, 3) := by decide +kernel
theorem d_X5_ofShelf_4 : decode (bc mX5_ofShelf) 4 = .ok (.ifCond .ne 5, 3) := by decide +kernel
theorem d_X5_ofShelf_7 : decode (bc mX5_ofShelf) 7 = .ok (.iconst (-1), 1) := by decide +kernel
theorem d_X5_ofShelf_8 : decode (bc mX5_ofShelf) 8 = .ok (.ireturn, 1) := by decide +kernel
theorem d_X5_ofShelf_9 : decode (bc mX5_ofShelf) 9 = .ok (.iload_n 2, 1) := by decide +kernel
theorem d_X5_ofShelf_10 : decode (bc mX5_ofShelf) 10 = .ok (.tableswitch 57 0 2 #[26, 36, 48], 26) := by decide +kernel
theorem d_X5_ofShelf_36 : decode (bc mX5_ofShelf) 36 = .ok (.aload_n 0, 1) := by decide +kernel
theorem d_X5_ofShelf_37 : decode (bc mX5_ofShelf) 37 = .ok (.getfield 16, 3) := by decide +kernel
theorem d_X5_ofShelf_40 : decode (bc mX5_ofShelf) 40 = .ok (.getfield 68, 3) := by decide +kernel
theorem d_X5_ofShelf_43 : decode (bc mX5_ofShelf) 43 = .ok (.iload_n 1, 1) := by decide +kernel
theorem d_X5_ofShelf_44 : decode (bc mX5_ofShelf) 44 = .ok (.iaload, 1) := by decide +kernel
theorem d_X5_ofShelf_45 : decode (bc mX5_ofShelf) 45 = .ok (.ireturn, 1) := by decide +kernel
theorem d_X5_ofShelf_46 : decode (bc mX5_ofShelf) 46 = .ok (.aload_n 0, 1) := by decide +kernel
theorem d_X5_ofShelf_47 : decode (bc mX5_ofShelf) 47 = .ok (.getfield 16, 3) := by decide +kernel
theorem d_X5_ofShelf_50 : decode (bc mX5_ofShelf) 50 = .ok (.getfield 71, 3) := by decide +kernel
theorem d_X5_ofShelf_53 : decode (bc mX5_ofShelf) 53 = .ok (.iload_n 1, 1) := by decide +kernel
theorem d_X5_ofShelf_54 : decode (bc mX5_ofShelf) 54 = .ok (.invokestatic 75, 3) := by decide +kernel
theorem d_X5_ofShelf_57 : decode (bc mX5_ofShelf) 57 = .ok (.ireturn, 1) := by decide +kernel
theorem d_X5_ofShelf_58 : decode (bc mX5_ofShelf) 58 = .ok (.aload_n 0, 1) := by decide +kernel
theorem d_X5_ofShelf_59 : decode (bc mX5_ofShelf) 59 = .ok (.getfield 16, 3) := by decide +kernel
theorem d_X5_ofShelf_62 : decode (bc mX5_ofShelf) 62 = .ok (.iload_n 1, 1) := by decide +kernel
theorem d_X5_ofShelf_63 : decode (bc mX5_ofShelf) 63 = .ok (.invokevirtual 128, 3) := by decide +kernel
theorem d_X5_ofShelf_66 : decode (bc mX5_ofShelf) 66 = .ok (.ireturn, 1) := by decide +kernel
theorem d_X5_ofShelf_67 : decode (bc mX5_ofShelf) 67 = .ok (.bipush (-2), 2) := by decide +kernel
theorem d_X5_ofShelf_69 : decode (bc mX5_ofShelf) 69 = .ok (.ireturn, 1) := by decide +kernel
theorem d_X5_ofLoaf_0 : decode (bc mX5_ofLoaf) 0 = .ok (.iload_n 1, 1) := by decide +kernel
theorem d_X5_ofLoaf_1 : decode (bc mX5_ofLoaf) 1 = .ok (.invokestatic 79, 3) := by decide +kernel
theorem d_X5_ofLoaf_4 : decode (bc mX5_ofLoaf) 4 = .ok (.ifCond .ne 5, 3) := by decide +kernel
theorem d_X5_ofLoaf_7 : decode (bc mX5_ofLoaf) 7 = .ok (.iconst (-1), 1) := by decide +kernel
theorem d_X5_ofLoaf_8 : decode (bc mX5_ofLoaf) 8 = .ok (.ireturn, 1) := by decide +kernel
theorem d_X5_ofLoaf_9 : decode (bc mX5_ofLoaf) 9 = .ok (.aload_n 0, 1) := by decide +kernel
theorem d_X5_ofLoaf_10 : decode (bc mX5_ofLoaf) 10 = .ok (.getfield 16, 3) := by decide +kernel
theorem d_X5_ofLoaf_13 : decode (bc mX5_ofLoaf) 13 = .ok (.getfield 116, 3) := by decide +kernel
theorem d_X5_ofLoaf_16 : decode (bc mX5_ofLoaf) 16 = .ok (.iload_n 1, 1) := by decide +kernel
theorem d_X5_ofLoaf_17 : decode (bc mX5_ofLoaf) 17 = .ok (.aaload, 1) := by decide +kernel
theorem d_X5_ofLoaf_18 : decode (bc mX5_ofLoaf) 18 = .ok (.astore_n 3, 1) := by decide +kernel
theorem d_X5_ofLoaf_19 : decode (bc mX5_ofLoaf) 19 = .ok (.iload_n 2, 1) := by decide +kernel
theorem d_X5_ofLoaf_20 : decode (bc mX5_ofLoaf) 20 = .ok (.tableswitch 105 0 5 #[40, 50, 63, 76, 86, 96], 40) := by decide +kernel
theorem d_X5_ofLoaf_60 : decode (bc mX5_ofLoaf) 60 = .ok (.aload_n 3, 1) := by decide +kernel
theorem d_X5_ofLoaf_61 : decode (bc mX5_ofLoaf) 61 = .ok (.ifnonnull 7, 3) := by decide +kernel
theorem d_X5_ofLoaf_64 : decode (bc mX5_ofLoaf) 64 = .ok (.iconst 0, 1) := by decide +kernel
theorem d_X5_ofLoaf_65 : decode (bc mX5_ofLoaf) 65 = .ok (.goto 4, 3) := by decide +kernel
theorem d_X5_ofLoaf_68 : decode (bc mX5_ofLoaf) 68 = .ok (.iconst 1, 1) := by decide +kernel
theorem d_X5_ofLoaf_69 : decode (bc mX5_ofLoaf) 69 = .ok (.ireturn, 1) := by decide +kernel
theorem d_X5_ofLoaf_70 : decode (bc mX5_ofLoaf) 70 = .ok (.aload_n 3, 1) := by decide +kernel
theorem d_X5_ofLoaf_71 : decode (bc mX5_ofLoaf) 71 = .ok (.ifnonnull 7, 3) := by decide +kernel
theorem d_X5_ofLoaf_74 : decode (bc mX5_ofLoaf) 74 = .ok (.iconst 0, 1) := by decide +kernel
theorem d_X5_ofLoaf_75 : decode (bc mX5_ofLoaf) 75 = .ok (.goto 7, 3) := by decide +kernel
theorem d_X5_ofLoaf_78 : decode (bc mX5_ofLoaf) 78 = .ok (.aload_n 3, 1) := by decide +kernel
theorem d_X5_ofLoaf_79 : decode (bc mX5_ofLoaf) 79 = .ok (.getfield 132, 3) := by decide +kernel
theorem d_X5_ofLoaf_82 : decode (bc mX5_ofLoaf) 82 = .ok (.ireturn, 1) := by decide +kernel
theorem d_X5_ofLoaf_83 : decode (bc mX5_ofLoaf) 83 = .ok (.aload_n 3, 1) := by decide +kernel
theorem d_X5_ofLoaf_84 : decode (bc mX5_ofLoaf) 84 = .ok (.ifnonnull 7, 3) := by decide +kernel
theorem d_X5_ofLoaf_87 : decode (bc mX5_ofLoaf) 87 = .ok (.iconst 0, 1) := by decide +kernel
theorem d_X5_ofLoaf_88 : decode (bc mX5_ofLoaf) 88 = .ok (.goto 7, 3) := by decide +kernel
theorem d_X5_ofLoaf_91 : decode (bc mX5_ofLoaf) 91 = .ok (.aload_n 3, 1) := by decide +kernel
theorem d_X5_ofLoaf_92 : decode (bc mX5_ofLoaf) 92 = .ok (.getfield 135, 3) := by decide +kernel
theorem d_X5_ofLoaf_95 : decode (bc mX5_ofLoaf) 95 = .ok (.ireturn, 1) := by decide +kernel
theorem d_X5_ofLoaf_96 : decode (bc mX5_ofLoaf) 96 = .ok (.aload_n 0, 1) := by decide +kernel
theorem d_X5_ofLoaf_97 : decode (bc mX5_ofLoaf) 97 = .ok (.getfield 16, 3) := by decide +kernel
theorem d_X5_ofLoaf_100 : decode (bc mX5_ofLoaf) 100 = .ok (.getfield 136, 3) := by decide +kernel
theorem d_X5_ofLoaf_103 : decode (bc mX5_ofLoaf) 103 = .ok (.iload_n 1, 1) := by decide +kernel
theorem d_X5_ofLoaf_104 : decode (bc mX5_ofLoaf) 104 = .ok (.iaload, 1) := by decide +kernel
theorem d_X5_ofLoaf_105 : decode (bc mX5_ofLoaf) 105 = .ok (.ireturn, 1) := by decide +kernel
theorem d_X5_ofLoaf_106 : decode (bc mX5_ofLoaf) 106 = .ok (.aload_n 0, 1) := by decide +kernel
theorem d_X5_ofLoaf_107 : decode (bc mX5_ofLoaf) 107 = .ok (.getfield 16, 3) := by decide +kernel
theorem d_X5_ofLoaf_110 : decode (bc mX5_ofLoaf) 110 = .ok (.getfield 139, 3) := by decide +kernel
theorem d_X5_ofLoaf_113 : decode (bc mX5_ofLoaf) 113 = .ok (.iload_n 1, 1) := by decide +kernel
theorem d_X5_ofLoaf_114 : decode (bc mX5_ofLoaf) 114 = .ok (.iaload, 1) := by decide +kernel
theorem d_X5_ofLoaf_115 : decode (bc mX5_ofLoaf) 115 = .ok (.ireturn, 1) := by decide +kernel
theorem d_X5_ofLoaf_116 : decode (bc mX5_ofLoaf) 116 = .ok (.aload_n 0, 1) := by decide +kernel
theorem d_X5_ofLoaf_117 : decode (bc mX5_ofLoaf) 117 = .ok (.getfield 16, 3) := by decide +kernel
theorem d_X5_ofLoaf_120 : decode (bc mX5_ofLoaf) 120 = .ok (.iload_n 1, 1) := by decide +kernel
theorem d_X5_ofLoaf_121 : decode (bc mX5_ofLoaf) 121 = .ok (.invokevirtual 142, 3) := by decide +kernel
theorem d_X5_ofLoaf_124 : decode (bc mX5_ofLoaf) 124 = .ok (.ireturn, 1) := by decide +kernel
theorem d_X5_ofLoaf_125 : decode (bc mX5_ofLoaf) 125 = .ok (.bipush (-2), 2) := by decide +kernel
theorem d_X5_ofLoaf_127 : decode (bc mX5_ofLoaf) 127 = .ok (.ireturn, 1) := by decide +kernel
theorem d_X5_ofMemory_0 : decode (bc mX5_ofMemory) 0 = .ok (.aload_n 0, 1) := by decide +kernel
theorem d_X5_ofMemory_1 : decode (bc mX5_ofMemory) 1 = .ok (.iload_n 1, 1) := by decide +kernel
theorem d_X5_ofMemory_2 : decode (bc mX5_ofMemory) 2 = .ok (.invokevirtual 86, 3) := by decide +kernel
theorem d_X5_ofMemory_5 : decode (bc mX5_ofMemory) 5 = .ok (.ifCond .ne 5, 3) := by decide +kernel
theorem d_X5_ofMemory_8 : decode (bc mX5_ofMemory) 8 = .ok (.iconst (-1), 1) := by decide +kernel
theorem d_X5_ofMemory_9 : decode (bc mX5_ofMemory) 9 = .ok (.ireturn, 1) := by decide +kernel
theorem d_X5_ofMemory_10 : decode (bc mX5_ofMemory) 10 = .ok (.aload_n 0, 1) := by decide +kernel
theorem d_X5_ofMemory_11 : decode (bc mX5_ofMemory) 11 = .ok (.getfield 16, 3) := by decide +kernel
theorem d_X5_ofMemory_14 : decode (bc mX5_ofMemory) 14 = .ok (.getfield 145, 3) := by decide +kernel
theorem d_X5_ofMemory_17 : decode (bc mX5_ofMemory) 17 = .ok (.iload_n 1, 1) := by decide +kernel
theorem d_X5_ofMemory_18 : decode (bc mX5_ofMemory) 18 = .ok (.aaload, 1) := by decide +kernel
theorem d_X5_ofMemory_19 : decode (bc mX5_ofMemory) 19 = .ok (.astore_n 3, 1) := by decide +kernel
theorem d_X5_ofMemory_20 : decode (bc mX5_ofMemory) 20 = .ok (.iload_n 2, 1) := by decide +kernel
theorem d_X5_ofMemory_21 : decode (bc mX5_ofMemory) 21 = .ok (.tableswitch 60 0 4 #[35, 40, 45, 50, 55], 35) := by decide +kernel
theorem d_X5_ofMemory_56 : decode (bc mX5_ofMemory) 56 = .ok (.aload_n 3, 1) := by decide +kernel
theorem d_X5_ofMemory_57 : decode (bc mX5_ofMemory) 57 = .ok (.getfield 149, 3) := by decide +kernel
theorem d_X5_ofMemory_60 : decode (bc mX5_ofMemory) 60 = .ok (.ireturn, 1) := by decide +kernel
theorem d_X5_ofMemory_61 : decode (bc mX5_ofMemory) 61 = .ok (.aload_n 3, 1) := by decide +kernel
theorem d_X5_ofMemory_62 : decode (bc mX5_ofMemory) 62 = .ok (.getfield 154, 3) := by decide +kernel
theorem d_X5_ofMemory_65 : decode (bc mX5_ofMemory) 65 = .ok (.ireturn, 1) := by decide +kernel
theorem d_X5_ofMemory_66 : decode (bc mX5_ofMemory) 66 = .ok (.aload_n 3, 1) := by decide +kernel
theorem d_X5_ofMemory_67 : decode (bc mX5_ofMemory) 67 = .ok (.getfield 157, 3) := by decide +kernel
theorem d_X5_ofMemory_70 : decode (bc mX5_ofMemory) 70 = .ok (.ireturn, 1) := by decide +kernel
theorem d_X5_ofMemory_71 : decode (bc mX5_ofMemory) 71 = .ok (.aload_n 3, 1) := by decide +kernel
theorem d_X5_ofMemory_72 : decode (bc mX5_ofMemory) 72 = .ok (.getfield 160, 3) := by decide +kernel
theorem d_X5_ofMemory_75 : decode (bc mX5_ofMemory) 75 = .ok (.ireturn, 1) := by decide +kernel
theorem d_X5_ofMemory_76 : decode (bc mX5_ofMemory) 76 = .ok (.aload_n 3, 1) := by decide +kernel
theorem d_X5_ofMemory_77 : decode (bc mX5_ofMemory) 77 = .ok (.getfield 163, 3) := by decide +kernel
theorem d_X5_ofMemory_80 : decode (bc mX5_ofMemory) 80 = .ok (.ireturn, 1) := by decide +kernel
theorem d_X5_ofMemory_81 : decode (bc mX5_ofMemory) 81 = .ok (.bipush (-2), 2) := by decide +kernel
theorem d_X5_ofMemory_83 : decode (bc mX5_ofMemory) 83 = .ok (.ireturn, 1) := by decide +kernel
theorem d_X5_look_0 : decode (bc mX5_look) 0 = .ok (.aload_n 0, 1) := by decide +kernel
theorem d_X5_look_1 : decode (bc mX5_look) 1 = .ok (.iload_n 1, 1) := by decide +kernel
theorem d_X5_look_2 : decode (bc mX5_look) 2 = .ok (.invokevirtual 86, 3) := by decide +kernel
theorem d_X5_look_5 : decode (bc mX5_look) 5 = .ok (.ifCond .ne 5, 3) := by decide +kernel
theorem d_X5_look_8 : decode (bc mX5_look) 8 = .ok (.iconst (-1), 1) := by decide +kernel
theorem d_X5_look_9 : decode (bc mX5_look) 9 = .ok (.ireturn, 1) := by decide +kernel
theorem d_X5_look_10 : decode (bc mX5_look) 10 = .ok (.aload_n 0, 1) := by decide +kernel
theorem d_X5_look_11 : decode (bc mX5_look) 11 = .ok (.getfield 16, 3) := by decide +kernel
theorem d_X5_look_14 : decode (bc mX5_look) 14 = .ok (.getfield 145, 3) := by decide +kernel
theorem d_X5_look_17 : decode (bc mX5_look) 17 = .ok (.iload_n 1, 1) := by decide +kernel
theorem d_X5_look_18 : decode (bc mX5_look) 18 = .ok (.aaload, 1) := by decide +kernel
theorem d_X5_look_19 : decode (bc mX5_look) 19 = .ok (.astore 4, 2) := by decide +kernel
theorem d_X5_look_21 : decode (bc mX5_look) 21 = .ok (.iload_n 2, 1) := by decide +kernel
theorem d_X5_look_22 : decode (bc mX5_look) 22 = .ok (.ifCond .lt 12, 3) := by decide +kernel
theorem d_X5_look_25 : decode (bc mX5_look) 25 = .ok (.iload_n 2, 1) := by decide +kernel
theorem d_X5_look_26 : decode (bc mX5_look) 26 = .ok (.aload 4, 2) := by decide +kernel
theorem d_X5_look_28 : decode (bc mX5_look) 28 = .ok (.getfield 157, 3) := by decide +kernel
theorem d_X5_look_31 : decode (bc mX5_look) 31 = .ok (.if_icmp .lt 5, 3) := by decide +kernel
theorem d_X5_look_34 : decode (bc mX5_look) 34 = .ok (.iconst (-1), 1) := by decide +kernel
theorem d_X5_look_35 : decode (bc mX5_look) 35 = .ok (.ireturn, 1) := by decide +kernel
theorem d_X5_look_36 : decode (bc mX5_look) 36 = .ok (.iload_n 3, 1) := by decide +kernel
theorem d_X5_look_37 : decode (bc mX5_look) 37 = .ok (.lookupswitch 43 #[(0, 27), (1, 35)], 27) := by decide +kernel
theorem d_X5_look_64 : decode (bc mX5_look) 64 = .ok (.aload 4, 2) := by decide +kernel
theorem d_X5_look_66 : decode (bc mX5_look) 66 = .ok (.getfield 166, 3) := by decide +kernel
theorem d_X5_look_69 : decode (bc mX5_look) 69 = .ok (.iload_n 2, 1) := by decide +kernel
theorem d_X5_look_70 : decode (bc mX5_look) 70 = .ok (.iaload, 1) := by decide +kernel
theorem d_X5_look_71 : decode (bc mX5_look) 71 = .ok (.ireturn, 1) := by decide +kernel
theorem d_X5_look_72 : decode (bc mX5_look) 72 = .ok (.aload 4, 2) := by decide +kernel
theorem d_X5_look_74 : decode (bc mX5_look) 74 = .ok (.getfield 169, 3) := by decide +kernel
theorem d_X5_look_77 : decode (bc mX5_look) 77 = .ok (.iload_n 2, 1) := by decide +kernel
theorem d_X5_look_78 : decode (bc mX5_look) 78 = .ok (.iaload, 1) := by decide +kernel
theorem d_X5_look_79 : decode (bc mX5_look) 79 = .ok (.ireturn, 1) := by decide +kernel
theorem d_X5_look_80 : decode (bc mX5_look) 80 = .ok (.bipush (-2), 2) := by decide +kernel
theorem d_X5_look_82 : decode (bc mX5_look) 82 = .ok (.ireturn, 1) := by decide +kernel
theorem d_X5_count_0 : decode (bc mX5_count) 0 = .ok (.iload_n 1, 1) := by decide +kernel
theorem d_X5_count_1 : decode (bc mX5_count) 1 = .ok (.tableswitch 109 0 7 #[47, 55, 63, 71, 76, 81, 91, 101], 47) := by decide +kernel
theorem d_X5_count_48 : decode (bc mX5_count) 48 = .ok (.aload_n 0, 1) := by decide +kernel
theorem d_X5_count_49 : decode (bc mX5_count) 49 = .ok (.getfield 16, 3) := by decide +kernel
theorem d_X5_count_52 : decode (bc mX5_count) 52 = .ok (.getfield 93, 3) := by decide +kernel
theorem d_X5_count_55 : decode (bc mX5_count) 55 = .ok (.ireturn, 1) := by decide +kernel
theorem d_X5_count_56 : decode (bc mX5_count) 56 = .ok (.aload_n 0, 1) := by decide +kernel
theorem d_X5_count_57 : decode (bc mX5_count) 57 = .ok (.getfield 16, 3) := by decide +kernel
theorem d_X5_count_60 : decode (bc mX5_count) 60 = .ok (.getfield 172, 3) := by decide +kernel
theorem d_X5_count_63 : decode (bc mX5_count) 63 = .ok (.ireturn, 1) := by decide +kernel
theorem d_X5_count_64 : decode (bc mX5_count) 64 = .ok (.aload_n 0, 1) := by decide +kernel
theorem d_X5_count_65 : decode (bc mX5_count) 65 = .ok (.getfield 16, 3) := by decide +kernel
theorem d_X5_count_68 : decode (bc mX5_count) 68 = .ok (.getfield 175, 3) := by decide +kernel
theorem d_X5_count_71 : decode (bc mX5_count) 71 = .ok (.ireturn, 1) := by decide +kernel
theorem d_X5_count_72 : decode (bc mX5_count) 72 = .ok (.aload_n 0, 1) := by decide +kernel
theorem d_X5_count_73 : decode (bc mX5_count) 73 = .ok (.getfield 100, 3) := by decide +kernel
theorem d_X5_count_76 : decode (bc mX5_count) 76 = .ok (.ireturn, 1) := by decide +kernel
theorem d_X5_count_77 : decode (bc mX5_count) 77 = .ok (.aload_n 0, 1) := by decide +kernel
theorem d_X5_count_78 : decode (bc mX5_count) 78 = .ok (.getfield 178, 3) := by decide +kernel
theorem d_X5_count_81 : decode (bc mX5_count) 81 = .ok (.ireturn, 1) := by decide +kernel
theorem d_X5_count_82 : decode (bc mX5_count) 82 = .ok (.aload_n 0, 1) := by decide +kernel
theorem d_X5_count_83 : decode (bc mX5_count) 83 = .ok (.getfield 16, 3) := by decide +kernel
theorem d_X5_count_86 : decode (bc mX5_count) 86 = .ok (.getfield 55, 3) := by decide +kernel
theorem d_X5_count_89 : decode (bc mX5_count) 89 = .ok (.iconst 0, 1) := by decide +kernel
theorem d_X5_count_90 : decode (bc mX5_count) 90 = .ok (.iaload, 1) := by decide +kernel
theorem d_X5_count_91 : decode (bc mX5_count) 91 = .ok (.ireturn, 1) := by decide +kernel
theorem d_X5_count_92 : decode (bc mX5_count) 92 = .ok (.aload_n 0, 1) := by decide +kernel
theorem d_X5_count_93 : decode (bc mX5_count) 93 = .ok (.getfield 16, 3) := by decide +kernel
theorem d_X5_count_96 : decode (bc mX5_count) 96 = .ok (.getfield 55, 3) := by decide +kernel
theorem d_X5_count_99 : decode (bc mX5_count) 99 = .ok (.iconst 1, 1) := by decide +kernel
theorem d_X5_count_100 : decode (bc mX5_count) 100 = .ok (.iaload, 1) := by decide +kernel
theorem d_X5_count_101 : decode (bc mX5_count) 101 = .ok (.ireturn, 1) := by decide +kernel
theorem d_X5_count_102 : decode (bc mX5_count) 102 = .ok (.aload_n 0, 1) := by decide +kernel
theorem d_X5_count_103 : decode (bc mX5_count) 103 = .ok (.getfield 16, 3) := by decide +kernel
theorem d_X5_count_106 : decode (bc mX5_count) 106 = .ok (.invokevirtual 181, 3) := by decide +kernel
theorem d_X5_count_109 : decode (bc mX5_count) 109 = .ok (.ireturn, 1) := by decide +kernel
theorem d_X5_count_110 : decode (bc mX5_count) 110 = .ok (.bipush (-2), 2) := by decide +kernel
theorem d_X5_count_112 : decode (bc mX5_count) 112 = .ok (.ireturn, 1) := by decide +kernel
theorem d_X5_fresh_0 : decode (bc mX5_fresh) 0 = .ok (.iload_n 1, 1) := by decide +kernel
theorem d_X5_fresh_1 : decode (bc mX5_fresh) 1 = .ok (.invokestatic 79, 3) := by decide +kernel
theorem d_X5_fresh_4 : decode (bc mX5_fresh) 4 = .ok (.ifCond .eq 18, 3) := by decide +kernel
theorem d_X5_fresh_7 : decode (bc mX5_fresh) 7 = .ok (.aload_n 0, 1) := by decide +kernel
theorem d_X5_fresh_8 : decode (bc mX5_fresh) 8 = .ok (.getfield 37, 3) := by decide +kernel
theorem d_X5_fresh_11 : decode (bc mX5_fresh) 11 = .ok (.aload_n 0, 1) := by decide +kernel
theorem d_X5_fresh_12 : decode (bc mX5_fresh) 12 = .ok (.getfield 16, 3) := by decide +kernel
theorem d_X5_fresh_15 : decode (bc mX5_fresh) 15 = .ok (.iload_n 1, 1) := by decide +kernel
theorem d_X5_fresh_16 : decode (bc mX5_fresh) 16 = .ok (.invokevirtual 185, 3) := by decide +kernel
theorem d_X5_fresh_19 : decode (bc mX5_fresh) 19 = .ok (.goto 4, 3) := by decide +kernel
theorem d_X5_fresh_22 : decode (bc mX5_fresh) 22 = .ok (.iconst (-1), 1) := by decide +kernel
theorem d_X5_fresh_23 : decode (bc mX5_fresh) 23 = .ok (.ireturn, 1) := by decide +kernel
theorem d_X5_fits_0 : decode (bc mX5_fits) 0 = .ok (.iload_n 1, 1) := by decide +kernel
theorem d_X5_fits_1 : decode (bc mX5_fits) 1 = .ok (.invokestatic 79, 3) := by decide +kernel
theorem d_X5_fits_4 : decode (bc mX5_fits) 4 = .ok (.ifCond .ne 5, 3) := by decide +kernel
theorem d_X5_fits_7 : decode (bc mX5_fits) 7 = .ok (.iconst (-1), 1) := by decide +kernel
theorem d_X5_fits_8 : decode (bc mX5_fits) 8 = .ok (.ireturn, 1) := by decide +kernel
theorem d_X5_fits_9 : decode (bc mX5_fits) 9 = .ok (.iconst 0, 1) := by decide +kernel
theorem d_X5_fits_10 : decode (bc mX5_fits) 10 = .ok (.istore_n 2, 1) := by decide +kernel
theorem d_X5_fits_11 : decode (bc mX5_fits) 11 = .ok (.iload_n 2, 1) := by decide +kernel
theorem d_X5_fits_12 : decode (bc mX5_fits) 12 = .ok (.aload_n 0, 1) := by decide +kernel
theorem d_X5_fits_13 : decode (bc mX5_fits) 13 = .ok (.getfield 16, 3) := by decide +kernel
theorem d_X5_fits_16 : decode (bc mX5_fits) 16 = .ok (.getfield 93, 3) := by decide +kernel
theorem d_X5_fits_19 : decode (bc mX5_fits) 19 = .ok (.if_icmp .ge 44, 3) := by decide +kernel
theorem d_X5_fits_22 : decode (bc mX5_fits) 22 = .ok (.aload_n 0, 1) := by decide +kernel
theorem d_X5_fits_23 : decode (bc mX5_fits) 23 = .ok (.getfield 16, 3) := by decide +kernel
theorem d_X5_fits_26 : decode (bc mX5_fits) 26 = .ok (.getfield 145, 3) := by decide +kernel
theorem d_X5_fits_29 : decode (bc mX5_fits) 29 = .ok (.iload_n 2, 1) := by decide +kernel
theorem d_X5_fits_30 : decode (bc mX5_fits) 30 = .ok (.aaload, 1) := by decide +kernel
theorem d_X5_fits_31 : decode (bc mX5_fits) 31 = .ok (.astore_n 3, 1) := by decide +kernel
theorem d_X5_fits_32 : decode (bc mX5_fits) 32 = .ok (.aload_n 3, 1) := by decide +kernel
theorem d_X5_fits_33 : decode (bc mX5_fits) 33 = .ok (.getfield 149, 3) := by decide +kernel
theorem d_X5_fits_36 : decode (bc mX5_fits) 36 = .ok (.iload_n 1, 1) := by decide +kernel
theorem d_X5_fits_37 : decode (bc mX5_fits) 37 = .ok (.if_icmp .ne 20, 3) := by decide +kernel
theorem d_X5_fits_40 : decode (bc mX5_fits) 40 = .ok (.aload_n 0, 1) := by decide +kernel
theorem d_X5_fits_41 : decode (bc mX5_fits) 41 = .ok (.getfield 37, 3) := by decide +kernel
theorem d_X5_fits_44 : decode (bc mX5_fits) 44 = .ok (.aload_n 0, 1) := by decide +kernel
theorem d_X5_fits_45 : decode (bc mX5_fits) 45 = .ok (.getfield 16, 3) := by decide +kernel
theorem d_X5_fits_48 : decode (bc mX5_fits) 48 = .ok (.aload_n 3, 1) := by decide +kernel
theorem d_X5_fits_49 : decode (bc mX5_fits) 49 = .ok (.invokevirtual 188, 3) := by decide +kernel
theorem d_X5_fits_52 : decode (bc mX5_fits) 52 = .ok (.ifCond .eq 5, 3) := by decide +kernel
theorem d_X5_fits_55 : decode (bc mX5_fits) 55 = .ok (.iload_n 2, 1) := by decide +kernel
theorem d_X5_fits_56 : decode (bc mX5_fits) 56 = .ok (.ireturn, 1) := by decide +kernel
theorem d_X5_fits_57 : decode (bc mX5_fits) 57 = .ok (.iinc 2 1, 3) := by decide +kernel
theorem d_X5_fits_60 : decode (bc mX5_fits) 60 = .ok (.goto (-49), 3) := by decide +kernel
theorem d_X5_fits_63 : decode (bc mX5_fits) 63 = .ok (.bipush (-6), 2) := by decide +kernel
theorem d_X5_fits_65 : decode (bc mX5_fits) 65 = .ok (.ireturn, 1) := by decide +kernel
theorem d_X5_looksAt_0 : decode (bc mX5_looksAt) 0 = .ok (.iload_n 1, 1) := by decide +kernel
theorem d_X5_looksAt_1 : decode (bc mX5_looksAt) 1 = .ok (.invokestatic 79, 3) := by decide +kernel
theorem d_X5_looksAt_4 : decode (bc mX5_looksAt) 4 = .ok (.ifCond .eq 18, 3) := by decide +kernel
theorem d_X5_looksAt_7 : decode (bc mX5_looksAt) 7 = .ok (.aload_n 0, 1) := by decide +kernel
theorem d_X5_looksAt_8 : decode (bc mX5_looksAt) 8 = .ok (.getfield 37, 3) := by decide +kernel
theorem d_X5_looksAt_11 : decode (bc mX5_looksAt) 11 = .ok (.aload_n 0, 1) := by decide +kernel
theorem d_X5_looksAt_12 : decode (bc mX5_looksAt) 12 = .ok (.getfield 16, 3) := by decide +kernel
theorem d_X5_looksAt_15 : decode (bc mX5_looksAt) 15 = .ok (.iload_n 1, 1) := by decide +kernel
theorem d_X5_looksAt_16 : decode (bc mX5_looksAt) 16 = .ok (.invokevirtual 192, 3) := by decide +kernel
theorem d_X5_looksAt_19 : decode (bc mX5_looksAt) 19 = .ok (.goto 4, 3) := by decide +kernel
theorem d_X5_looksAt_22 : decode (bc mX5_looksAt) 22 = .ok (.iconst (-1), 1) := by decide +kernel
theorem d_X5_looksAt_23 : decode (bc mX5_looksAt) 23 = .ok (.ireturn, 1) := by decide +kernel
theorem d_X5_changes_0 : decode (bc mX5_changes) 0 = .ok (.iload_n 1, 1) := by decide +kernel
theorem d_X5_changes_1 : decode (bc mX5_changes) 1 = .ok (.invokestatic 61, 3) := by decide +kernel
theorem d_X5_changes_4 : decode (bc mX5_changes) 4 = .ok (.ifCond .ne 5, 3) := by decide +kernel
theorem d_X5_changes_7 : decode (bc mX5_changes) 7 = .ok (.iconst (-1), 1) := by decide +kernel
theorem d_X5_changes_8 : decode (bc mX5_changes) 8 = .ok (.ireturn, 1) := by decide +kernel
theorem d_X5_changes_9 : decode (bc mX5_changes) 9 = .ok (.iload_n 2, 1) := by decide +kernel
theorem d_X5_changes_10 : decode (bc mX5_changes) 10 = .ok (.invokestatic 65, 3) := by decide +kernel
theorem d_X5_changes_13 : decode (bc mX5_changes) 13 = .ok (.ifCond .ne 6, 3) := by decide +kernel
theorem d_X5_changes_16 : decode (bc mX5_changes) 16 = .ok (.bipush (-2), 2) := by decide +kernel
theorem d_X5_changes_18 : decode (bc mX5_changes) 18 = .ok (.ireturn, 1) := by decide +kernel
theorem d_X5_changes_19 : decode (bc mX5_changes) 19 = .ok (.aload_n 0, 1) := by decide +kernel
theorem d_X5_changes_20 : decode (bc mX5_changes) 20 = .ok (.getfield 31, 3) := by decide +kernel
theorem d_X5_changes_23 : decode (bc mX5_changes) 23 = .ok (.aload_n 0, 1) := by decide +kernel
theorem d_X5_changes_24 : decode (bc mX5_changes) 24 = .ok (.getfield 16, 3) := by decide +kernel
theorem d_X5_changes_27 : decode (bc mX5_changes) 27 = .ok (.invokevirtual 195, 3) := by decide +kernel
theorem d_X5_changes_30 : decode (bc mX5_changes) 30 = .ok (.aload_n 0, 1) := by decide +kernel
theorem d_X5_changes_31 : decode (bc mX5_changes) 31 = .ok (.getfield 31, 3) := by decide +kernel
theorem d_X5_changes_34 : decode (bc mX5_changes) 34 = .ok (.getfield 68, 3) := by decide +kernel
theorem d_X5_changes_37 : decode (bc mX5_changes) 37 = .ok (.iload_n 1, 1) := by decide +kernel
theorem d_X5_changes_38 : decode (bc mX5_changes) 38 = .ok (.iload_n 2, 1) := by decide +kernel
theorem d_X5_changes_39 : decode (bc mX5_changes) 39 = .ok (.iastore, 1) := by decide +kernel
theorem d_X5_changes_40 : decode (bc mX5_changes) 40 = .ok (.iconst 0, 1) := by decide +kernel
theorem d_X5_changes_41 : decode (bc mX5_changes) 41 = .ok (.istore_n 3, 1) := by decide +kernel
theorem d_X5_changes_42 : decode (bc mX5_changes) 42 = .ok (.iconst 0, 1) := by decide +kernel
theorem d_X5_changes_43 : decode (bc mX5_changes) 43 = .ok (.istore 4, 2) := by decide +kernel
theorem d_X5_changes_45 : decode (bc mX5_changes) 45 = .ok (.iload 4, 2) := by decide +kernel
theorem d_X5_changes_47 : decode (bc mX5_changes) 47 = .ok (.bipush 6, 2) := by decide +kernel
theorem d_X5_changes_49 : decode (bc mX5_changes) 49 = .ok (.if_icmp .ge 45, 3) := by decide +kernel
theorem d_X5_changes_52 : decode (bc mX5_changes) 52 = .ok (.aload_n 0, 1) := by decide +kernel
theorem d_X5_changes_53 : decode (bc mX5_changes) 53 = .ok (.getfield 37, 3) := by decide +kernel
theorem d_X5_changes_56 : decode (bc mX5_changes) 56 = .ok (.aload_n 0, 1) := by decide +kernel
theorem d_X5_changes_57 : decode (bc mX5_changes) 57 = .ok (.getfield 16, 3) := by decide +kernel
theorem d_X5_changes_60 : decode (bc mX5_changes) 60 = .ok (.iload 4, 2) := by decide +kernel
theorem d_X5_changes_62 : decode (bc mX5_changes) 62 = .ok (.invokevirtual 185, 3) := by decide +kernel
theorem d_X5_changes_65 : decode (bc mX5_changes) 65 = .ok (.aload_n 0, 1) := by decide +kernel
theorem d_X5_changes_66 : decode (bc mX5_changes) 66 = .ok (.getfield 37, 3) := by decide +kernel
theorem d_X5_changes_69 : decode (bc mX5_changes) 69 = .ok (.aload_n 0, 1) := by decide +kernel
theorem d_X5_changes_70 : decode (bc mX5_changes) 70 = .ok (.getfield 31, 3) := by decide +kernel
theorem d_X5_changes_73 : decode (bc mX5_changes) 73 = .ok (.iload 4, 2) := by decide +kernel
theorem d_X5_changes_75 : decode (bc mX5_changes) 75 = .ok (.invokevirtual 185, 3) := by decide +kernel
theorem d_X5_changes_78 : decode (bc mX5_changes) 78 = .ok (.if_icmp .eq 10, 3) := by decide +kernel
theorem d_X5_changes_81 : decode (bc mX5_changes) 81 = .ok (.iload_n 3, 1) := by decide +kernel
theorem d_X5_changes_82 : decode (bc mX5_changes) 82 = .ok (.iconst 1, 1) := by decide +kernel
theorem d_X5_changes_83 : decode (bc mX5_changes) 83 = .ok (.iload 4, 2) := by decide +kernel
theorem d_X5_changes_85 : decode (bc mX5_changes) 85 = .ok (.ishl, 1) := by decide +kernel
theorem d_X5_changes_86 : decode (bc mX5_changes) 86 = .ok (.ior, 1) := by decide +kernel
theorem d_X5_changes_87 : decode (bc mX5_changes) 87 = .ok (.istore_n 3, 1) := by decide +kernel
theorem d_X5_changes_88 : decode (bc mX5_changes) 88 = .ok (.iinc 4 1, 3) := by decide +kernel
theorem d_X5_changes_91 : decode (bc mX5_changes) 91 = .ok (.goto (-46), 3) := by decide +kernel
theorem d_X5_changes_94 : decode (bc mX5_changes) 94 = .ok (.iload_n 3, 1) := by decide +kernel
theorem d_X5_changes_95 : decode (bc mX5_changes) 95 = .ok (.ireturn, 1) := by decide +kernel
theorem d_X5_numberFor_0 : decode (bc mX5_numberFor) 0 = .ok (.iload_n 1, 1) := by decide +kernel
theorem d_X5_numberFor_1 : decode (bc mX5_numberFor) 1 = .ok (.invokestatic 61, 3) := by decide +kernel
theorem d_X5_numberFor_4 : decode (bc mX5_numberFor) 4 = .ok (.ifCond .eq 10, 3) := by decide +kernel
theorem d_X5_numberFor_7 : decode (bc mX5_numberFor) 7 = .ok (.iload_n 2, 1) := by decide +kernel
theorem d_X5_numberFor_8 : decode (bc mX5_numberFor) 8 = .ok (.invokestatic 79, 3) := by decide +kernel
