theorem d_X5_numberFor_11 : decode (bc mX5_numberFor) 11 = .ok (.ifCond .ne 5, 3) := by decide +kernel
theorem d_X5_numberFor_14 : decode (bc mX5_numberFor) 14 = .ok (.iconst (-1), 1) := by decide +kernel
theorem d_X5_numberFor_15 : decode (bc mX5_numberFor) 15 = .ok (.ireturn, 1) := by decide +kernel
theorem d_X5_numberFor_16 : decode (bc mX5_numberFor) 16 = .ok (.iload_n 3, 1) := by decide +kernel
theorem d_X5_numberFor_17 : decode (bc mX5_numberFor) 17 = .ok (.invokestatic 65, 3) := by decide +kernel
theorem d_X5_numberFor_20 : decode (bc mX5_numberFor) 20 = .ok (.ifCond .ne 12, 3) := by decide +kernel
theorem d_X5_numberFor_23 : decode (bc mX5_numberFor) 23 = .ok (.iload_n 3, 1) := by decide +kernel
theorem d_X5_numberFor_24 : decode (bc mX5_numberFor) 24 = .ok (.bipush 100, 2) := by decide +kernel
theorem d_X5_numberFor_26 : decode (bc mX5_numberFor) 26 = .ok (.if_icmp .eq 6, 3) := by decide +kernel
theorem d_X5_numberFor_29 : decode (bc mX5_numberFor) 29 = .ok (.bipush (-2), 2) := by decide +kernel
theorem d_X5_numberFor_31 : decode (bc mX5_numberFor) 31 = .ok (.ireturn, 1) := by decide +kernel
theorem d_X5_numberFor_32 : decode (bc mX5_numberFor) 32 = .ok (.aload_n 0, 1) := by decide +kernel
theorem d_X5_numberFor_33 : decode (bc mX5_numberFor) 33 = .ok (.getfield 31, 3) := by decide +kernel
theorem d_X5_numberFor_36 : decode (bc mX5_numberFor) 36 = .ok (.aload_n 0, 1) := by decide +kernel
theorem d_X5_numberFor_37 : decode (bc mX5_numberFor) 37 = .ok (.getfield 16, 3) := by decide +kernel
theorem d_X5_numberFor_40 : decode (bc mX5_numberFor) 40 = .ok (.invokevirtual 195, 3) := by decide +kernel
theorem d_X5_numberFor_43 : decode (bc mX5_numberFor) 43 = .ok (.iconst 0, 1) := by decide +kernel
theorem d_X5_numberFor_44 : decode (bc mX5_numberFor) 44 = .ok (.istore 4, 2) := by decide +kernel
theorem d_X5_numberFor_46 : decode (bc mX5_numberFor) 46 = .ok (.iload 4, 2) := by decide +kernel
theorem d_X5_numberFor_48 : decode (bc mX5_numberFor) 48 = .ok (.bipush 100, 2) := by decide +kernel
theorem d_X5_numberFor_50 : decode (bc mX5_numberFor) 50 = .ok (.if_icmp .ge 39, 3) := by decide +kernel
theorem d_X5_numberFor_53 : decode (bc mX5_numberFor) 53 = .ok (.aload_n 0, 1) := by decide +kernel
theorem d_X5_numberFor_54 : decode (bc mX5_numberFor) 54 = .ok (.getfield 31, 3) := by decide +kernel
theorem d_X5_numberFor_57 : decode (bc mX5_numberFor) 57 = .ok (.getfield 68, 3) := by decide +kernel
theorem d_X5_numberFor_60 : decode (bc mX5_numberFor) 60 = .ok (.iload_n 1, 1) := by decide +kernel
theorem d_X5_numberFor_61 : decode (bc mX5_numberFor) 61 = .ok (.iload 4, 2) := by decide +kernel
theorem d_X5_numberFor_63 : decode (bc mX5_numberFor) 63 = .ok (.iastore, 1) := by decide +kernel
theorem d_X5_numberFor_64 : decode (bc mX5_numberFor) 64 = .ok (.aload_n 0, 1) := by decide +kernel
theorem d_X5_numberFor_65 : decode (bc mX5_numberFor) 65 = .ok (.getfield 37, 3) := by decide +kernel
theorem d_X5_numberFor_68 : decode (bc mX5_numberFor) 68 = .ok (.aload_n 0, 1) := by decide +kernel
theorem d_X5_numberFor_69 : decode (bc mX5_numberFor) 69 = .ok (.getfield 31, 3) := by decide +kernel
theorem d_X5_numberFor_72 : decode (bc mX5_numberFor) 72 = .ok (.iload_n 2, 1) := by decide +kernel
theorem d_X5_numberFor_73 : decode (bc mX5_numberFor) 73 = .ok (.invokevirtual 185, 3) := by decide +kernel
theorem d_X5_numberFor_76 : decode (bc mX5_numberFor) 76 = .ok (.iload_n 3, 1) := by decide +kernel
theorem d_X5_numberFor_77 : decode (bc mX5_numberFor) 77 = .ok (.if_icmp .ne 6, 3) := by decide +kernel
theorem d_X5_numberFor_80 : decode (bc mX5_numberFor) 80 = .ok (.iload 4, 2) := by decide +kernel
theorem d_X5_numberFor_82 : decode (bc mX5_numberFor) 82 = .ok (.ireturn, 1) := by decide +kernel
theorem d_X5_numberFor_83 : decode (bc mX5_numberFor) 83 = .ok (.iinc 4 1, 3) := by decide +kernel
theorem d_X5_numberFor_86 : decode (bc mX5_numberFor) 86 = .ok (.goto (-40), 3) := by decide +kernel
theorem d_X5_numberFor_89 : decode (bc mX5_numberFor) 89 = .ok (.bipush (-6), 2) := by decide +kernel
theorem d_X5_numberFor_91 : decode (bc mX5_numberFor) 91 = .ok (.ireturn, 1) := by decide +kernel
theorem d_X5_stepsFor_0 : decode (bc mX5_stepsFor) 0 = .ok (.iload_n 1, 1) := by decide +kernel
theorem d_X5_stepsFor_1 : decode (bc mX5_stepsFor) 1 = .ok (.invokestatic 79, 3) := by decide +kernel
theorem d_X5_stepsFor_4 : decode (bc mX5_stepsFor) 4 = .ok (.ifCond .ne 5, 3) := by decide +kernel
theorem d_X5_stepsFor_7 : decode (bc mX5_stepsFor) 7 = .ok (.iconst (-1), 1) := by decide +kernel
theorem d_X5_stepsFor_8 : decode (bc mX5_stepsFor) 8 = .ok (.ireturn, 1) := by decide +kernel
theorem d_X5_stepsFor_9 : decode (bc mX5_stepsFor) 9 = .ok (.aload_n 0, 1) := by decide +kernel
theorem d_X5_stepsFor_10 : decode (bc mX5_stepsFor) 10 = .ok (.getfield 31, 3) := by decide +kernel
theorem d_X5_stepsFor_13 : decode (bc mX5_stepsFor) 13 = .ok (.aload_n 0, 1) := by decide +kernel
theorem d_X5_stepsFor_14 : decode (bc mX5_stepsFor) 14 = .ok (.getfield 16, 3) := by decide +kernel
theorem d_X5_stepsFor_17 : decode (bc mX5_stepsFor) 17 = .ok (.invokevirtual 195, 3) := by decide +kernel
theorem d_X5_stepsFor_20 : decode (bc mX5_stepsFor) 20 = .ok (.aload_n 0, 1) := by decide +kernel
theorem d_X5_stepsFor_21 : decode (bc mX5_stepsFor) 21 = .ok (.getfield 37, 3) := by decide +kernel
theorem d_X5_stepsFor_24 : decode (bc mX5_stepsFor) 24 = .ok (.aload_n 0, 1) := by decide +kernel
theorem d_X5_stepsFor_25 : decode (bc mX5_stepsFor) 25 = .ok (.getfield 31, 3) := by decide +kernel
theorem d_X5_stepsFor_28 : decode (bc mX5_stepsFor) 28 = .ok (.iload_n 1, 1) := by decide +kernel
theorem d_X5_stepsFor_29 : decode (bc mX5_stepsFor) 29 = .ok (.invokevirtual 82, 3) := by decide +kernel
theorem d_X5_stepsFor_32 : decode (bc mX5_stepsFor) 32 = .ok (.pop, 1) := by decide +kernel
theorem d_X5_stepsFor_33 : decode (bc mX5_stepsFor) 33 = .ok (.aload_n 0, 1) := by decide +kernel
theorem d_X5_stepsFor_34 : decode (bc mX5_stepsFor) 34 = .ok (.getfield 31, 3) := by decide +kernel
theorem d_X5_stepsFor_37 : decode (bc mX5_stepsFor) 37 = .ok (.getfield 172, 3) := by decide +kernel
theorem d_X5_stepsFor_40 : decode (bc mX5_stepsFor) 40 = .ok (.aload_n 0, 1) := by decide +kernel
theorem d_X5_stepsFor_41 : decode (bc mX5_stepsFor) 41 = .ok (.getfield 16, 3) := by decide +kernel
theorem d_X5_stepsFor_44 : decode (bc mX5_stepsFor) 44 = .ok (.getfield 172, 3) := by decide +kernel
theorem d_X5_stepsFor_47 : decode (bc mX5_stepsFor) 47 = .ok (.isub, 1) := by decide +kernel
theorem d_X5_stepsFor_48 : decode (bc mX5_stepsFor) 48 = .ok (.ireturn, 1) := by decide +kernel
theorem d_X5_undo_0 : decode (bc mX5_undo) 0 = .ok (.aload_n 0, 1) := by decide +kernel
theorem d_X5_undo_1 : decode (bc mX5_undo) 1 = .ok (.getfield 178, 3) := by decide +kernel
theorem d_X5_undo_4 : decode (bc mX5_undo) 4 = .ok (.ifCond .ne 6, 3) := by decide +kernel
theorem d_X5_undo_7 : decode (bc mX5_undo) 7 = .ok (.bipush (-5), 2) := by decide +kernel
theorem d_X5_undo_9 : decode (bc mX5_undo) 9 = .ok (.ireturn, 1) := by decide +kernel
theorem d_X5_undo_10 : decode (bc mX5_undo) 10 = .ok (.aload_n 0, 1) := by decide +kernel
theorem d_X5_undo_11 : decode (bc mX5_undo) 11 = .ok (.dup, 1) := by decide +kernel
theorem d_X5_undo_12 : decode (bc mX5_undo) 12 = .ok (.getfield 178, 3) := by decide +kernel
theorem d_X5_undo_15 : decode (bc mX5_undo) 15 = .ok (.iconst 1, 1) := by decide +kernel
theorem d_X5_undo_16 : decode (bc mX5_undo) 16 = .ok (.isub, 1) := by decide +kernel
theorem d_X5_undo_17 : decode (bc mX5_undo) 17 = .ok (.putfield 178, 3) := by decide +kernel
theorem d_X5_undo_20 : decode (bc mX5_undo) 20 = .ok (.aload_n 0, 1) := by decide +kernel
theorem d_X5_undo_21 : decode (bc mX5_undo) 21 = .ok (.getfield 20, 3) := by decide +kernel
theorem d_X5_undo_24 : decode (bc mX5_undo) 24 = .ok (.aload_n 0, 1) := by decide +kernel
theorem d_X5_undo_25 : decode (bc mX5_undo) 25 = .ok (.getfield 178, 3) := by decide +kernel
theorem d_X5_undo_28 : decode (bc mX5_undo) 28 = .ok (.aaload, 1) := by decide +kernel
theorem d_X5_undo_29 : decode (bc mX5_undo) 29 = .ok (.astore_n 1, 1) := by decide +kernel
theorem d_X5_undo_30 : decode (bc mX5_undo) 30 = .ok (.aload_n 0, 1) := by decide +kernel
theorem d_X5_undo_31 : decode (bc mX5_undo) 31 = .ok (.getfield 20, 3) := by decide +kernel
theorem d_X5_undo_34 : decode (bc mX5_undo) 34 = .ok (.aload_n 0, 1) := by decide +kernel
theorem d_X5_undo_35 : decode (bc mX5_undo) 35 = .ok (.getfield 178, 3) := by decide +kernel
theorem d_X5_undo_38 : decode (bc mX5_undo) 38 = .ok (.aload_n 0, 1) := by decide +kernel
theorem d_X5_undo_39 : decode (bc mX5_undo) 39 = .ok (.getfield 16, 3) := by decide +kernel
theorem d_X5_undo_42 : decode (bc mX5_undo) 42 = .ok (.aastore, 1) := by decide +kernel
theorem d_X5_undo_43 : decode (bc mX5_undo) 43 = .ok (.aload_n 0, 1) := by decide +kernel
theorem d_X5_undo_44 : decode (bc mX5_undo) 44 = .ok (.aload_n 1, 1) := by decide +kernel
theorem d_X5_undo_45 : decode (bc mX5_undo) 45 = .ok (.putfield 16, 3) := by decide +kernel
theorem d_X5_undo_48 : decode (bc mX5_undo) 48 = .ok (.aload_n 0, 1) := by decide +kernel
theorem d_X5_undo_49 : decode (bc mX5_undo) 49 = .ok (.getfield 178, 3) := by decide +kernel
theorem d_X5_undo_52 : decode (bc mX5_undo) 52 = .ok (.ireturn, 1) := by decide +kernel
theorem d_X5_save_0 : decode (bc mX5_save) 0 = .ok (.iload_n 1, 1) := by decide +kernel
theorem d_X5_save_1 : decode (bc mX5_save) 1 = .ok (.invokestatic 199, 3) := by decide +kernel
theorem d_X5_save_4 : decode (bc mX5_save) 4 = .ok (.ifCond .ne 6, 3) := by decide +kernel
theorem d_X5_save_7 : decode (bc mX5_save) 7 = .ok (.bipush (-2), 2) := by decide +kernel
theorem d_X5_save_9 : decode (bc mX5_save) 9 = .ok (.ireturn, 1) := by decide +kernel
theorem d_X5_save_10 : decode (bc mX5_save) 10 = .ok (.aload_n 0, 1) := by decide +kernel
theorem d_X5_save_11 : decode (bc mX5_save) 11 = .ok (.getfield 24, 3) := by decide +kernel
theorem d_X5_save_14 : decode (bc mX5_save) 14 = .ok (.iload_n 1, 1) := by decide +kernel
theorem d_X5_save_15 : decode (bc mX5_save) 15 = .ok (.aaload, 1) := by decide +kernel
theorem d_X5_save_16 : decode (bc mX5_save) 16 = .ok (.aload_n 0, 1) := by decide +kernel
theorem d_X5_save_17 : decode (bc mX5_save) 17 = .ok (.getfield 16, 3) := by decide +kernel
theorem d_X5_save_20 : decode (bc mX5_save) 20 = .ok (.invokevirtual 195, 3) := by decide +kernel
theorem d_X5_save_23 : decode (bc mX5_save) 23 = .ok (.aload_n 0, 1) := by decide +kernel
theorem d_X5_save_24 : decode (bc mX5_save) 24 = .ok (.getfield 27, 3) := by decide +kernel
theorem d_X5_save_27 : decode (bc mX5_save) 27 = .ok (.iload_n 1, 1) := by decide +kernel
theorem d_X5_save_28 : decode (bc mX5_save) 28 = .ok (.iconst 1, 1) := by decide +kernel
theorem d_X5_save_29 : decode (bc mX5_save) 29 = .ok (.bastore, 1) := by decide +kernel
theorem d_X5_save_30 : decode (bc mX5_save) 30 = .ok (.aload_n 0, 1) := by decide +kernel
theorem d_X5_save_31 : decode (bc mX5_save) 31 = .ok (.getfield 16, 3) := by decide +kernel
theorem d_X5_save_34 : decode (bc mX5_save) 34 = .ok (.getfield 93, 3) := by decide +kernel
theorem d_X5_save_37 : decode (bc mX5_save) 37 = .ok (.ireturn, 1) := by decide +kernel
theorem d_X5_restore_0 : decode (bc mX5_restore) 0 = .ok (.iload_n 1, 1) := by decide +kernel
theorem d_X5_restore_1 : decode (bc mX5_restore) 1 = .ok (.invokestatic 199, 3) := by decide +kernel
theorem d_X5_restore_4 : decode (bc mX5_restore) 4 = .ok (.ifCond .ne 6, 3) := by decide +kernel
theorem d_X5_restore_7 : decode (bc mX5_restore) 7 = .ok (.bipush (-2), 2) := by decide +kernel
theorem d_X5_restore_9 : decode (bc mX5_restore) 9 = .ok (.ireturn, 1) := by decide +kernel
theorem d_X5_restore_10 : decode (bc mX5_restore) 10 = .ok (.aload_n 0, 1) := by decide +kernel
theorem d_X5_restore_11 : decode (bc mX5_restore) 11 = .ok (.getfield 27, 3) := by decide +kernel
theorem d_X5_restore_14 : decode (bc mX5_restore) 14 = .ok (.iload_n 1, 1) := by decide +kernel
theorem d_X5_restore_15 : decode (bc mX5_restore) 15 = .ok (.baload, 1) := by decide +kernel
theorem d_X5_restore_16 : decode (bc mX5_restore) 16 = .ok (.ifCond .ne 6, 3) := by decide +kernel
theorem d_X5_restore_19 : decode (bc mX5_restore) 19 = .ok (.bipush (-5), 2) := by decide +kernel
theorem d_X5_restore_21 : decode (bc mX5_restore) 21 = .ok (.ireturn, 1) := by decide +kernel
theorem d_X5_restore_22 : decode (bc mX5_restore) 22 = .ok (.aload_n 0, 1) := by decide +kernel
theorem d_X5_restore_23 : decode (bc mX5_restore) 23 = .ok (.invokevirtual 52, 3) := by decide +kernel
theorem d_X5_restore_26 : decode (bc mX5_restore) 26 = .ok (.aload_n 0, 1) := by decide +kernel
theorem d_X5_restore_27 : decode (bc mX5_restore) 27 = .ok (.getfield 16, 3) := by decide +kernel
theorem d_X5_restore_30 : decode (bc mX5_restore) 30 = .ok (.aload_n 0, 1) := by decide +kernel
theorem d_X5_restore_31 : decode (bc mX5_restore) 31 = .ok (.getfield 24, 3) := by decide +kernel
theorem d_X5_restore_34 : decode (bc mX5_restore) 34 = .ok (.iload_n 1, 1) := by decide +kernel
theorem d_X5_restore_35 : decode (bc mX5_restore) 35 = .ok (.aaload, 1) := by decide +kernel
theorem d_X5_restore_36 : decode (bc mX5_restore) 36 = .ok (.invokevirtual 195, 3) := by decide +kernel
theorem d_X5_restore_39 : decode (bc mX5_restore) 39 = .ok (.aload_n 0, 1) := by decide +kernel
theorem d_X5_restore_40 : decode (bc mX5_restore) 40 = .ok (.getfield 16, 3) := by decide +kernel
theorem d_X5_restore_43 : decode (bc mX5_restore) 43 = .ok (.getfield 93, 3) := by decide +kernel
theorem d_X5_restore_46 : decode (bc mX5_restore) 46 = .ok (.ireturn, 1) := by decide +kernel
theorem d_X5_recordChange_0 : decode (bc mX5_recordChange) 0 = .ok (.aload_n 0, 1) := by decide +kernel
theorem d_X5_recordChange_1 : decode (bc mX5_recordChange) 1 = .ok (.getfield 178, 3) := by decide +kernel
theorem d_X5_recordChange_4 : decode (bc mX5_recordChange) 4 = .ok (.bipush 6, 2) := by decide +kernel
theorem d_X5_recordChange_6 : decode (bc mX5_recordChange) 6 = .ok (.if_icmp .ne 7, 3) := by decide +kernel
theorem d_X5_recordChange_9 : decode (bc mX5_recordChange) 9 = .ok (.aload_n 0, 1) := by decide +kernel
theorem d_X5_recordChange_10 : decode (bc mX5_recordChange) 10 = .ok (.invokevirtual 202, 3) := by decide +kernel
theorem d_X5_recordChange_13 : decode (bc mX5_recordChange) 13 = .ok (.aload_n 0, 1) := by decide +kernel
theorem d_X5_recordChange_14 : decode (bc mX5_recordChange) 14 = .ok (.getfield 20, 3) := by decide +kernel
theorem d_X5_recordChange_17 : decode (bc mX5_recordChange) 17 = .ok (.aload_n 0, 1) := by decide +kernel
theorem d_X5_recordChange_18 : decode (bc mX5_recordChange) 18 = .ok (.getfield 178, 3) := by decide +kernel
theorem d_X5_recordChange_21 : decode (bc mX5_recordChange) 21 = .ok (.aaload, 1) := by decide +kernel
theorem d_X5_recordChange_22 : decode (bc mX5_recordChange) 22 = .ok (.aload_n 0, 1) := by decide +kernel
theorem d_X5_recordChange_23 : decode (bc mX5_recordChange) 23 = .ok (.getfield 16, 3) := by decide +kernel
theorem d_X5_recordChange_26 : decode (bc mX5_recordChange) 26 = .ok (.invokevirtual 195, 3) := by decide +kernel
theorem d_X5_recordChange_29 : decode (bc mX5_recordChange) 29 = .ok (.aload_n 0, 1) := by decide +kernel
theorem d_X5_recordChange_30 : decode (bc mX5_recordChange) 30 = .ok (.dup, 1) := by decide +kernel
theorem d_X5_recordChange_31 : decode (bc mX5_recordChange) 31 = .ok (.getfield 178, 3) := by decide +kernel
theorem d_X5_recordChange_34 : decode (bc mX5_recordChange) 34 = .ok (.iconst 1, 1) := by decide +kernel
theorem d_X5_recordChange_35 : decode (bc mX5_recordChange) 35 = .ok (.iadd, 1) := by decide +kernel
theorem d_X5_recordChange_36 : decode (bc mX5_recordChange) 36 = .ok (.putfield 178, 3) := by decide +kernel
theorem d_X5_recordChange_39 : decode (bc mX5_recordChange) 39 = .ok (.return_, 1) := by decide +kernel
theorem d_X5_dropOldestChange_0 : decode (bc mX5_dropOldestChange) 0 = .ok (.aload_n 0, 1) := by decide +kernel
theorem d_X5_dropOldestChange_1 : decode (bc mX5_dropOldestChange) 1 = .ok (.getfield 20, 3) := by decide +kernel
theorem d_X5_dropOldestChange_4 : decode (bc mX5_dropOldestChange) 4 = .ok (.iconst 0, 1) := by decide +kernel
theorem d_X5_dropOldestChange_5 : decode (bc mX5_dropOldestChange) 5 = .ok (.aaload, 1) := by decide +kernel
theorem d_X5_dropOldestChange_6 : decode (bc mX5_dropOldestChange) 6 = .ok (.astore_n 1, 1) := by decide +kernel
theorem d_X5_dropOldestChange_7 : decode (bc mX5_dropOldestChange) 7 = .ok (.iconst 1, 1) := by decide +kernel
theorem d_X5_dropOldestChange_8 : decode (bc mX5_dropOldestChange) 8 = .ok (.istore_n 2, 1) := by decide +kernel
theorem d_X5_dropOldestChange_9 : decode (bc mX5_dropOldestChange) 9 = .ok (.iload_n 2, 1) := by decide +kernel
theorem d_X5_dropOldestChange_10 : decode (bc mX5_dropOldestChange) 10 = .ok (.bipush 6, 2) := by decide +kernel
theorem d_X5_dropOldestChange_12 : decode (bc mX5_dropOldestChange) 12 = .ok (.if_icmp .ge 23, 3) := by decide +kernel
theorem d_X5_dropOldestChange_15 : decode (bc mX5_dropOldestChange) 15 = .ok (.aload_n 0, 1) := by decide +kernel
theorem d_X5_dropOldestChange_16 : decode (bc mX5_dropOldestChange) 16 = .ok (.getfield 20, 3) := by decide +kernel
theorem d_X5_dropOldestChange_19 : decode (bc mX5_dropOldestChange) 19 = .ok (.iload_n 2, 1) := by decide +kernel
theorem d_X5_dropOldestChange_20 : decode (bc mX5_dropOldestChange) 20 = .ok (.iconst 1, 1) := by decide +kernel
theorem d_X5_dropOldestChange_21 : decode (bc mX5_dropOldestChange) 21 = .ok (.isub, 1) := by decide +kernel
theorem d_X5_dropOldestChange_22 : decode (bc mX5_dropOldestChange) 22 = .ok (.aload_n 0, 1) := by decide +kernel
theorem d_X5_dropOldestChange_23 : decode (bc mX5_dropOldestChange) 23 = .ok (.getfield 20, 3) := by decide +kernel
theorem d_X5_dropOldestChange_26 : decode (bc mX5_dropOldestChange) 26 = .ok (.iload_n 2, 1) := by decide +kernel
theorem d_X5_dropOldestChange_27 : decode (bc mX5_dropOldestChange) 27 = .ok (.aaload, 1) := by decide +kernel
theorem d_X5_dropOldestChange_28 : decode (bc mX5_dropOldestChange) 28 = .ok (.aastore, 1) := by decide +kernel
theorem d_X5_dropOldestChange_29 : decode (bc mX5_dropOldestChange) 29 = .ok (.iinc 2 1, 3) := by decide +kernel
theorem d_X5_dropOldestChange_32 : decode (bc mX5_dropOldestChange) 32 = .ok (.goto (-23), 3) := by decide +kernel
theorem d_X5_dropOldestChange_35 : decode (bc mX5_dropOldestChange) 35 = .ok (.aload_n 0, 1) := by decide +kernel
theorem d_X5_dropOldestChange_36 : decode (bc mX5_dropOldestChange) 36 = .ok (.getfield 20, 3) := by decide +kernel
theorem d_X5_dropOldestChange_39 : decode (bc mX5_dropOldestChange) 39 = .ok (.iconst 5, 1) := by decide +kernel
theorem d_X5_dropOldestChange_40 : decode (bc mX5_dropOldestChange) 40 = .ok (.aload_n 1, 1) := by decide +kernel
theorem d_X5_dropOldestChange_41 : decode (bc mX5_dropOldestChange) 41 = .ok (.aastore, 1) := by decide +kernel
theorem d_X5_dropOldestChange_42 : decode (bc mX5_dropOldestChange) 42 = .ok (.aload_n 0, 1) := by decide +kernel
theorem d_X5_dropOldestChange_43 : decode (bc mX5_dropOldestChange) 43 = .ok (.iconst 5, 1) := by decide +kernel
theorem d_X5_dropOldestChange_44 : decode (bc mX5_dropOldestChange) 44 = .ok (.putfield 178, 3) := by decide +kernel
theorem d_X5_dropOldestChange_47 : decode (bc mX5_dropOldestChange) 47 = .ok (.return_, 1) := by decide +kernel
theorem d_X5_isMemory_0 : decode (bc mX5_isMemory) 0 = .ok (.iload_n 1, 1) := by decide +kernel
theorem d_X5_isMemory_1 : decode (bc mX5_isMemory) 1 = .ok (.ifCond .lt 18, 3) := by decide +kernel
theorem d_X5_isMemory_4 : decode (bc mX5_isMemory) 4 = .ok (.iload_n 1, 1) := by decide +kernel
theorem d_X5_isMemory_5 : decode (bc mX5_isMemory) 5 = .ok (.aload_n 0, 1) := by decide +kernel
theorem d_X5_isMemory_6 : decode (bc mX5_isMemory) 6 = .ok (.getfield 16, 3) := by decide +kernel
theorem d_X5_isMemory_9 : decode (bc mX5_isMemory) 9 = .ok (.getfield 93, 3) := by decide +kernel
theorem d_X5_isMemory_12 : decode (bc mX5_isMemory) 12 = .ok (.if_icmp .ge 7, 3) := by decide +kernel
theorem d_X5_isMemory_15 : decode (bc mX5_isMemory) 15 = .ok (.iconst 1, 1) := by decide +kernel
theorem d_X5_isMemory_16 : decode (bc mX5_isMemory) 16 = .ok (.goto 4, 3) := by decide +kernel
theorem d_X5_isMemory_19 : decode (bc mX5_isMemory) 19 = .ok (.iconst 0, 1) := by decide +kernel
theorem d_X5_isMemory_20 : decode (bc mX5_isMemory) 20 = .ok (.ireturn, 1) := by decide +kernel
theorem d_X5_isShelf_0 : decode (bc mX5_isShelf) 0 = .ok (.iload_n 0, 1) := by decide +kernel
theorem d_X5_isShelf_1 : decode (bc mX5_isShelf) 1 = .ok (.ifCond .lt 13, 3) := by decide +kernel
theorem d_X5_isShelf_4 : decode (bc mX5_isShelf) 4 = .ok (.iload_n 0, 1) := by decide +kernel
theorem d_X5_isShelf_5 : decode (bc mX5_isShelf) 5 = .ok (.bipush 12, 2) := by decide +kernel
theorem d_X5_isShelf_7 : decode (bc mX5_isShelf) 7 = .ok (.if_icmp .ge 7, 3) := by decide +kernel
theorem d_X5_isShelf_10 : decode (bc mX5_isShelf) 10 = .ok (.iconst 1, 1) := by decide +kernel
theorem d_X5_isShelf_11 : decode (bc mX5_isShelf) 11 = .ok (.goto 4, 3) := by decide +kernel
theorem d_X5_isShelf_14 : decode (bc mX5_isShelf) 14 = .ok (.iconst 0, 1) := by decide +kernel
theorem d_X5_isShelf_15 : decode (bc mX5_isShelf) 15 = .ok (.ireturn, 1) := by decide +kernel
theorem d_X5_isLoaf_0 : decode (bc mX5_isLoaf) 0 = .ok (.iload_n 0, 1) := by decide +kernel
theorem d_X5_isLoaf_1 : decode (bc mX5_isLoaf) 1 = .ok (.ifCond .lt 13, 3) := by decide +kernel
theorem d_X5_isLoaf_4 : decode (bc mX5_isLoaf) 4 = .ok (.iload_n 0, 1) := by decide +kernel
theorem d_X5_isLoaf_5 : decode (bc mX5_isLoaf) 5 = .ok (.bipush 6, 2) := by decide +kernel
theorem d_X5_isLoaf_7 : decode (bc mX5_isLoaf) 7 = .ok (.if_icmp .ge 7, 3) := by decide +kernel
theorem d_X5_isLoaf_10 : decode (bc mX5_isLoaf) 10 = .ok (.iconst 1, 1) := by decide +kernel
theorem d_X5_isLoaf_11 : decode (bc mX5_isLoaf) 11 = .ok (.goto 4, 3) := by decide +kernel
theorem d_X5_isLoaf_14 : decode (bc mX5_isLoaf) 14 = .ok (.iconst 0, 1) := by decide +kernel
theorem d_X5_isLoaf_15 : decode (bc mX5_isLoaf) 15 = .ok (.ireturn, 1) := by decide +kernel
theorem d_X5_isNumber_0 : decode (bc mX5_isNumber) 0 = .ok (.iload_n 0, 1) := by decide +kernel
theorem d_X5_isNumber_1 : decode (bc mX5_isNumber) 1 = .ok (.ifCond .lt 13, 3) := by decide +kernel
theorem d_X5_isNumber_4 : decode (bc mX5_isNumber) 4 = .ok (.iload_n 0, 1) := by decide +kernel
theorem d_X5_isNumber_5 : decode (bc mX5_isNumber) 5 = .ok (.bipush 100, 2) := by decide +kernel
theorem d_X5_isNumber_7 : decode (bc mX5_isNumber) 7 = .ok (.if_icmp .ge 7, 3) := by decide +kernel
theorem d_X5_isNumber_10 : decode (bc mX5_isNumber) 10 = .ok (.iconst 1, 1) := by decide +kernel
theorem d_X5_isNumber_11 : decode (bc mX5_isNumber) 11 = .ok (.goto 4, 3) := by decide +kernel
theorem d_X5_isNumber_14 : decode (bc mX5_isNumber) 14 = .ok (.iconst 0, 1) := by decide +kernel
theorem d_X5_isNumber_15 : decode (bc mX5_isNumber) 15 = .ok (.ireturn, 1) := by decide +kernel
theorem d_X5_isSlot_0 : decode (bc mX5_isSlot) 0 = .ok (.iload_n 0, 1) := by decide +kernel
theorem d_X5_isSlot_1 : decode (bc mX5_isSlot) 1 = .ok (.ifCond .lt 12, 3) := by decide +kernel
theorem d_X5_isSlot_4 : decode (bc mX5_isSlot) 4 = .ok (.iload_n 0, 1) := by decide +kernel
theorem d_X5_isSlot_5 : decode (bc mX5_isSlot) 5 = .ok (.iconst 2, 1) := by decide +kernel
theorem d_X5_isSlot_6 : decode (bc mX5_isSlot) 6 = .ok (.if_icmp .ge 7, 3) := by decide +kernel
theorem d_X5_isSlot_9 : decode (bc mX5_isSlot) 9 = .ok (.iconst 1, 1) := by decide +kernel
theorem d_X5_isSlot_10 : decode (bc mX5_isSlot) 10 = .ok (.goto 4, 3) := by decide +kernel
theorem d_X5_isSlot_13 : decode (bc mX5_isSlot) 13 = .ok (.iconst 0, 1) := by decide +kernel
theorem d_X5_isSlot_14 : decode (bc mX5_isSlot) 14 = .ok (.ireturn, 1) := by decide +kernel
theorem d_X5_isSettingValue_0 : decode (bc mX5_isSettingValue) 0 = .ok (.iload_n 0, 1) := by decide +kernel
theorem d_X5_isSettingValue_1 : decode (bc mX5_isSettingValue) 1 = .ok (.lookupswitch 59 #[(0, 27), (1, 44)], 27) := by decide +kernel
theorem d_X5_isSettingValue_28 : decode (bc mX5_isSettingValue) 28 = .ok (.iload_n 1, 1) := by decide +kernel
theorem d_X5_isSettingValue_29 : decode (bc mX5_isSettingValue) 29 = .ok (.iconst 1, 1) := by decide +kernel
theorem d_X5_isSettingValue_30 : decode (bc mX5_isSettingValue) 30 = .ok (.if_icmp .lt 13, 3) := by decide +kernel
theorem d_X5_isSettingValue_33 : decode (bc mX5_isSettingValue) 33 = .ok (.iload_n 1, 1) := by decide +kernel
theorem d_X5_isSettingValue_34 : decode (bc mX5_isSettingValue) 34 = .ok (.bipush 16, 2) := by decide +kernel
theorem d_X5_isSettingValue_36 : decode (bc mX5_isSettingValue) 36 = .ok (.if_icmp .gt 7, 3) := by decide +kernel
theorem d_X5_isSettingValue_39 : decode (bc mX5_isSettingValue) 39 = .ok (.iconst 1, 1) := by decide +kernel
theorem d_X5_isSettingValue_40 : decode (bc mX5_isSettingValue) 40 = .ok (.goto 4, 3) := by decide +kernel
theorem d_X5_isSettingValue_43 : decode (bc mX5_isSettingValue) 43 = .ok (.iconst 0, 1) := by decide +kernel
theorem d_X5_isSettingValue_44 : decode (bc mX5_isSettingValue) 44 = .ok (.ireturn, 1) := by decide +kernel
theorem d_X5_isSettingValue_45 : decode (bc mX5_isSettingValue) 45 = .ok (.iload_n 1, 1) := by decide +kernel
theorem d_X5_isSettingValue_46 : decode (bc mX5_isSettingValue) 46 = .ok (.ifCond .eq 8, 3) := by decide +kernel
theorem d_X5_isSettingValue_49 : decode (bc mX5_isSettingValue) 49 = .ok (.iload_n 1, 1) := by decide +kernel
theorem d_X5_isSettingValue_50 : decode (bc mX5_isSettingValue) 50 = .ok (.iconst 1, 1) := by decide +kernel
theorem d_X5_isSettingValue_51 : decode (bc mX5_isSettingValue) 51 = .ok (.if_icmp .ne 7, 3) := by decide +kernel
theorem d_X5_isSettingValue_54 : decode (bc mX5_isSettingValue) 54 = .ok (.iconst 1, 1) := by decide +kernel
theorem d_X5_isSettingValue_55 : decode (bc mX5_isSettingValue) 55 = .ok (.goto 4, 3) := by decide +kernel
theorem d_X5_isSettingValue_58 : decode (bc mX5_isSettingValue) 58 = .ok (.iconst 0, 1) := by decide +kernel
theorem d_X5_isSettingValue_59 : decode (bc mX5_isSettingValue) 59 = .ok (.ireturn, 1) := by decide +kernel
theorem d_X5_isSettingValue_60 : decode (bc mX5_isSettingValue) 60 = .ok (.iconst 0, 1) := by decide +kernel
theorem d_X5_isSettingValue_61 : decode (bc mX5_isSettingValue) 61 = .ok (.ireturn, 1) := by decide +kernel
theorem d_X5_bitOf_0 : decode (bc mX5_bitOf) 0 = .ok (.iload_n 0, 1) := by decide +kernel
theorem d_X5_bitOf_1 : decode (bc mX5_bitOf) 1 = .ok (.iload_n 1, 1) := by decide +kernel
theorem d_X5_bitOf_2 : decode (bc mX5_bitOf) 2 = .ok (.iushr, 1) := by decide +kernel
theorem d_X5_bitOf_3 : decode (bc mX5_bitOf) 3 = .ok (.iconst 1, 1) := by decide +kernel
theorem d_X5_bitOf_4 : decode (bc mX5_bitOf) 4 = .ok (.iand, 1) := by decide +kernel
theorem d_X5_bitOf_5 : decode (bc mX5_bitOf) 5 = .ok (.ireturn, 1) := by decide +kernel
theorem d_X5_lengthOfText_0 : decode (bc mX5_lengthOfText) 0 = .ok (.iconst 0, 1) := by decide +kernel
theorem d_X5_lengthOfText_1 : decode (bc mX5_lengthOfText) 1 = .ok (.istore_n 2, 1) := by decide +kernel
theorem d_X5_lengthOfText_2 : decode (bc mX5_lengthOfText) 2 = .ok (.lload_n 0, 1) := by decide +kernel
theorem d_X5_lengthOfText_3 : decode (bc mX5_lengthOfText) 3 = .ok (.lstore_n 3, 1) := by decide +kernel
theorem d_X5_lengthOfText_4 : decode (bc mX5_lengthOfText) 4 = .ok (.iload_n 2, 1) := by decide +kernel
theorem d_X5_lengthOfText_5 : decode (bc mX5_lengthOfText) 5 = .ok (.bipush 8, 2) := by decide +kernel
theorem d_X5_lengthOfText_7 : decode (bc mX5_lengthOfText) 7 = .ok (.if_icmp .ge 44, 3) := by decide +kernel
theorem d_X5_lengthOfText_10 : decode (bc mX5_lengthOfText) 10 = .ok (.lload_n 3, 1) := by decide +kernel
theorem d_X5_lengthOfText_11 : decode (bc mX5_lengthOfText) 11 = .ok (.lconst 0, 1) := by decide +kernel
theorem d_X5_lengthOfText_12 : decode (bc mX5_lengthOfText) 12 = .ok (.lcmp, 1) := by decide +kernel
theorem d_X5_lengthOfText_13 : decode (bc mX5_lengthOfText) 13 = .ok (.ifCond .eq 38, 3) := by decide +kernel
theorem d_X5_lengthOfText_16 : decode (bc mX5_lengthOfText) 16 = .ok (.lload_n 3, 1) := by decide +kernel
theorem d_X5_lengthOfText_17 : decode (bc mX5_lengthOfText) 17 = .ok (.ldc2_w 103, 3) := by decide +kernel
theorem d_X5_lengthOfText_20 : decode (bc mX5_lengthOfText) 20 = .ok (.land, 1) := by decide +kernel
theorem d_X5_lengthOfText_21 : decode (bc mX5_lengthOfText) 21 = .ok (.l2i, 1) := by decide +kernel
theorem d_X5_lengthOfText_22 : decode (bc mX5_lengthOfText) 22 = .ok (.istore 5, 2) := by decide +kernel
theorem d_X5_lengthOfText_24 : decode (bc mX5_lengthOfText) 24 = .ok (.iload 5, 2) := by decide +kernel
theorem d_X5_lengthOfText_26 : decode (bc mX5_lengthOfText) 26 = .ok (.bipush 33, 2) := by decide +kernel
theorem d_X5_lengthOfText_28 : decode (bc mX5_lengthOfText) 28 = .ok (.if_icmp .lt 10, 3) := by decide +kernel
theorem d_X5_lengthOfText_31 : decode (bc mX5_lengthOfText) 31 = .ok (.iload 5, 2) := by decide +kernel
theorem d_X5_lengthOfText_33 : decode (bc mX5_lengthOfText) 33 = .ok (.bipush 126, 2) := by decide +kernel
theorem d_X5_lengthOfText_35 : decode (bc mX5_lengthOfText) 35 = .ok (.if_icmp .le 5, 3) := by decide +kernel
theorem d_X5_lengthOfText_38 : decode (bc mX5_lengthOfText) 38 = .ok (.iconst 0, 1) := by decide +kernel
theorem d_X5_lengthOfText_39 : decode (bc mX5_lengthOfText) 39 = .ok (.ireturn, 1) := by decide +kernel
theorem d_X5_lengthOfText_40 : decode (bc mX5_lengthOfText) 40 = .ok (.iinc 2 1, 3) := by decide +kernel
theorem d_X5_lengthOfText_43 : decode (bc mX5_lengthOfText) 43 = .ok (.lload_n 3, 1) := by decide +kernel
theorem d_X5_lengthOfText_44 : decode (bc mX5_lengthOfText) 44 = .ok (.bipush 8, 2) := by decide +kernel
theorem d_X5_lengthOfText_46 : decode (bc mX5_lengthOfText) 46 = .ok (.lushr, 1) := by decide +kernel
theorem d_X5_lengthOfText_47 : decode (bc mX5_lengthOfText) 47 = .ok (.lstore_n 3, 1) := by decide +kernel
theorem d_X5_lengthOfText_48 : decode (bc mX5_lengthOfText) 48 = .ok (.goto (-44), 3) := by decide +kernel
theorem d_X5_lengthOfText_51 : decode (bc mX5_lengthOfText) 51 = .ok (.iload_n 2, 1) := by decide +kernel
theorem d_X5_lengthOfText_52 : decode (bc mX5_lengthOfText) 52 = .ok (.ireturn, 1) := by decide +kernel
theorem d_X6_init_0 : decode (bc mX6_init) 0 = .ok (.aload_n 0, 1) := by decide +kernel
theorem d_X6_init_1 : decode (bc mX6_init) 1 = .ok (.invokespecial 1, 3) := by decide +kernel
theorem d_X6_init_4 : decode (bc mX6_init) 4 = .ok (.aload_n 0, 1) := by decide +kernel
theorem d_X6_init_5 : decode (bc mX6_init) 5 = .ok (.sipush 1496, 3) := by decide +kernel
theorem d_X6_init_8 : decode (bc mX6_init) 8 = .ok (.newarray .int, 2) := by decide +kernel
theorem d_X6_init_10 : decode (bc mX6_init) 10 = .ok (.putfield 7, 3) := by decide +kernel
theorem d_X6_init_13 : decode (bc mX6_init) 13 = .ok (.aload_n 0, 1) := by decide +kernel
theorem d_X6_init_14 : decode (bc mX6_init) 14 = .ok (.sipush 1496, 3) := by decide +kernel
theorem d_X6_init_17 : decode (bc mX6_init) 17 = .ok (.newarray .int, 2) := by decide +kernel
theorem d_X6_init_19 : decode (bc mX6_init) 19 = .ok (.putfield 13, 3) := by decide +kernel
theorem d_X6_init_22 : decode (bc mX6_init) 22 = .ok (.aload_n 0, 1) := by decide +kernel
theorem d_X6_init_23 : decode (bc mX6_init) 23 = .ok (.sipush 8976, 3) := by decide +kernel
theorem d_X6_init_26 : decode (bc mX6_init) 26 = .ok (.newarray .int, 2) := by decide +kernel
theorem d_X6_init_28 : decode (bc mX6_init) 28 = .ok (.putfield 16, 3) := by decide +kernel
theorem d_X6_init_31 : decode (bc mX6_init) 31 = .ok (.aload_n 0, 1) := by decide +kernel
theorem d_X6_init_32 : decode (bc mX6_init) 32 = .ok (.sipush 2992, 3) := by decide +kernel
theorem d_X6_init_35 : decode (bc mX6_init) 35 = .ok (.newarray .int, 2) := by decide +kernel
theorem d_X6_init_37 : decode (bc mX6_init) 37 = .ok (.putfield 19, 3) := by decide +kernel
theorem d_X6_init_40 : decode (bc mX6_init) 40 = .ok (.aload_n 0, 1) := by decide +kernel
theorem d_X6_init_41 : decode (bc mX6_init) 41 = .ok (.iconst 2, 1) := by decide +kernel
theorem d_X6_init_42 : decode (bc mX6_init) 42 = .ok (.newarray .boolean, 2) := by decide +kernel
theorem d_X6_init_44 : decode (bc mX6_init) 44 = .ok (.putfield 22, 3) := by decide +kernel
theorem d_X6_init_47 : decode (bc mX6_init) 47 = .ok (.aload_n 0, 1) := by decide +kernel
theorem d_X6_init_48 : decode (bc mX6_init) 48 = .ok (.bipush 60, 2) := by decide +kernel
theorem d_X6_init_50 : decode (bc mX6_init) 50 = .ok (.newarray .int, 2) := by decide +kernel
theorem d_X6_init_52 : decode (bc mX6_init) 52 = .ok (.putfield 26, 3) := by decide +kernel
theorem d_X6_init_55 : decode (bc mX6_init) 55 = .ok (.aload_n 0, 1) := by decide +kernel
theorem d_X6_init_56 : decode (bc mX6_init) 56 = .ok (.bipush 64, 2) := by decide +kernel
theorem d_X6_init_58 : decode (bc mX6_init) 58 = .ok (.newarray .int, 2) := by decide +kernel
theorem d_X6_init_60 : decode (bc mX6_init) 60 = .ok (.putfield 29, 3) := by decide +kernel
theorem d_X6_init_63 : decode (bc mX6_init) 63 = .ok (.aload_n 0, 1) := by decide +kernel
theorem d_X6_init_64 : decode (bc mX6_init) 64 = .ok (.bipush 64, 2) := by decide +kernel
theorem d_X6_init_66 : decode (bc mX6_init) 66 = .ok (.newarray .int, 2) := by decide +kernel
theorem d_X6_init_68 : decode (bc mX6_init) 68 = .ok (.putfield 32, 3) := by decide +kernel
theorem d_X6_init_71 : decode (bc mX6_init) 71 = .ok (.aload_n 0, 1) := by decide +kernel
theorem d_X6_init_72 : decode (bc mX6_init) 72 = .ok (.bipush 64, 2) := by decide +kernel
theorem d_X6_init_74 : decode (bc mX6_init) 74 = .ok (.newarray .int, 2) := by decide +kernel
theorem d_X6_init_76 : decode (bc mX6_init) 76 = .ok (.putfield 35, 3) := by decide +kernel
theorem d_X6_init_79 : decode (bc mX6_init) 79 = .ok (.aload_n 0, 1) := by decide +kernel
theorem d_X6_init_80 : decode (bc mX6_init) 80 = .ok (.bipush 64, 2) := by decide +kernel
theorem d_X6_init_82 : decode (bc mX6_init) 82 = .ok (.newarray .int, 2) := by decide +kernel
theorem d_X6_init_84 : decode (bc mX6_init) 84 = .ok (.putfield 38, 3) := by decide +kernel
theorem d_X6_init_87 : decode (bc mX6_init) 87 = .ok (.aload_n 0, 1) := by decide +kernel
theorem d_X6_init_88 : decode (bc mX6_init) 88 = .ok (.bipush 40, 2) := by decide +kernel
theorem d_X6_init_90 : decode (bc mX6_init) 90 = .ok (.newarray .int, 2) := by decide +kernel
theorem d_X6_init_92 : decode (bc mX6_init) 92 = .ok (.putfield 41, 3) := by decide +kernel
theorem d_X6_init_95 : decode (bc mX6_init) 95 = .ok (.aload_n 0, 1) := by decide +kernel
theorem d_X6_init_96 : decode (bc mX6_init) 96 = .ok (.bipush 6, 2) := by decide +kernel
theorem d_X6_init_98 : decode (bc mX6_init) 98 = .ok (.newarray .int, 2) := by decide +kernel
theorem d_X6_init_100 : decode (bc mX6_init) 100 = .ok (.putfield 44, 3) := by decide +kernel
theorem d_X6_init_103 : decode (bc mX6_init) 103 = .ok (.aload_n 0, 1) := by decide +kernel
theorem d_X6_init_104 : decode (bc mX6_init) 104 = .ok (.bipush 6, 2) := by decide +kernel
theorem d_X6_init_106 : decode (bc mX6_init) 106 = .ok (.newarray .int, 2) := by decide +kernel
theorem d_X6_init_108 : decode (bc mX6_init) 108 = .ok (.putfield 47, 3) := by decide +kernel
theorem d_X6_init_111 : decode (bc mX6_init) 111 = .ok (.aload_n 0, 1) := by decide +kernel
theorem d_X6_init_112 : decode (bc mX6_init) 112 = .ok (.bipush 96, 2) := by decide +kernel
theorem d_X6_init_114 : decode (bc mX6_init) 114 = .ok (.newarray .int, 2) := by decide +kernel
theorem d_X6_init_116 : decode (bc mX6_init) 116 = .ok (.putfield 50, 3) := by decide +kernel
theorem d_X6_init_119 : decode (bc mX6_init) 119 = .ok (.aload_n 0, 1) := by decide +kernel
theorem d_X6_init_120 : decode (bc mX6_init) 120 = .ok (.bipush 6, 2) := by decide +kernel
theorem d_X6_init_122 : decode (bc mX6_init) 122 = .ok (.newarray .int, 2) := by decide +kernel
theorem d_X6_init_124 : decode (bc mX6_init) 124 = .ok (.putfield 53, 3) := by decide +kernel
theorem d_X6_init_127 : decode (bc mX6_init) 127 = .ok (.aload_n 0, 1) := by decide +kernel
theorem d_X6_init_128 : decode (bc mX6_init) 128 = .ok (.bipush 6, 2) := by decide +kernel
theorem d_X6_init_130 : decode (bc mX6_init) 130 = .ok (.newarray .int, 2) := by decide +kernel
theorem d_X6_init_132 : decode (bc mX6_init) 132 = .ok (.putfield 56, 3) := by decide +kernel
theorem d_X6_init_135 : decode (bc mX6_init) 135 = .ok (.aload_n 0, 1) := by decide +kernel
theorem d_X6_init_136 : decode (bc mX6_init) 136 = .ok (.bipush 6, 2) := by decide +kernel
theorem d_X6_init_138 : decode (bc mX6_init) 138 = .ok (.newarray .int, 2) := by decide +kernel
theorem d_X6_init_140 : decode (bc mX6_init) 140 = .ok (.putfield 59, 3) := by decide +kernel
theorem d_X6_init_143 : decode (bc mX6_init) 143 = .ok (.aload_n 0, 1) := by decide +kernel
theorem d_X6_init_144 : decode (bc mX6_init) 144 = .ok (.bipush 6, 2) := by decide +kernel
theorem d_X6_init_146 : decode (bc mX6_init) 146 = .ok (.newarray .int, 2) := by decide +kernel
theorem d_X6_init_148 : decode (bc mX6_init) 148 = .ok (.putfield 62, 3) := by decide +kernel
theorem d_X6_init_151 : decode (bc mX6_init) 151 = .ok (.aload_n 0, 1) := by decide +kernel
theorem d_X6_init_152 : decode (bc mX6_init) 152 = .ok (.sipush 240, 3) := by decide +kernel
theorem d_X6_init_155 : decode (bc mX6_init) 155 = .ok (.newarray .int, 2) := by decide +kernel
theorem d_X6_init_157 : decode (bc mX6_init) 157 = .ok (.putfield 65, 3) := by decide +kernel
theorem d_X6_init_160 : decode (bc mX6_init) 160 = .ok (.aload_n 0, 1) := by decide +kernel
theorem d_X6_init_161 : decode (bc mX6_init) 161 = .ok (.bipush 6, 2) := by decide +kernel
theorem d_X6_init_163 : decode (bc mX6_init) 163 = .ok (.newarray .int, 2) := by decide +kernel
theorem d_X6_init_165 : decode (bc mX6_init) 165 = .ok (.putfield 68, 3) := by decide +kernel
theorem d_X6_init_168 : decode (bc mX6_init) 168 = .ok (.aload_n 0, 1) := by decide +kernel
theorem d_X6_init_169 : decode (bc mX6_init) 169 = .ok (.bipush 102, 2) := by decide +kernel
theorem d_X6_init_171 : decode (bc mX6_init) 171 = .ok (.newarray .int, 2) := by decide +kernel
theorem d_X6_init_173 : decode (bc mX6_init) 173 = .ok (.putfield 71, 3) := by decide +kernel
theorem d_X6_init_176 : decode (bc mX6_init) 176 = .ok (.aload_n 0, 1) := by decide +kernel
theorem d_X6_init_177 : decode (bc mX6_init) 177 = .ok (.bipush 102, 2) := by decide +kernel
theorem d_X6_init_179 : decode (bc mX6_init) 179 = .ok (.newarray .int, 2) := by decide +kernel
theorem d_X6_init_181 : decode (bc mX6_init) 181 = .ok (.putfield 74, 3) := by decide +kernel
theorem d_X6_init_184 : decode (bc mX6_init) 184 = .ok (.aload_n 0, 1) := by decide +kernel
theorem d_X6_init_185 : decode (bc mX6_init) 185 = .ok (.bipush 6, 2) := by decide +kernel
theorem d_X6_init_187 : decode (bc mX6_init) 187 = .ok (.newarray .int, 2) := by decide +kernel
theorem d_X6_init_189 : decode (bc mX6_init) 189 = .ok (.putfield 77, 3) := by decide +kernel
theorem d_X6_init_192 : decode (bc mX6_init) 192 = .ok (.aload_n 0, 1) := by decide +kernel
theorem d_X6_init_193 : decode (bc mX6_init) 193 = .ok (.bipush 6, 2) := by decide +kernel
theorem d_X6_init_195 : decode (bc mX6_init) 195 = .ok (.newarray .int, 2) := by decide +kernel
theorem d_X6_init_197 : decode (bc mX6_init) 197 = .ok (.putfield 80, 3) := by decide +kernel
theorem d_X6_init_200 : decode (bc mX6_init) 200 = .ok (.aload_n 0, 1) := by decide +kernel
theorem d_X6_init_201 : decode (bc mX6_init) 201 = .ok (.bipush 6, 2) := by decide +kernel
theorem d_X6_init_203 : decode (bc mX6_init) 203 = .ok (.newarray .int, 2) := by decide +kernel
theorem d_X6_init_205 : decode (bc mX6_init) 205 = .ok (.putfield 83, 3) := by decide +kernel
theorem d_X6_init_208 : decode (bc mX6_init) 208 = .ok (.aload_n 0, 1) := by decide +kernel
theorem d_X6_init_209 : decode (bc mX6_init) 209 = .ok (.bipush 6, 2) := by decide +kernel
theorem d_X6_init_211 : decode (bc mX6_init) 211 = .ok (.newarray .int, 2) := by decide +kernel
theorem d_X6_init_213 : decode (bc mX6_init) 213 = .ok (.putfield 86, 3) := by decide +kernel
theorem d_X6_init_216 : decode (bc mX6_init) 216 = .ok (.aload_n 0, 1) := by decide +kernel
theorem d_X6_init_217 : decode (bc mX6_init) 217 = .ok (.getfield 7, 3) := by decide +kernel
theorem d_X6_init_220 : decode (bc mX6_init) 220 = .ok (.iconst 0, 1) := by decide +kernel
theorem d_X6_init_221 : decode (bc mX6_init) 221 = .ok (.bipush 8, 2) := by decide +kernel
theorem d_X6_init_223 : decode (bc mX6_init) 223 = .ok (.iastore, 1) := by decide +kernel
theorem d_X6_init_224 : decode (bc mX6_init) 224 = .ok (.aload_n 0, 1) := by decide +kernel
theorem d_X6_init_225 : decode (bc mX6_init) 225 = .ok (.getfield 7, 3) := by decide +kernel
theorem d_X6_init_228 : decode (bc mX6_init) 228 = .ok (.iconst 1, 1) := by decide +kernel
theorem d_X6_init_229 : decode (bc mX6_init) 229 = .ok (.iconst 1, 1) := by decide +kernel
theorem d_X6_init_230 : decode (bc mX6_init) 230 = .ok (.iastore, 1) := by decide +kernel
theorem d_X6_init_231 : decode (bc mX6_init) 231 = .ok (.return_, 1) := by decide +kernel
theorem d_X6_in_0 : decode (bc mX6_in) 0 = .ok (.lload_n 0, 1) := by decide +kernel
theorem d_X6_in_1 : decode (bc mX6_in) 1 = .ok (.lload_n 2, 1) := by decide +kernel
theorem d_X6_in_2 : decode (bc mX6_in) 2 = .ok (.lcmp, 1) := by decide +kernel
theorem d_X6_in_3 : decode (bc mX6_in) 3 = .ok (.ifCond .lt 14, 3) := by decide +kernel
theorem d_X6_in_6 : decode (bc mX6_in) 6 = .ok (.lload_n 0, 1) := by decide +kernel
theorem d_X6_in_7 : decode (bc mX6_in) 7 = .ok (.lload 4, 2) := by decide +kernel
theorem d_X6_in_9 : decode (bc mX6_in) 9 = .ok (.lcmp, 1) := by decide +kernel
theorem d_X6_in_10 : decode (bc mX6_in) 10 = .ok (.ifCond .gt 7, 3) := by decide +kernel
theorem d_X6_in_13 : decode (bc mX6_in) 13 = .ok (.iconst 1, 1) := by decide +kernel
theorem d_X6_in_14 : decode (bc mX6_in) 14 = .ok (.goto 4, 3) := by decide +kernel
theorem d_X6_in_17 : decode (bc mX6_in) 17 = .ok (.iconst 0, 1) := by decide +kernel
theorem d_X6_in_18 : decode (bc mX6_in) 18 = .ok (.ireturn, 1) := by decide +kernel
theorem d_X6_copyState_0 : decode (bc mX6_copyState) 0 = .ok (.iconst 0, 1) := by decide +kernel
theorem d_X6_copyState_1 : decode (bc mX6_copyState) 1 = .ok (.istore 4, 2) := by decide +kernel
theorem d_X6_copyState_3 : decode (bc mX6_copyState) 3 = .ok (.iload 4, 2) := by decide +kernel
theorem d_X6_copyState_5 : decode (bc mX6_copyState) 5 = .ok (.sipush 1496, 3) := by decide +kernel
theorem d_X6_copyState_8 : decode (bc mX6_copyState) 8 = .ok (.if_icmp .ge 21, 3) := by decide +kernel
theorem d_X6_copyState_11 : decode (bc mX6_copyState) 11 = .ok (.aload_n 2, 1) := by decide +kernel
theorem d_X6_copyState_12 : decode (bc mX6_copyState) 12 = .ok (.iload_n 3, 1) := by decide +kernel
theorem d_X6_copyState_13 : decode (bc mX6_copyState) 13 = .ok (.iload 4, 2) := by decide +kernel
theorem d_X6_copyState_15 : decode (bc mX6_copyState) 15 = .ok (.iadd, 1) := by decide +kernel
theorem d_X6_copyState_16 : decode (bc mX6_copyState) 16 = .ok (.aload_n 0, 1) := by decide +kernel
theorem d_X6_copyState_17 : decode (bc mX6_copyState) 17 = .ok (.iload_n 1, 1) := by decide +kernel
theorem d_X6_copyState_18 : decode (bc mX6_copyState) 18 = .ok (.iload 4, 2) := by decide +kernel
theorem d_X6_copyState_20 : decode (bc mX6_copyState) 20 = .ok (.iadd, 1) := by decide +kernel
theorem d_X6_copyState_21 : decode (bc mX6_copyState) 21 = .ok (.iaload, 1) := by decide +kernel
theorem d_X6_copyState_22 : decode (bc mX6_copyState) 22 = .ok (.iastore, 1) := by decide +kernel
theorem d_X6_copyState_23 : decode (bc mX6_copyState) 23 = .ok (.iinc 4 1, 3) := by decide +kernel
theorem d_X6_copyState_26 : decode (bc mX6_copyState) 26 = .ok (.goto (-23), 3) := by decide +kernel
theorem d_X6_copyState_29 : decode (bc mX6_copyState) 29 = .ok (.return_, 1) := by decide +kernel
theorem d_X6_isShelf_0 : decode (bc mX6_isShelf) 0 = .ok (.iload_n 0, 1) := by decide +kernel
theorem d_X6_isShelf_1 : decode (bc mX6_isShelf) 1 = .ok (.i2l, 1) := by decide +kernel
theorem d_X6_isShelf_2 : decode (bc mX6_isShelf) 2 = .ok (.lconst 0, 1) := by decide +kernel
theorem d_X6_isShelf_3 : decode (bc mX6_isShelf) 3 = .ok (.ldc2_w 89, 3) := by decide +kernel
theorem d_X6_isShelf_6 : decode (bc mX6_isShelf) 6 = .ok (.invokestatic 91, 3) := by decide +kernel
theorem d_X6_isShelf_9 : decode (bc mX6_isShelf) 9 = .ok (.ireturn, 1) := by decide +kernel
theorem d_X6_isLoaf_0 : decode (bc mX6_isLoaf) 0 = .ok (.iload_n 0, 1) := by decide +kernel
theorem d_X6_isLoaf_1 : decode (bc mX6_isLoaf) 1 = .ok (.i2l, 1) := by decide +kernel
theorem d_X6_isLoaf_2 : decode (bc mX6_isLoaf) 2 = .ok (.lconst 0, 1) := by decide +kernel
theorem d_X6_isLoaf_3 : decode (bc mX6_isLoaf) 3 = .ok (.ldc2_w 95, 3) := by decide +kernel
theorem d_X6_isLoaf_6 : decode (bc mX6_isLoaf) 6 = .ok (.invokestatic 91, 3) := by decide +kernel
theorem d_X6_isLoaf_9 : decode (bc mX6_isLoaf) 9 = .ok (.ireturn, 1) := by decide +kernel
theorem d_X6_memoryAt_0 : decode (bc mX6_memoryAt) 0 = .ok (.sipush 816, 3) := by decide +kernel
theorem d_X6_memoryAt_3 : decode (bc mX6_memoryAt) 3 = .ok (.bipush 40, 2) := by decide +kernel
theorem d_X6_memoryAt_5 : decode (bc mX6_memoryAt) 5 = .ok (.iload_n 0, 1) := by decide +kernel
theorem d_X6_memoryAt_6 : decode (bc mX6_memoryAt) 6 = .ok (.imul, 1) := by decide +kernel
theorem d_X6_memoryAt_7 : decode (bc mX6_memoryAt) 7 = .ok (.iadd, 1) := by decide +kernel
theorem d_X6_memoryAt_8 : decode (bc mX6_memoryAt) 8 = .ok (.ireturn, 1) := by decide +kernel
theorem d_X6_valueOfShelf_0 : decode (bc mX6_valueOfShelf) 0 = .ok (.aload_n 0, 1) := by decide +kernel
theorem d_X6_valueOfShelf_1 : decode (bc mX6_valueOfShelf) 1 = .ok (.bipush 14, 2) := by decide +kernel
theorem d_X6_valueOfShelf_3 : decode (bc mX6_valueOfShelf) 3 = .ok (.iload_n 1, 1) := by decide +kernel
theorem d_X6_valueOfShelf_4 : decode (bc mX6_valueOfShelf) 4 = .ok (.iadd, 1) := by decide +kernel
theorem d_X6_valueOfShelf_5 : decode (bc mX6_valueOfShelf) 5 = .ok (.iaload, 1) := by decide +kernel
theorem d_X6_valueOfShelf_6 : decode (bc mX6_valueOfShelf) 6 = .ok (.iconst 1, 1) := by decide +kernel
theorem d_X6_valueOfShelf_7 : decode (bc mX6_valueOfShelf) 7 = .ok (.if_icmp .ne 8, 3) := by decide +kernel
theorem d_X6_valueOfShelf_10 : decode (bc mX6_valueOfShelf) 10 = .ok (.bipush 100, 2) := by decide +kernel
theorem d_X6_valueOfShelf_12 : decode (bc mX6_valueOfShelf) 12 = .ok (.goto 8, 3) := by decide +kernel
theorem d_X6_valueOfShelf_15 : decode (bc mX6_valueOfShelf) 15 = .ok (.aload_n 0, 1) := by decide +kernel
theorem d_X6_valueOfShelf_16 : decode (bc mX6_valueOfShelf) 16 = .ok (.iconst 2, 1) := by decide +kernel
theorem d_X6_valueOfShelf_17 : decode (bc mX6_valueOfShelf) 17 = .ok (.iload_n 1, 1) := by decide +kernel
theorem d_X6_valueOfShelf_18 : decode (bc mX6_valueOfShelf) 18 = .ok (.iadd, 1) := by decide +kernel
theorem d_X6_valueOfShelf_19 : decode (bc mX6_valueOfShelf) 19 = .ok (.iaload, 1) := by decide +kernel
theorem d_X6_valueOfShelf_20 : decode (bc mX6_valueOfShelf) 20 = .ok (.ireturn, 1) := by decide +kernel
theorem d_X6_sign_0 : decode (bc mX6_sign) 0 = .ok (.aload_n 0, 1) := by decide +kernel
theorem d_X6_sign_1 : decode (bc mX6_sign) 1 = .ok (.getfield 97, 3) := by decide +kernel
theorem d_X6_sign_4 : decode (bc mX6_sign) 4 = .ok (.aload_n 0, 1) := by decide +kernel
theorem d_X6_sign_5 : decode (bc mX6_sign) 5 = .ok (.getfield 101, 3) := by decide +kernel
theorem d_X6_sign_8 : decode (bc mX6_sign) 8 = .ok (.if_icmp .ge 15, 3) := by decide +kernel
theorem d_X6_sign_11 : decode (bc mX6_sign) 11 = .ok (.aload_n 0, 1) := by decide +kernel
theorem d_X6_sign_12 : decode (bc mX6_sign) 12 = .ok (.getfield 26, 3) := by decide +kernel
theorem d_X6_sign_15 : decode (bc mX6_sign) 15 = .ok (.aload_n 0, 1) := by decide +kernel
theorem d_X6_sign_16 : decode (bc mX6_sign) 16 = .ok (.getfield 97, 3) := by decide +kernel
theorem d_X6_sign_19 : decode (bc mX6_sign) 19 = .ok (.iaload, 1) := by decide +kernel
theorem d_X6_sign_20 : decode (bc mX6_sign) 20 = .ok (.goto 5, 3) := by decide +kernel
theorem d_X6_sign_23 : decode (bc mX6_sign) 23 = .ok (.bipush (-6), 2) := by decide +kernel
theorem d_X6_sign_25 : decode (bc mX6_sign) 25 = .ok (.ireturn, 1) := by decide +kernel
theorem d_X6_lay_0 : decode (bc mX6_lay) 0 = .ok (.aload_n 0, 1) := by decide +kernel
theorem d_X6_lay_1 : decode (bc mX6_lay) 1 = .ok (.getfield 29, 3) := by decide +kernel
theorem d_X6_lay_4 : decode (bc mX6_lay) 4 = .ok (.aload_n 0, 1) := by decide +kernel
theorem d_X6_lay_5 : decode (bc mX6_lay) 5 = .ok (.getfield 104, 3) := by decide +kernel
theorem d_X6_lay_8 : decode (bc mX6_lay) 8 = .ok (.iload_n 1, 1) := by decide +kernel
theorem d_X6_lay_9 : decode (bc mX6_lay) 9 = .ok (.iastore, 1) := by decide +kernel
theorem d_X6_lay_10 : decode (bc mX6_lay) 10 = .ok (.aload_n 0, 1) := by decide +kernel
theorem d_X6_lay_11 : decode (bc mX6_lay) 11 = .ok (.getfield 32, 3) := by decide +kernel
theorem d_X6_lay_14 : decode (bc mX6_lay) 14 = .ok (.aload_n 0, 1) := by decide +kernel
theorem d_X6_lay_15 : decode (bc mX6_lay) 15 = .ok (.getfield 104, 3) := by decide +kernel
theorem d_X6_lay_18 : decode (bc mX6_lay) 18 = .ok (.iload_n 2, 1) := by decide +kernel
theorem d_X6_lay_19 : decode (bc mX6_lay) 19 = .ok (.iastore, 1) := by decide +kernel
theorem d_X6_lay_20 : decode (bc mX6_lay) 20 = .ok (.aload_n 0, 1) := by decide +kernel
theorem d_X6_lay_21 : decode (bc mX6_lay) 21 = .ok (.dup, 1) := by decide +kernel
theorem d_X6_lay_22 : decode (bc mX6_lay) 22 = .ok (.getfield 104, 3) := by decide +kernel
theorem d_X6_lay_25 : decode (bc mX6_lay) 25 = .ok (.iconst 1, 1) := by decide +kernel
theorem d_X6_lay_26 : decode (bc mX6_lay) 26 = .ok (.iadd, 1) := by decide +kernel
theorem d_X6_lay_27 : decode (bc mX6_lay) 27 = .ok (.putfield 104, 3) := by decide +kernel
theorem d_X6_lay_30 : decode (bc mX6_lay) 30 = .ok (.return_, 1) := by decide +kernel
theorem d_X6_expect_0 : decode (bc mX6_expect) 0 = .ok (.aload_n 0, 1) := by decide +kernel
theorem d_X6_expect_1 : decode (bc mX6_expect) 1 = .ok (.getfield 35, 3) := by decide +kernel
theorem d_X6_expect_4 : decode (bc mX6_expect) 4 = .ok (.aload_n 0, 1) := by decide +kernel
theorem d_X6_expect_5 : decode (bc mX6_expect) 5 = .ok (.getfield 107, 3) := by decide +kernel
theorem d_X6_expect_8 : decode (bc mX6_expect) 8 = .ok (.iload_n 1, 1) := by decide +kernel
theorem d_X6_expect_9 : decode (bc mX6_expect) 9 = .ok (.iastore, 1) := by decide +kernel
theorem d_X6_expect_10 : decode (bc mX6_expect) 10 = .ok (.aload_n 0, 1) := by decide +kernel
theorem d_X6_expect_11 : decode (bc mX6_expect) 11 = .ok (.getfield 38, 3) := by decide +kernel
theorem d_X6_expect_14 : decode (bc mX6_expect) 14 = .ok (.aload_n 0, 1) := by decide +kernel
theorem d_X6_expect_15 : decode (bc mX6_expect) 15 = .ok (.getfield 107, 3) := by decide +kernel
theorem d_X6_expect_18 : decode (bc mX6_expect) 18 = .ok (.iload_n 2, 1) := by decide +kernel
theorem d_X6_expect_19 : decode (bc mX6_expect) 19 = .ok (.iastore, 1) := by decide +kernel
theorem d_X6_expect_20 : decode (bc mX6_expect) 20 = .ok (.aload_n 0, 1) := by decide +kernel
theorem d_X6_expect_21 : decode (bc mX6_expect) 21 = .ok (.dup, 1) := by decide +kernel
theorem d_X6_expect_22 : decode (bc mX6_expect) 22 = .ok (.getfield 107, 3) := by decide +kernel
theorem d_X6_expect_25 : decode (bc mX6_expect) 25 = .ok (.iconst 1, 1) := by decide +kernel
theorem d_X6_expect_26 : decode (bc mX6_expect) 26 = .ok (.iadd, 1) := by decide +kernel
theorem d_X6_expect_27 : decode (bc mX6_expect) 27 = .ok (.putfield 107, 3) := by decide +kernel
theorem d_X6_expect_30 : decode (bc mX6_expect) 30 = .ok (.return_, 1) := by decide +kernel
theorem d_X6_readSimple_0 : decode (bc mX6_readSimple) 0 = .ok (.aload_n 0, 1) := by decide +kernel
theorem d_X6_readSimple_1 : decode (bc mX6_readSimple) 1 = .ok (.invokevirtual 110, 3) := by decide +kernel
theorem d_X6_readSimple_4 : decode (bc mX6_readSimple) 4 = .ok (.bipush 40, 2) := by decide +kernel
theorem d_X6_readSimple_6 : decode (bc mX6_readSimple) 6 = .ok (.if_icmp .eq 12, 3) := by decide +kernel
theorem d_X6_readSimple_9 : decode (bc mX6_readSimple) 9 = .ok (.aload_n 0, 1) := by decide +kernel
theorem d_X6_readSimple_10 : decode (bc mX6_readSimple) 10 = .ok (.invokevirtual 110, 3) := by decide +kernel
theorem d_X6_readSimple_13 : decode (bc mX6_readSimple) 13 = .ok (.bipush 123, 2) := by decide +kernel
theorem d_X6_readSimple_15 : decode (bc mX6_readSimple) 15 = .ok (.if_icmp .ne 37, 3) := by decide +kernel
theorem d_X6_readSimple_18 : decode (bc mX6_readSimple) 18 = .ok (.aload_n 0, 1) := by decide +kernel
theorem d_X6_readSimple_19 : decode (bc mX6_readSimple) 19 = .ok (.aload_n 0, 1) := by decide +kernel
theorem d_X6_readSimple_20 : decode (bc mX6_readSimple) 20 = .ok (.invokevirtual 110, 3) := by decide +kernel
theorem d_X6_readSimple_23 : decode (bc mX6_readSimple) 23 = .ok (.bipush 40, 2) := by decide +kernel
theorem d_X6_readSimple_25 : decode (bc mX6_readSimple) 25 = .ok (.if_icmp .ne 8, 3) := by decide +kernel
theorem d_X6_readSimple_28 : decode (bc mX6_readSimple) 28 = .ok (.bipush 43, 2) := by decide +kernel
theorem d_X6_readSimple_30 : decode (bc mX6_readSimple) 30 = .ok (.goto 5, 3) := by decide +kernel
theorem d_X6_readSimple_33 : decode (bc mX6_readSimple) 33 = .ok (.bipush 63, 2) := by decide +kernel
theorem d_X6_readSimple_35 : decode (bc mX6_readSimple) 35 = .ok (.iconst 0, 1) := by decide +kernel
theorem d_X6_readSimple_36 : decode (bc mX6_readSimple) 36 = .ok (.invokevirtual 114, 3) := by decide +kernel
theorem d_X6_readSimple_39 : decode (bc mX6_readSimple) 39 = .ok (.aload_n 0, 1) := by decide +kernel
theorem d_X6_readSimple_40 : decode (bc mX6_readSimple) 40 = .ok (.dup, 1) := by decide +kernel
theorem d_X6_readSimple_41 : decode (bc mX6_readSimple) 41 = .ok (.getfield 97, 3) := by decide +kernel
theorem d_X6_readSimple_44 : decode (bc mX6_readSimple) 44 = .ok (.iconst 1, 1) := by decide +kernel
theorem d_X6_readSimple_45 : decode (bc mX6_readSimple) 45 = .ok (.iadd, 1) := by decide +kernel
theorem d_X6_readSimple_46 : decode (bc mX6_readSimple) 46 = .ok (.putfield 97, 3) := by decide +kernel
theorem d_X6_readSimple_49 : decode (bc mX6_readSimple) 49 = .ok (.goto (-49), 3) := by decide +kernel
theorem d_X6_readSimple_52 : decode (bc mX6_readSimple) 52 = .ok (.aload_n 0, 1) := by decide +kernel
theorem d_X6_readSimple_53 : decode (bc mX6_readSimple) 53 = .ok (.invokevirtual 110, 3) := by decide +kernel
theorem d_X6_readSimple_56 : decode (bc mX6_readSimple) 56 = .ok (.istore_n 1, 1) := by decide +kernel
theorem d_X6_readSimple_57 : decode (bc mX6_readSimple) 57 = .ok (.iload_n 1, 1) := by decide +kernel
theorem d_X6_readSimple_58 : decode (bc mX6_readSimple) 58 = .ok (.i2l, 1) := by decide +kernel
theorem d_X6_readSimple_59 : decode (bc mX6_readSimple) 59 = .ok (.ldc2_w 118, 3) := by decide +kernel
theorem d_X6_readSimple_62 : decode (bc mX6_readSimple) 62 = .ok (.ldc2_w 120, 3) := by decide +kernel
theorem d_X6_readSimple_65 : decode (bc mX6_readSimple) 65 = .ok (.invokestatic 91, 3) := by decide +kernel
theorem d_X6_readSimple_68 : decode (bc mX6_readSimple) 68 = .ok (.ifCond .eq 24, 3) := by decide +kernel
theorem d_X6_readSimple_71 : decode (bc mX6_readSimple) 71 = .ok (.aload_n 0, 1) := by decide +kernel
theorem d_X6_readSimple_72 : decode (bc mX6_readSimple) 72 = .ok (.iconst 0, 1) := by decide +kernel
theorem d_X6_readSimple_73 : decode (bc mX6_readSimple) 73 = .ok (.iload_n 1, 1) := by decide +kernel
theorem d_X6_readSimple_74 : decode (bc mX6_readSimple) 74 = .ok (.bipush 97, 2) := by decide +kernel
theorem d_X6_readSimple_76 : decode (bc mX6_readSimple) 76 = .ok (.isub, 1) := by decide +kernel
theorem d_X6_readSimple_77 : decode (bc mX6_readSimple) 77 = .ok (.invokevirtual 122, 3) := by decide +kernel
theorem d_X6_readSimple_80 : decode (bc mX6_readSimple) 80 = .ok (.aload_n 0, 1) := by decide +kernel
theorem d_X6_readSimple_81 : decode (bc mX6_readSimple) 81 = .ok (.dup, 1) := by decide +kernel
theorem d_X6_readSimple_82 : decode (bc mX6_readSimple) 82 = .ok (.getfield 97, 3) := by decide +kernel
theorem d_X6_readSimple_85 : decode (bc mX6_readSimple) 85 = .ok (.iconst 1, 1) := by decide +kernel
theorem d_X6_readSimple_86 : decode (bc mX6_readSimple) 86 = .ok (.iadd, 1) := by decide +kernel
theorem d_X6_readSimple_87 : decode (bc mX6_readSimple) 87 = .ok (.putfield 97, 3) := by decide +kernel
theorem d_X6_readSimple_90 : decode (bc mX6_readSimple) 90 = .ok (.iconst 1, 1) := by decide +kernel
theorem d_X6_readSimple_91 : decode (bc mX6_readSimple) 91 = .ok (.ireturn, 1) := by decide +kernel
theorem d_X6_readSimple_92 : decode (bc mX6_readSimple) 92 = .ok (.iload_n 1, 1) := by decide +kernel
theorem d_X6_readSimple_93 : decode (bc mX6_readSimple) 93 = .ok (.bipush 35, 2) := by decide +kernel
theorem d_X6_readSimple_95 : decode (bc mX6_readSimple) 95 = .ok (.if_icmp .ne 56, 3) := by decide +kernel
theorem d_X6_readSimple_98 : decode (bc mX6_readSimple) 98 = .ok (.aload_n 0, 1) := by decide +kernel
theorem d_X6_readSimple_99 : decode (bc mX6_readSimple) 99 = .ok (.dup, 1) := by decide +kernel
theorem d_X6_readSimple_100 : decode (bc mX6_readSimple) 100 = .ok (.getfield 97, 3) := by decide +kernel
theorem d_X6_readSimple_103 : decode (bc mX6_readSimple) 103 = .ok (.iconst 1, 1) := by decide +kernel
theorem d_X6_readSimple_104 : decode (bc mX6_readSimple) 104 = .ok (.iadd, 1) := by decide +kernel
theorem d_X6_readSimple_105 : decode (bc mX6_readSimple) 105 = .ok (.putfield 97, 3) := by decide +kernel
theorem d_X6_readSimple_108 : decode (bc mX6_readSimple) 108 = .ok (.aload_n 0, 1) := by decide +kernel
theorem d_X6_readSimple_109 : decode (bc mX6_readSimple) 109 = .ok (.invokevirtual 110, 3) := by decide +kernel
theorem d_X6_readSimple_112 : decode (bc mX6_readSimple) 112 = .ok (.i2l, 1) := by decide +kernel
theorem d_X6_readSimple_113 : decode (bc mX6_readSimple) 113 = .ok (.ldc2_w 125, 3) := by decide +kernel
theorem d_X6_readSimple_116 : decode (bc mX6_readSimple) 116 = .ok (.ldc2_w 127, 3) := by decide +kernel
theorem d_X6_readSimple_119 : decode (bc mX6_readSimple) 119 = .ok (.invokestatic 91, 3) := by decide +kernel
theorem d_X6_readSimple_122 : decode (bc mX6_readSimple) 122 = .ok (.ifCond .ne 5, 3) := by decide +kernel
theorem d_X6_readSimple_125 : decode (bc mX6_readSimple) 125 = .ok (.iconst 0, 1) := by decide +kernel
theorem d_X6_readSimple_126 : decode (bc mX6_readSimple) 126 = .ok (.ireturn, 1) := by decide +kernel
theorem d_X6_readSimple_127 : decode (bc mX6_readSimple) 127 = .ok (.aload_n 0, 1) := by decide +kernel
theorem d_X6_readSimple_128 : decode (bc mX6_readSimple) 128 = .ok (.iconst 1, 1) := by decide +kernel
theorem d_X6_readSimple_129 : decode (bc mX6_readSimple) 129 = .ok (.aload_n 0, 1) := by decide +kernel
theorem d_X6_readSimple_130 : decode (bc mX6_readSimple) 130 = .ok (.invokevirtual 110, 3) := by decide +kernel
theorem d_X6_readSimple_133 : decode (bc mX6_readSimple) 133 = .ok (.bipush 48, 2) := by decide +kernel
theorem d_X6_readSimple_135 : decode (bc mX6_readSimple) 135 = .ok (.isub, 1) := by decide +kernel
theorem d_X6_readSimple_136 : decode (bc mX6_readSimple) 136 = .ok (.invokevirtual 122, 3) := by decide +kernel
theorem d_X6_readSimple_139 : decode (bc mX6_readSimple) 139 = .ok (.aload_n 0, 1) := by decide +kernel
theorem d_X6_readSimple_140 : decode (bc mX6_readSimple) 140 = .ok (.dup, 1) := by decide +kernel
theorem d_X6_readSimple_141 : decode (bc mX6_readSimple) 141 = .ok (.getfield 97, 3) := by decide +kernel
theorem d_X6_readSimple_144 : decode (bc mX6_readSimple) 144 = .ok (.iconst 1, 1) := by decide +kernel
theorem d_X6_readSimple_145 : decode (bc mX6_readSimple) 145 = .ok (.iadd, 1) := by decide +kernel
theorem d_X6_readSimple_146 : decode (bc mX6_readSimple) 146 = .ok (.putfield 97, 3) := by decide +kernel
theorem d_X6_readSimple_149 : decode (bc mX6_readSimple) 149 = .ok (.iconst 1, 1) := by decide +kernel
theorem d_X6_readSimple_150 : decode (bc mX6_readSimple) 150 = .ok (.ireturn, 1) := by decide +kernel
theorem d_X6_readSimple_151 : decode (bc mX6_readSimple) 151 = .ok (.iload_n 1, 1) := by decide +kernel
theorem d_X6_readSimple_152 : decode (bc mX6_readSimple) 152 = .ok (.i2l, 1) := by decide +kernel
theorem d_X6_readSimple_153 : decode (bc mX6_readSimple) 153 = .ok (.ldc2_w 125, 3) := by decide +kernel
theorem d_X6_readSimple_156 : decode (bc mX6_readSimple) 156 = .ok (.ldc2_w 129, 3) := by decide +kernel
theorem d_X6_readSimple_159 : decode (bc mX6_readSimple) 159 = .ok (.invokestatic 91, 3) := by decide +kernel
theorem d_X6_readSimple_162 : decode (bc mX6_readSimple) 162 = .ok (.ifCond .ne 5, 3) := by decide +kernel
theorem d_X6_readSimple_165 : decode (bc mX6_readSimple) 165 = .ok (.iconst 0, 1) := by decide +kernel
theorem d_X6_readSimple_166 : decode (bc mX6_readSimple) 166 = .ok (.ireturn, 1) := by decide +kernel
theorem d_X6_readSimple_167 : decode (bc mX6_readSimple) 167 = .ok (.iload_n 1, 1) := by decide +kernel
theorem d_X6_readSimple_168 : decode (bc mX6_readSimple) 168 = .ok (.bipush 48, 2) := by decide +kernel
theorem d_X6_readSimple_170 : decode (bc mX6_readSimple) 170 = .ok (.isub, 1) := by decide +kernel
theorem d_X6_readSimple_171 : decode (bc mX6_readSimple) 171 = .ok (.istore_n 2, 1) := by decide +kernel
theorem d_X6_readSimple_172 : decode (bc mX6_readSimple) 172 = .ok (.aload_n 0, 1) := by decide +kernel
theorem d_X6_readSimple_173 : decode (bc mX6_readSimple) 173 = .ok (.dup, 1) := by decide +kernel
theorem d_X6_readSimple_174 : decode (bc mX6_readSimple) 174 = .ok (.getfield 97, 3) := by decide +kernel
theorem d_X6_readSimple_177 : decode (bc mX6_readSimple) 177 = .ok (.iconst 1, 1) := by decide +kernel
theorem d_X6_readSimple_178 : decode (bc mX6_readSimple) 178 = .ok (.iadd, 1) := by decide +kernel
theorem d_X6_readSimple_179 : decode (bc mX6_readSimple) 179 = .ok (.putfield 97, 3) := by decide +kernel
theorem d_X6_readSimple_182 : decode (bc mX6_readSimple) 182 = .ok (.iload_n 2, 1) := by decide +kernel
theorem d_X6_readSimple_183 : decode (bc mX6_readSimple) 183 = .ok (.ifCond .le 43, 3) := by decide +kernel
theorem d_X6_readSimple_186 : decode (bc mX6_readSimple) 186 = .ok (.aload_n 0, 1) := by decide +kernel
theorem d_X6_readSimple_187 : decode (bc mX6_readSimple) 187 = .ok (.invokevirtual 110, 3) := by decide +kernel
theorem d_X6_readSimple_190 : decode (bc mX6_readSimple) 190 = .ok (.i2l, 1) := by decide +kernel
theorem d_X6_readSimple_191 : decode (bc mX6_readSimple) 191 = .ok (.ldc2_w 125, 3) := by decide +kernel
theorem d_X6_readSimple_194 : decode (bc mX6_readSimple) 194 = .ok (.ldc2_w 129, 3) := by decide +kernel
theorem d_X6_readSimple_197 : decode (bc mX6_readSimple) 197 = .ok (.invokestatic 91, 3) := by decide +kernel
theorem d_X6_readSimple_200 : decode (bc mX6_readSimple) 200 = .ok (.ifCond .eq 26, 3) := by decide +kernel
theorem d_X6_readSimple_203 : decode (bc mX6_readSimple) 203 = .ok (.bipush 10, 2) := by decide +kernel
theorem d_X6_readSimple_205 : decode (bc mX6_readSimple) 205 = .ok (.iload_n 2, 1) := by decide +kernel
theorem d_X6_readSimple_206 : decode (bc mX6_readSimple) 206 = .ok (.imul, 1) := by decide +kernel
theorem d_X6_readSimple_207 : decode (bc mX6_readSimple) 207 = .ok (.aload_n 0, 1) := by decide +kernel
theorem d_X6_readSimple_208 : decode (bc mX6_readSimple) 208 = .ok (.invokevirtual 110, 3) := by decide +kernel
theorem d_X6_readSimple_211 : decode (bc mX6_readSimple) 211 = .ok (.iadd, 1) := by decide +kernel
theorem d_X6_readSimple_212 : decode (bc mX6_readSimple) 212 = .ok (.bipush 48, 2) := by decide +kernel
theorem d_X6_readSimple_214 : decode (bc mX6_readSimple) 214 = .ok (.isub, 1) := by decide +kernel
theorem d_X6_readSimple_215 : decode (bc mX6_readSimple) 215 = .ok (.istore_n 2, 1) := by decide +kernel
theorem d_X6_readSimple_216 : decode (bc mX6_readSimple) 216 = .ok (.aload_n 0, 1) := by decide +kernel
theorem d_X6_readSimple_217 : decode (bc mX6_readSimple) 217 = .ok (.dup, 1) := by decide +kernel
theorem d_X6_readSimple_218 : decode (bc mX6_readSimple) 218 = .ok (.getfield 97, 3) := by decide +kernel
theorem d_X6_readSimple_221 : decode (bc mX6_readSimple) 221 = .ok (.iconst 1, 1) := by decide +kernel
theorem d_X6_readSimple_222 : decode (bc mX6_readSimple) 222 = .ok (.iadd, 1) := by decide +kernel
theorem d_X6_readSimple_223 : decode (bc mX6_readSimple) 223 = .ok (.putfield 97, 3) := by decide +kernel
theorem d_X6_readSimple_226 : decode (bc mX6_readSimple) 226 = .ok (.aload_n 0, 1) := by decide +kernel
theorem d_X6_readSimple_227 : decode (bc mX6_readSimple) 227 = .ok (.iconst 2, 1) := by decide +kernel
theorem d_X6_readSimple_228 : decode (bc mX6_readSimple) 228 = .ok (.iload_n 2, 1) := by decide +kernel
theorem d_X6_readSimple_229 : decode (bc mX6_readSimple) 229 = .ok (.invokevirtual 122, 3) := by decide +kernel
theorem d_X6_readSimple_232 : decode (bc mX6_readSimple) 232 = .ok (.iconst 1, 1) := by decide +kernel
theorem d_X6_readSimple_233 : decode (bc mX6_readSimple) 233 = .ok (.ireturn, 1) := by decide +kernel
theorem d_X6_goOut_0 : decode (bc mX6_goOut) 0 = .ok (.aload_n 0, 1) := by decide +kernel
theorem d_X6_goOut_1 : decode (bc mX6_goOut) 1 = .ok (.getfield 107, 3) := by decide +kernel
theorem d_X6_goOut_4 : decode (bc mX6_goOut) 4 = .ok (.ifCond .le 266, 3) := by decide +kernel
theorem d_X6_goOut_7 : decode (bc mX6_goOut) 7 = .ok (.aload_n 0, 1) := by decide +kernel
theorem d_X6_goOut_8 : decode (bc mX6_goOut) 8 = .ok (.invokevirtual 110, 3) := by decide +kernel
theorem d_X6_goOut_11 : decode (bc mX6_goOut) 11 = .ok (.istore_n 1, 1) := by decide +kernel
theorem d_X6_goOut_12 : decode (bc mX6_goOut) 12 = .ok (.aload_n 0, 1) := by decide +kernel
theorem d_X6_goOut_13 : decode (bc mX6_goOut) 13 = .ok (.getfield 35, 3) := by decide +kernel
theorem d_X6_goOut_16 : decode (bc mX6_goOut) 16 = .ok (.aload_n 0, 1) := by decide +kernel
theorem d_X6_goOut_17 : decode (bc mX6_goOut) 17 = .ok (.getfield 107, 3) := by decide +kernel
theorem d_X6_goOut_20 : decode (bc mX6_goOut) 20 = .ok (.iconst 1, 1) := by decide +kernel
theorem d_X6_goOut_21 : decode (bc mX6_goOut) 21 = .ok (.isub, 1) := by decide +kernel
theorem d_X6_goOut_22 : decode (bc mX6_goOut) 22 = .ok (.iaload, 1) := by decide +kernel
theorem d_X6_goOut_23 : decode (bc mX6_goOut) 23 = .ok (.istore_n 2, 1) := by decide +kernel
theorem d_X6_goOut_24 : decode (bc mX6_goOut) 24 = .ok (.aload_n 0, 1) := by decide +kernel
theorem d_X6_goOut_25 : decode (bc mX6_goOut) 25 = .ok (.getfield 38, 3) := by decide +kernel
theorem d_X6_goOut_28 : decode (bc mX6_goOut) 28 = .ok (.aload_n 0, 1) := by decide +kernel
theorem d_X6_goOut_29 : decode (bc mX6_goOut) 29 = .ok (.getfield 107, 3) := by decide +kernel
theorem d_X6_goOut_32 : decode (bc mX6_goOut) 32 = .ok (.iconst 1, 1) := by decide +kernel
theorem d_X6_goOut_33 : decode (bc mX6_goOut) 33 = .ok (.isub, 1) := by decide +kernel
theorem d_X6_goOut_34 : decode (bc mX6_goOut) 34 = .ok (.iaload, 1) := by decide +kernel
theorem d_X6_goOut_35 : decode (bc mX6_goOut) 35 = .ok (.istore_n 3, 1) := by decide +kernel
theorem d_X6_goOut_36 : decode (bc mX6_goOut) 36 = .ok (.iload_n 2, 1) := by decide +kernel
theorem d_X6_goOut_37 : decode (bc mX6_goOut) 37 = .ok (.bipush 43, 2) := by decide +kernel
theorem d_X6_goOut_39 : decode (bc mX6_goOut) 39 = .ok (.if_icmp .ne 80, 3) := by decide +kernel
theorem d_X6_goOut_42 : decode (bc mX6_goOut) 42 = .ok (.iload_n 1, 1) := by decide +kernel
theorem d_X6_goOut_43 : decode (bc mX6_goOut) 43 = .ok (.bipush 43, 2) := by decide +kernel
theorem d_X6_goOut_45 : decode (bc mX6_goOut) 45 = .ok (.if_icmp .eq 17, 3) := by decide +kernel
theorem d_X6_goOut_48 : decode (bc mX6_goOut) 48 = .ok (.iload_n 1, 1) := by decide +kernel
theorem d_X6_goOut_49 : decode (bc mX6_goOut) 49 = .ok (.bipush 45, 2) := by decide +kernel
theorem d_X6_goOut_51 : decode (bc mX6_goOut) 51 = .ok (.if_icmp .eq 11, 3) := by decide +kernel
theorem d_X6_goOut_54 : decode (bc mX6_goOut) 54 = .ok (.iload_n 1, 1) := by decide +kernel
theorem d_X6_goOut_55 : decode (bc mX6_goOut) 55 = .ok (.bipush 42, 2) := by decide +kernel
theorem d_X6_goOut_57 : decode (bc mX6_goOut) 57 = .ok (.if_icmp .eq 5, 3) := by decide +kernel
theorem d_X6_goOut_60 : decode (bc mX6_goOut) 60 = .ok (.iconst 0, 1) := by decide +kernel
theorem d_X6_goOut_61 : decode (bc mX6_goOut) 61 = .ok (.ireturn, 1) := by decide +kernel
theorem d_X6_goOut_62 : decode (bc mX6_goOut) 62 = .ok (.aload_n 0, 1) := by decide +kernel
theorem d_X6_goOut_63 : decode (bc mX6_goOut) 63 = .ok (.dup, 1) := by decide +kernel
theorem d_X6_goOut_64 : decode (bc mX6_goOut) 64 = .ok (.getfield 97, 3) := by decide +kernel
theorem d_X6_goOut_67 : decode (bc mX6_goOut) 67 = .ok (.iconst 1, 1) := by decide +kernel
theorem d_X6_goOut_68 : decode (bc mX6_goOut) 68 = .ok (.iadd, 1) := by decide +kernel
theorem d_X6_goOut_69 : decode (bc mX6_goOut) 69 = .ok (.putfield 97, 3) := by decide +kernel
theorem d_X6_goOut_72 : decode (bc mX6_goOut) 72 = .ok (.aload_n 0, 1) := by decide +kernel
theorem d_X6_goOut_73 : decode (bc mX6_goOut) 73 = .ok (.getfield 35, 3) := by decide +kernel
theorem d_X6_goOut_76 : decode (bc mX6_goOut) 76 = .ok (.aload_n 0, 1) := by decide +kernel
theorem d_X6_goOut_77 : decode (bc mX6_goOut) 77 = .ok (.getfield 107, 3) := by decide +kernel
theorem d_X6_goOut_80 : decode (bc mX6_goOut) 80 = .ok (.iconst 1, 1) := by decide +kernel
theorem d_X6_goOut_81 : decode (bc mX6_goOut) 81 = .ok (.isub, 1) := by decide +kernel
theorem d_X6_goOut_82 : decode (bc mX6_goOut) 82 = .ok (.bipush 41, 2) := by decide +kernel
theorem d_X6_goOut_84 : decode (bc mX6_goOut) 84 = .ok (.iastore, 1) := by decide +kernel
theorem d_X6_goOut_85 : decode (bc mX6_goOut) 85 = .ok (.aload_n 0, 1) := by decide +kernel
theorem d_X6_goOut_86 : decode (bc mX6_goOut) 86 = .ok (.getfield 38, 3) := by decide +kernel
theorem d_X6_goOut_89 : decode (bc mX6_goOut) 89 = .ok (.aload_n 0, 1) := by decide +kernel
theorem d_X6_goOut_90 : decode (bc mX6_goOut) 90 = .ok (.getfield 107, 3) := by decide +kernel
theorem d_X6_goOut_93 : decode (bc mX6_goOut) 93 = .ok (.iconst 1, 1) := by decide +kernel
theorem d_X6_goOut_94 : decode (bc mX6_goOut) 94 = .ok (.isub, 1) := by decide +kernel
theorem d_X6_goOut_95 : decode (bc mX6_goOut) 95 = .ok (.iload_n 1, 1) := by decide +kernel
theorem d_X6_goOut_96 : decode (bc mX6_goOut) 96 = .ok (.bipush 43, 2) := by decide +kernel
theorem d_X6_goOut_98 : decode (bc mX6_goOut) 98 = .ok (.if_icmp .ne 7, 3) := by decide +kernel
theorem d_X6_goOut_101 : decode (bc mX6_goOut) 101 = .ok (.iconst 3, 1) := by decide +kernel
theorem d_X6_goOut_102 : decode (bc mX6_goOut) 102 = .ok (.goto 14, 3) := by decide +kernel
theorem d_X6_goOut_105 : decode (bc mX6_goOut) 105 = .ok (.iload_n 1, 1) := by decide +kernel
theorem d_X6_goOut_106 : decode (bc mX6_goOut) 106 = .ok (.bipush 45, 2) := by decide +kernel
theorem d_X6_goOut_108 : decode (bc mX6_goOut) 108 = .ok (.if_icmp .ne 7, 3) := by decide +kernel
theorem d_X6_goOut_111 : decode (bc mX6_goOut) 111 = .ok (.iconst 4, 1) := by decide +kernel
theorem d_X6_goOut_112 : decode (bc mX6_goOut) 112 = .ok (.goto 4, 3) := by decide +kernel
theorem d_X6_goOut_115 : decode (bc mX6_goOut) 115 = .ok (.iconst 5, 1) := by decide +kernel
theorem d_X6_goOut_116 : decode (bc mX6_goOut) 116 = .ok (.iastore, 1) := by decide +kernel
theorem d_X6_goOut_117 : decode (bc mX6_goOut) 117 = .ok (.iconst 1, 1) := by decide +kernel
theorem d_X6_goOut_118 : decode (bc mX6_goOut) 118 = .ok (.ireturn, 1) := by decide +kernel
theorem d_X6_goOut_119 : decode (bc mX6_goOut) 119 = .ok (.iload_n 1, 1) := by decide +kernel
theorem d_X6_goOut_120 : decode (bc mX6_goOut) 120 = .ok (.iload_n 2, 1) := by decide +kernel
theorem d_X6_goOut_121 : decode (bc mX6_goOut) 121 = .ok (.if_icmp .eq 5, 3) := by decide +kernel
theorem d_X6_goOut_124 : decode (bc mX6_goOut) 124 = .ok (.iconst 0, 1) := by decide +kernel
theorem d_X6_goOut_125 : decode (bc mX6_goOut) 125 = .ok (.ireturn, 1) := by decide +kernel
theorem d_X6_goOut_126 : decode (bc mX6_goOut) 126 = .ok (.aload_n 0, 1) := by decide +kernel
theorem d_X6_goOut_127 : decode (bc mX6_goOut) 127 = .ok (.dup, 1) := by decide +kernel
theorem d_X6_goOut_128 : decode (bc mX6_goOut) 128 = .ok (.getfield 97, 3) := by decide +kernel
theorem d_X6_goOut_131 : decode (bc mX6_goOut) 131 = .ok (.iconst 1, 1) := by decide +kernel
theorem d_X6_goOut_132 : decode (bc mX6_goOut) 132 = .ok (.iadd, 1) := by decide +kernel
theorem d_X6_goOut_133 : decode (bc mX6_goOut) 133 = .ok (.putfield 97, 3) := by decide +kernel
theorem d_X6_goOut_136 : decode (bc mX6_goOut) 136 = .ok (.iload_n 2, 1) := by decide +kernel
theorem d_X6_goOut_137 : decode (bc mX6_goOut) 137 = .ok (.bipush 41, 2) := by decide +kernel
theorem d_X6_goOut_139 : decode (bc mX6_goOut) 139 = .ok (.if_icmp .ne 22, 3) := by decide +kernel
theorem d_X6_goOut_142 : decode (bc mX6_goOut) 142 = .ok (.aload_n 0, 1) := by decide +kernel
theorem d_X6_goOut_143 : decode (bc mX6_goOut) 143 = .ok (.iload_n 3, 1) := by decide +kernel
theorem d_X6_goOut_144 : decode (bc mX6_goOut) 144 = .ok (.iconst 0, 1) := by decide +kernel
theorem d_X6_goOut_145 : decode (bc mX6_goOut) 145 = .ok (.invokevirtual 122, 3) := by decide +kernel
theorem d_X6_goOut_148 : decode (bc mX6_goOut) 148 = .ok (.aload_n 0, 1) := by decide +kernel
theorem d_X6_goOut_149 : decode (bc mX6_goOut) 149 = .ok (.dup, 1) := by decide +kernel
theorem d_X6_goOut_150 : decode (bc mX6_goOut) 150 = .ok (.getfield 107, 3) := by decide +kernel
theorem d_X6_goOut_153 : decode (bc mX6_goOut) 153 = .ok (.iconst 1, 1) := by decide +kernel
theorem d_X6_goOut_154 : decode (bc mX6_goOut) 154 = .ok (.isub, 1) := by decide +kernel
theorem d_X6_goOut_155 : decode (bc mX6_goOut) 155 = .ok (.putfield 107, 3) := by decide +kernel
theorem d_X6_goOut_158 : decode (bc mX6_goOut) 158 = .ok (.goto 109, 3) := by decide +kernel
theorem d_X6_goOut_161 : decode (bc mX6_goOut) 161 = .ok (.iload_n 2, 1) := by decide +kernel
theorem d_X6_goOut_162 : decode (bc mX6_goOut) 162 = .ok (.bipush 125, 2) := by decide +kernel
theorem d_X6_goOut_164 : decode (bc mX6_goOut) 164 = .ok (.if_icmp .ne 26, 3) := by decide +kernel
theorem d_X6_goOut_167 : decode (bc mX6_goOut) 167 = .ok (.aload_n 0, 1) := by decide +kernel
theorem d_X6_goOut_168 : decode (bc mX6_goOut) 168 = .ok (.getfield 32, 3) := by decide +kernel
theorem d_X6_goOut_171 : decode (bc mX6_goOut) 171 = .ok (.iload_n 3, 1) := by decide +kernel
theorem d_X6_goOut_172 : decode (bc mX6_goOut) 172 = .ok (.aload_n 0, 1) := by decide +kernel
theorem d_X6_goOut_173 : decode (bc mX6_goOut) 173 = .ok (.getfield 104, 3) := by decide +kernel
theorem d_X6_goOut_176 : decode (bc mX6_goOut) 176 = .ok (.iastore, 1) := by decide +kernel
theorem d_X6_goOut_177 : decode (bc mX6_goOut) 177 = .ok (.aload_n 0, 1) := by decide +kernel
theorem d_X6_goOut_178 : decode (bc mX6_goOut) 178 = .ok (.dup, 1) := by decide +kernel
theorem d_X6_goOut_179 : decode (bc mX6_goOut) 179 = .ok (.getfield 107, 3) := by decide +kernel
theorem d_X6_goOut_182 : decode (bc mX6_goOut) 182 = .ok (.iconst 1, 1) := by decide +kernel
theorem d_X6_goOut_183 : decode (bc mX6_goOut) 183 = .ok (.isub, 1) := by decide +kernel
theorem d_X6_goOut_184 : decode (bc mX6_goOut) 184 = .ok (.putfield 107, 3) := by decide +kernel
theorem d_X6_goOut_187 : decode (bc mX6_goOut) 187 = .ok (.goto 80, 3) := by decide +kernel
theorem d_X6_goOut_190 : decode (bc mX6_goOut) 190 = .ok (.iload_n 2, 1) := by decide +kernel
theorem d_X6_goOut_191 : decode (bc mX6_goOut) 191 = .ok (.bipush 58, 2) := by decide +kernel
theorem d_X6_goOut_193 : decode (bc mX6_goOut) 193 = .ok (.if_icmp .ne 15, 3) := by decide +kernel
theorem d_X6_goOut_196 : decode (bc mX6_goOut) 196 = .ok (.aload_n 0, 1) := by decide +kernel
theorem d_X6_goOut_197 : decode (bc mX6_goOut) 197 = .ok (.getfield 32, 3) := by decide +kernel
theorem d_X6_goOut_200 : decode (bc mX6_goOut) 200 = .ok (.iload_n 3, 1) := by decide +kernel
theorem d_X6_goOut_201 : decode (bc mX6_goOut) 201 = .ok (.aload_n 0, 1) := by decide +kernel
theorem d_X6_goOut_202 : decode (bc mX6_goOut) 202 = .ok (.getfield 104, 3) := by decide +kernel
theorem d_X6_goOut_205 : decode (bc mX6_goOut) 205 = .ok (.iconst 1, 1) := by decide +kernel
theorem d_X6_goOut_206 : decode (bc mX6_goOut) 206 = .ok (.iadd, 1) := by decide +kernel
theorem d_X6_goOut_207 : decode (bc mX6_goOut) 207 = .ok (.iastore, 1) := by decide +kernel
theorem d_X6_goOut_208 : decode (bc mX6_goOut) 208 = .ok (.aload_n 0, 1) := by decide +kernel
theorem d_X6_goOut_209 : decode (bc mX6_goOut) 209 = .ok (.getfield 35, 3) := by decide +kernel
theorem d_X6_goOut_212 : decode (bc mX6_goOut) 212 = .ok (.aload_n 0, 1) := by decide +kernel
theorem d_X6_goOut_213 : decode (bc mX6_goOut) 213 = .ok (.getfield 107, 3) := by decide +kernel
theorem d_X6_goOut_216 : decode (bc mX6_goOut) 216 = .ok (.iconst 1, 1) := by decide +kernel
theorem d_X6_goOut_217 : decode (bc mX6_goOut) 217 = .ok (.isub, 1) := by decide +kernel
theorem d_X6_goOut_218 : decode (bc mX6_goOut) 218 = .ok (.iload_n 2, 1) := by decide +kernel
theorem d_X6_goOut_219 : decode (bc mX6_goOut) 219 = .ok (.bipush 63, 2) := by decide +kernel
theorem d_X6_goOut_221 : decode (bc mX6_goOut) 221 = .ok (.if_icmp .ne 8, 3) := by decide +kernel
theorem d_X6_goOut_224 : decode (bc mX6_goOut) 224 = .ok (.bipush 58, 2) := by decide +kernel
theorem d_X6_goOut_226 : decode (bc mX6_goOut) 226 = .ok (.goto 5, 3) := by decide +kernel
theorem d_X6_goOut_229 : decode (bc mX6_goOut) 229 = .ok (.bipush 125, 2) := by decide +kernel
theorem d_X6_goOut_231 : decode (bc mX6_goOut) 231 = .ok (.iastore, 1) := by decide +kernel
theorem d_X6_goOut_232 : decode (bc mX6_goOut) 232 = .ok (.aload_n 0, 1) := by decide +kernel
theorem d_X6_goOut_233 : decode (bc mX6_goOut) 233 = .ok (.getfield 38, 3) := by decide +kernel
theorem d_X6_goOut_236 : decode (bc mX6_goOut) 236 = .ok (.aload_n 0, 1) := by decide +kernel
theorem d_X6_goOut_237 : decode (bc mX6_goOut) 237 = .ok (.getfield 107, 3) := by decide +kernel
theorem d_X6_goOut_240 : decode (bc mX6_goOut) 240 = .ok (.iconst 1, 1) := by decide +kernel
theorem d_X6_goOut_241 : decode (bc mX6_goOut) 241 = .ok (.isub, 1) := by decide +kernel
theorem d_X6_goOut_242 : decode (bc mX6_goOut) 242 = .ok (.aload_n 0, 1) := by decide +kernel
theorem d_X6_goOut_243 : decode (bc mX6_goOut) 243 = .ok (.getfield 104, 3) := by decide +kernel
theorem d_X6_goOut_246 : decode (bc mX6_goOut) 246 = .ok (.iastore, 1) := by decide +kernel
theorem d_X6_goOut_247 : decode (bc mX6_goOut) 247 = .ok (.aload_n 0, 1) := by decide +kernel
theorem d_X6_goOut_248 : decode (bc mX6_goOut) 248 = .ok (.iload_n 2, 1) := by decide +kernel
theorem d_X6_goOut_249 : decode (bc mX6_goOut) 249 = .ok (.bipush 63, 2) := by decide +kernel
theorem d_X6_goOut_251 : decode (bc mX6_goOut) 251 = .ok (.if_icmp .ne 8, 3) := by decide +kernel
theorem d_X6_goOut_254 : decode (bc mX6_goOut) 254 = .ok (.bipush 6, 2) := by decide +kernel
theorem d_X6_goOut_256 : decode (bc mX6_goOut) 256 = .ok (.goto 5, 3) := by decide +kernel
theorem d_X6_goOut_259 : decode (bc mX6_goOut) 259 = .ok (.bipush 7, 2) := by decide +kernel
theorem d_X6_goOut_261 : decode (bc mX6_goOut) 261 = .ok (.iconst 0, 1) := by decide +kernel
theorem d_X6_goOut_262 : decode (bc mX6_goOut) 262 = .ok (.invokevirtual 122, 3) := by decide +kernel
theorem d_X6_goOut_265 : decode (bc mX6_goOut) 265 = .ok (.iconst 1, 1) := by decide +kernel
theorem d_X6_goOut_266 : decode (bc mX6_goOut) 266 = .ok (.ireturn, 1) := by decide +kernel
theorem d_X6_goOut_267 : decode (bc mX6_goOut) 267 = .ok (.goto (-267), 3) := by decide +kernel
theorem d_X6_goOut_270 : decode (bc mX6_goOut) 270 = .ok (.iconst 2, 1) := by decide +kernel
theorem d_X6_goOut_271 : decode (bc mX6_goOut) 271 = .ok (.ireturn, 1) := by decide +kernel
theorem d_X6_compile_0 : decode (bc mX6_compile) 0 = .ok (.aload_n 0, 1) := by decide +kernel
theorem d_X6_compile_1 : decode (bc mX6_compile) 1 = .ok (.iconst 0, 1) := by decide +kernel
theorem d_X6_compile_2 : decode (bc mX6_compile) 2 = .ok (.putfield 97, 3) := by decide +kernel
theorem d_X6_compile_5 : decode (bc mX6_compile) 5 = .ok (.aload_n 0, 1) := by decide +kernel
theorem d_X6_compile_6 : decode (bc mX6_compile) 6 = .ok (.iconst 0, 1) := by decide +kernel
theorem d_X6_compile_7 : decode (bc mX6_compile) 7 = .ok (.putfield 107, 3) := by decide +kernel
theorem d_X6_compile_10 : decode (bc mX6_compile) 10 = .ok (.aload_n 0, 1) := by decide +kernel
theorem d_X6_compile_11 : decode (bc mX6_compile) 11 = .ok (.iconst 0, 1) := by decide +kernel
theorem d_X6_compile_12 : decode (bc mX6_compile) 12 = .ok (.putfield 104, 3) := by decide +kernel
theorem d_X6_compile_15 : decode (bc mX6_compile) 15 = .ok (.iconst 1, 1) := by decide +kernel
theorem d_X6_compile_16 : decode (bc mX6_compile) 16 = .ok (.istore_n 1, 1) := by decide +kernel
theorem d_X6_compile_17 : decode (bc mX6_compile) 17 = .ok (.iload_n 1, 1) := by decide +kernel
theorem d_X6_compile_18 : decode (bc mX6_compile) 18 = .ok (.iconst 1, 1) := by decide +kernel
theorem d_X6_compile_19 : decode (bc mX6_compile) 19 = .ok (.if_icmp .ne 23, 3) := by decide +kernel
theorem d_X6_compile_22 : decode (bc mX6_compile) 22 = .ok (.aload_n 0, 1) := by decide +kernel
theorem d_X6_compile_23 : decode (bc mX6_compile) 23 = .ok (.invokevirtual 131, 3) := by decide +kernel
theorem d_X6_compile_26 : decode (bc mX6_compile) 26 = .ok (.ifCond .ne 8, 3) := by decide +kernel
theorem d_X6_compile_29 : decode (bc mX6_compile) 29 = .ok (.aload_n 0, 1) := by decide +kernel
theorem d_X6_compile_30 : decode (bc mX6_compile) 30 = .ok (.getfield 97, 3) := by decide +kernel
theorem d_X6_compile_33 : decode (bc mX6_compile) 33 = .ok (.ireturn, 1) := by decide +kernel
theorem d_X6_compile_34 : decode (bc mX6_compile) 34 = .ok (.aload_n 0, 1) := by decide +kernel
theorem d_X6_compile_35 : decode (bc mX6_compile) 35 = .ok (.invokevirtual 135, 3) := by decide +kernel
theorem d_X6_compile_38 : decode (bc mX6_compile) 38 = .ok (.istore_n 1, 1) := by decide +kernel
theorem d_X6_compile_39 : decode (bc mX6_compile) 39 = .ok (.goto (-22), 3) := by decide +kernel
theorem d_X6_compile_42 : decode (bc mX6_compile) 42 = .ok (.iload_n 1, 1) := by decide +kernel
theorem d_X6_compile_43 : decode (bc mX6_compile) 43 = .ok (.ifCond .eq 14, 3) := by decide +kernel
theorem d_X6_compile_46 : decode (bc mX6_compile) 46 = .ok (.aload_n 0, 1) := by decide +kernel
theorem d_X6_compile_47 : decode (bc mX6_compile) 47 = .ok (.getfield 97, 3) := by decide +kernel
theorem d_X6_compile_50 : decode (bc mX6_compile) 50 = .ok (.aload_n 0, 1) := by decide +kernel
theorem d_X6_compile_51 : decode (bc mX6_compile) 51 = .ok (.getfield 101, 3) := by decide +kernel
theorem d_X6_compile_54 : decode (bc mX6_compile) 54 = .ok (.if_icmp .ge 10, 3) := by decide +kernel
theorem d_X6_compile_57 : decode (bc mX6_compile) 57 = .ok (.aload_n 0, 1) := by decide +kernel
theorem d_X6_compile_58 : decode (bc mX6_compile) 58 = .ok (.getfield 97, 3) := by decide +kernel
theorem d_X6_compile_61 : decode (bc mX6_compile) 61 = .ok (.goto 5, 3) := by decide +kernel
theorem d_X6_compile_64 : decode (bc mX6_compile) 64 = .ok (.bipush (-6), 2) := by decide +kernel
theorem d_X6_compile_66 : decode (bc mX6_compile) 66 = .ok (.ireturn, 1) := by decide +kernel
theorem d_X6_type_0 : decode (bc mX6_type) 0 = .ok (.iconst 0, 1) := by decide +kernel
theorem d_X6_type_1 : decode (bc mX6_type) 1 = .ok (.istore_n 3, 1) := by decide +kernel
theorem d_X6_type_2 : decode (bc mX6_type) 2 = .ok (.lload_n 1, 1) := by decide +kernel
theorem d_X6_type_3 : decode (bc mX6_type) 3 = .ok (.lstore 4, 2) := by decide +kernel
theorem d_X6_type_5 : decode (bc mX6_type) 5 = .ok (.iload_n 3, 1) := by decide +kernel
theorem d_X6_type_6 : decode (bc mX6_type) 6 = .ok (.bipush 8, 2) := by decide +kernel
theorem d_X6_type_8 : decode (bc mX6_type) 8 = .ok (.if_icmp .ge 48, 3) := by decide +kernel
theorem d_X6_type_11 : decode (bc mX6_type) 11 = .ok (.lload 4, 2) := by decide +kernel
theorem d_X6_type_13 : decode (bc mX6_type) 13 = .ok (.ldc2_w 138, 3) := by decide +kernel
theorem d_X6_type_16 : decode (bc mX6_type) 16 = .ok (.land, 1) := by decide +kernel
theorem d_X6_type_17 : decode (bc mX6_type) 17 = .ok (.lconst 0, 1) := by decide +kernel
theorem d_X6_type_18 : decode (bc mX6_type) 18 = .ok (.lcmp, 1) := by decide +kernel
theorem d_X6_type_19 : decode (bc mX6_type) 19 = .ok (.ifCond .eq 37, 3) := by decide +kernel
theorem d_X6_type_22 : decode (bc mX6_type) 22 = .ok (.lload 4, 2) := by decide +kernel
theorem d_X6_type_24 : decode (bc mX6_type) 24 = .ok (.ldc2_w 138, 3) := by decide +kernel
theorem d_X6_type_27 : decode (bc mX6_type) 27 = .ok (.land, 1) := by decide +kernel
theorem d_X6_type_28 : decode (bc mX6_type) 28 = .ok (.ldc2_w 140, 3) := by decide +kernel
theorem d_X6_type_31 : decode (bc mX6_type) 31 = .ok (.ldc2_w 142, 3) := by decide +kernel
theorem d_X6_type_34 : decode (bc mX6_type) 34 = .ok (.invokestatic 91, 3) := by decide +kernel
theorem d_X6_type_37 : decode (bc mX6_type) 37 = .ok (.ifCond .ne 6, 3) := by decide +kernel
theorem d_X6_type_40 : decode (bc mX6_type) 40 = .ok (.bipush (-2), 2) := by decide +kernel
theorem d_X6_type_42 : decode (bc mX6_type) 42 = .ok (.ireturn, 1) := by decide +kernel
theorem d_X6_type_43 : decode (bc mX6_type) 43 = .ok (.iinc 3 1, 3) := by decide +kernel
theorem d_X6_type_46 : decode (bc mX6_type) 46 = .ok (.lload 4, 2) := by decide +kernel
theorem d_X6_type_48 : decode (bc mX6_type) 48 = .ok (.bipush 8, 2) := by decide +kernel
theorem d_X6_type_50 : decode (bc mX6_type) 50 = .ok (.lushr, 1) := by decide +kernel
theorem d_X6_type_51 : decode (bc mX6_type) 51 = .ok (.lstore 4, 2) := by decide +kernel
theorem d_X6_type_53 : decode (bc mX6_type) 53 = .ok (.goto (-48), 3) := by decide +kernel
theorem d_X6_type_56 : decode (bc mX6_type) 56 = .ok (.iload_n 3, 1) := by decide +kernel
theorem d_X6_type_57 : decode (bc mX6_type) 57 = .ok (.ifCond .eq 10, 3) := by decide +kernel
theorem d_X6_type_60 : decode (bc mX6_type) 60 = .ok (.lload 4, 2) := by decide +kernel
theorem d_X6_type_62 : decode (bc mX6_type) 62 = .ok (.lconst 0, 1) := by decide +kernel
theorem d_X6_type_63 : decode (bc mX6_type) 63 = .ok (.lcmp, 1) := by decide +kernel
theorem d_X6_type_64 : decode (bc mX6_type) 64 = .ok (.ifCond .eq 6, 3) := by decide +kernel
theorem d_X6_type_67 : decode (bc mX6_type) 67 = .ok (.bipush (-2), 2) := by decide +kernel
theorem d_X6_type_69 : decode (bc mX6_type) 69 = .ok (.ireturn, 1) := by decide +kernel
theorem d_X6_type_70 : decode (bc mX6_type) 70 = .ok (.aload_n 0, 1) := by decide +kernel
theorem d_X6_type_71 : decode (bc mX6_type) 71 = .ok (.getfield 101, 3) := by decide +kernel
theorem d_X6_type_74 : decode (bc mX6_type) 74 = .ok (.iload_n 3, 1) := by decide +kernel
theorem d_X6_type_75 : decode (bc mX6_type) 75 = .ok (.iadd, 1) := by decide +kernel
theorem d_X6_type_76 : decode (bc mX6_type) 76 = .ok (.bipush 60, 2) := by decide +kernel
theorem d_X6_type_78 : decode (bc mX6_type) 78 = .ok (.if_icmp .le 6, 3) := by decide +kernel
theorem d_X6_type_81 : decode (bc mX6_type) 81 = .ok (.bipush (-4), 2) := by decide +kernel
theorem d_X6_type_83 : decode (bc mX6_type) 83 = .ok (.ireturn, 1) := by decide +kernel
theorem d_X6_type_84 : decode (bc mX6_type) 84 = .ok (.iload_n 3, 1) := by decide +kernel
theorem d_X6_type_85 : decode (bc mX6_type) 85 = .ok (.iconst 1, 1) := by decide +kernel
theorem d_X6_type_86 : decode (bc mX6_type) 86 = .ok (.isub, 1) := by decide +kernel
theorem d_X6_type_87 : decode (bc mX6_type) 87 = .ok (.istore 6, 2) := by decide +kernel
theorem d_X6_type_89 : decode (bc mX6_type) 89 = .ok (.iload 6, 2) := by decide +kernel
theorem d_X6_type_91 : decode (bc mX6_type) 91 = .ok (.ifCond .lt 40, 3) := by decide +kernel
theorem d_X6_type_94 : decode (bc mX6_type) 94 = .ok (.aload_n 0, 1) := by decide +kernel
theorem d_X6_type_95 : decode (bc mX6_type) 95 = .ok (.getfield 26, 3) := by decide +kernel
theorem d_X6_type_98 : decode (bc mX6_type) 98 = .ok (.aload_n 0, 1) := by decide +kernel
theorem d_X6_type_99 : decode (bc mX6_type) 99 = .ok (.getfield 101, 3) := by decide +kernel
theorem d_X6_type_102 : decode (bc mX6_type) 102 = .ok (.lload_n 1, 1) := by decide +kernel
theorem d_X6_type_103 : decode (bc mX6_type) 103 = .ok (.bipush 8, 2) := by decide +kernel
theorem d_X6_type_105 : decode (bc mX6_type) 105 = .ok (.iload 6, 2) := by decide +kernel
theorem d_X6_type_107 : decode (bc mX6_type) 107 = .ok (.imul, 1) := by decide +kernel
theorem d_X6_type_108 : decode (bc mX6_type) 108 = .ok (.lushr, 1) := by decide +kernel
theorem d_X6_type_109 : decode (bc mX6_type) 109 = .ok (.ldc2_w 138, 3) := by decide +kernel
theorem d_X6_type_112 : decode (bc mX6_type) 112 = .ok (.land, 1) := by decide +kernel
theorem d_X6_type_113 : decode (bc mX6_type) 113 = .ok (.l2i, 1) := by decide +kernel
theorem d_X6_type_114 : decode (bc mX6_type) 114 = .ok (.iastore, 1) := by decide +kernel
theorem d_X6_type_115 : decode (bc mX6_type) 115 = .ok (.aload_n 0, 1) := by decide +kernel
theorem d_X6_type_116 : decode (bc mX6_type) 116 = .ok (.dup, 1) := by decide +kernel
theorem d_X6_type_117 : decode (bc mX6_type) 117 = .ok (.getfield 101, 3) := by decide +kernel
theorem d_X6_type_120 : decode (bc mX6_type) 120 = .ok (.iconst 1, 1) := by decide +kernel
theorem d_X6_type_121 : decode (bc mX6_type) 121 = .ok (.iadd, 1) := by decide +kernel
theorem d_X6_type_122 : decode (bc mX6_type) 122 = .ok (.putfield 101, 3) := by decide +kernel
theorem d_X6_type_125 : decode (bc mX6_type) 125 = .ok (.iinc 6 (-1), 3) := by decide +kernel
theorem d_X6_type_128 : decode (bc mX6_type) 128 = .ok (.goto (-39), 3) := by decide +kernel
theorem d_X6_type_131 : decode (bc mX6_type) 131 = .ok (.aload_n 0, 1) := by decide +kernel
theorem d_X6_type_132 : decode (bc mX6_type) 132 = .ok (.getfield 101, 3) := by decide +kernel
theorem d_X6_type_135 : decode (bc mX6_type) 135 = .ok (.ireturn, 1) := by decide +kernel
theorem d_X6_wipe_0 : decode (bc mX6_wipe) 0 = .ok (.aload_n 0, 1) := by decide +kernel
theorem d_X6_wipe_1 : decode (bc mX6_wipe) 1 = .ok (.getfield 101, 3) := by decide +kernel
theorem d_X6_wipe_4 : decode (bc mX6_wipe) 4 = .ok (.istore_n 1, 1) := by decide +kernel
theorem d_X6_wipe_5 : decode (bc mX6_wipe) 5 = .ok (.aload_n 0, 1) := by decide +kernel
theorem d_X6_wipe_6 : decode (bc mX6_wipe) 6 = .ok (.iconst 0, 1) := by decide +kernel
theorem d_X6_wipe_7 : decode (bc mX6_wipe) 7 = .ok (.putfield 101, 3) := by decide +kernel
theorem d_X6_wipe_10 : decode (bc mX6_wipe) 10 = .ok (.iload_n 1, 1) := by decide +kernel
theorem d_X6_wipe_11 : decode (bc mX6_wipe) 11 = .ok (.ireturn, 1) := by decide +kernel
theorem d_X6_fault_0 : decode (bc mX6_fault) 0 = .ok (.aload_n 0, 1) := by decide +kernel
theorem d_X6_fault_1 : decode (bc mX6_fault) 1 = .ok (.invokevirtual 144, 3) := by decide +kernel
theorem d_X6_fault_4 : decode (bc mX6_fault) 4 = .ok (.ireturn, 1) := by decide +kernel
theorem d_X6_memoryNamed_0 : decode (bc mX6_memoryNamed) 0 = .ok (.iconst 0, 1) := by decide +kernel
theorem d_X6_memoryNamed_1 : decode (bc mX6_memoryNamed) 1 = .ok (.istore_n 2, 1) := by decide +kernel
theorem d_X6_memoryNamed_2 : decode (bc mX6_memoryNamed) 2 = .ok (.iload_n 2, 1) := by decide +kernel
theorem d_X6_memoryNamed_3 : decode (bc mX6_memoryNamed) 3 = .ok (.aload_n 0, 1) := by decide +kernel
theorem d_X6_memoryNamed_4 : decode (bc mX6_memoryNamed) 4 = .ok (.sipush 814, 3) := by decide +kernel
theorem d_X6_memoryNamed_7 : decode (bc mX6_memoryNamed) 7 = .ok (.iaload, 1) := by decide +kernel
theorem d_X6_memoryNamed_8 : decode (bc mX6_memoryNamed) 8 = .ok (.if_icmp .ge 21, 3) := by decide +kernel
theorem d_X6_memoryNamed_11 : decode (bc mX6_memoryNamed) 11 = .ok (.aload_n 0, 1) := by decide +kernel
theorem d_X6_memoryNamed_12 : decode (bc mX6_memoryNamed) 12 = .ok (.iload_n 2, 1) := by decide +kernel
theorem d_X6_memoryNamed_13 : decode (bc mX6_memoryNamed) 13 = .ok (.invokestatic 147, 3) := by decide +kernel
theorem d_X6_memoryNamed_16 : decode (bc mX6_memoryNamed) 16 = .ok (.iaload, 1) := by decide +kernel
theorem d_X6_memoryNamed_17 : decode (bc mX6_memoryNamed) 17 = .ok (.iload_n 1, 1) := by decide +kernel
theorem d_X6_memoryNamed_18 : decode (bc mX6_memoryNamed) 18 = .ok (.if_icmp .ne 5, 3) := by decide +kernel
theorem d_X6_memoryNamed_21 : decode (bc mX6_memoryNamed) 21 = .ok (.iload_n 2, 1) := by decide +kernel
theorem d_X6_memoryNamed_22 : decode (bc mX6_memoryNamed) 22 = .ok (.ireturn, 1) := by decide +kernel
theorem d_X6_memoryNamed_23 : decode (bc mX6_memoryNamed) 23 = .ok (.iinc 2 1, 3) := by decide +kernel
theorem d_X6_memoryNamed_26 : decode (bc mX6_memoryNamed) 26 = .ok (.goto (-24), 3) := by decide +kernel
theorem d_X6_memoryNamed_29 : decode (bc mX6_memoryNamed) 29 = .ok (.bipush (-6), 2) := by decide +kernel
theorem d_X6_memoryNamed_31 : decode (bc mX6_memoryNamed) 31 = .ok (.ireturn, 1) := by decide +kernel
theorem d_X6_cutMemory_0 : decode (bc mX6_cutMemory) 0 = .ok (.aload_n 0, 1) := by decide +kernel
theorem d_X6_cutMemory_1 : decode (bc mX6_cutMemory) 1 = .ok (.sipush 814, 3) := by decide +kernel
theorem d_X6_cutMemory_4 : decode (bc mX6_cutMemory) 4 = .ok (.dup2, 1) := by decide +kernel
theorem d_X6_cutMemory_5 : decode (bc mX6_cutMemory) 5 = .ok (.iaload, 1) := by decide +kernel
theorem d_X6_cutMemory_6 : decode (bc mX6_cutMemory) 6 = .ok (.iconst 1, 1) := by decide +kernel
theorem d_X6_cutMemory_7 : decode (bc mX6_cutMemory) 7 = .ok (.isub, 1) := by decide +kernel
theorem d_X6_cutMemory_8 : decode (bc mX6_cutMemory) 8 = .ok (.iastore, 1) := by decide +kernel
theorem d_X6_cutMemory_9 : decode (bc mX6_cutMemory) 9 = .ok (.iload_n 1, 1) := by decide +kernel
theorem d_X6_cutMemory_10 : decode (bc mX6_cutMemory) 10 = .ok (.invokestatic 147, 3) := by decide +kernel
theorem d_X6_cutMemory_13 : decode (bc mX6_cutMemory) 13 = .ok (.istore_n 2, 1) := by decide +kernel
theorem d_X6_cutMemory_14 : decode (bc mX6_cutMemory) 14 = .ok (.iload_n 2, 1) := by decide +kernel
theorem d_X6_cutMemory_15 : decode (bc mX6_cutMemory) 15 = .ok (.aload_n 0, 1) := by decide +kernel
theorem d_X6_cutMemory_16 : decode (bc mX6_cutMemory) 16 = .ok (.sipush 814, 3) := by decide +kernel
theorem d_X6_cutMemory_19 : decode (bc mX6_cutMemory) 19 = .ok (.iaload, 1) := by decide +kernel
theorem d_X6_cutMemory_20 : decode (bc mX6_cutMemory) 20 = .ok (.invokestatic 147, 3) := by decide +kernel
theorem d_X6_cutMemory_23 : decode (bc mX6_cutMemory) 23 = .ok (.if_icmp .ge 18, 3) := by decide +kernel
theorem d_X6_cutMemory_26 : decode (bc mX6_cutMemory) 26 = .ok (.aload_n 0, 1) := by decide +kernel
theorem d_X6_cutMemory_27 : decode (bc mX6_cutMemory) 27 = .ok (.iload_n 2, 1) := by decide +kernel
theorem d_X6_cutMemory_28 : decode (bc mX6_cutMemory) 28 = .ok (.aload_n 0, 1) := by decide +kernel
theorem d_X6_cutMemory_29 : decode (bc mX6_cutMemory) 29 = .ok (.iload_n 2, 1) := by decide +kernel
theorem d_X6_cutMemory_30 : decode (bc mX6_cutMemory) 30 = .ok (.bipush 40, 2) := by decide +kernel
theorem d_X6_cutMemory_32 : decode (bc mX6_cutMemory) 32 = .ok (.iadd, 1) := by decide +kernel
theorem d_X6_cutMemory_33 : decode (bc mX6_cutMemory) 33 = .ok (.iaload, 1) := by decide +kernel
theorem d_X6_cutMemory_34 : decode (bc mX6_cutMemory) 34 = .ok (.iastore, 1) := by decide +kernel
theorem d_X6_cutMemory_35 : decode (bc mX6_cutMemory) 35 = .ok (.iinc 2 1, 3) := by decide +kernel
theorem d_X6_cutMemory_38 : decode (bc mX6_cutMemory) 38 = .ok (.goto (-24), 3) := by decide +kernel
theorem d_X6_cutMemory_41 : decode (bc mX6_cutMemory) 41 = .ok (.return_, 1) := by decide +kernel
theorem d_X6_shiftMemories_0 : decode (bc mX6_shiftMemories) 0 = .ok (.iload_n 1, 1) := by decide +kernel
theorem d_X6_shiftMemories_1 : decode (bc mX6_shiftMemories) 1 = .ok (.invokestatic 147, 3) := by decide +kernel
theorem d_X6_shiftMemories_4 : decode (bc mX6_shiftMemories) 4 = .ok (.iconst 1, 1) := by decide +kernel
theorem d_X6_shiftMemories_5 : decode (bc mX6_shiftMemories) 5 = .ok (.isub, 1) := by decide +kernel
theorem d_X6_shiftMemories_6 : decode (bc mX6_shiftMemories) 6 = .ok (.istore_n 2, 1) := by decide +kernel
theorem d_X6_shiftMemories_7 : decode (bc mX6_shiftMemories) 7 = .ok (.iload_n 2, 1) := by decide +kernel
theorem d_X6_shiftMemories_8 : decode (bc mX6_shiftMemories) 8 = .ok (.sipush 816, 3) := by decide +kernel
theorem d_X6_shiftMemories_11 : decode (bc mX6_shiftMemories) 11 = .ok (.if_icmp .lt 18, 3) := by decide +kernel
theorem d_X6_shiftMemories_14 : decode (bc mX6_shiftMemories) 14 = .ok (.aload_n 0, 1) := by decide +kernel
theorem d_X6_shiftMemories_15 : decode (bc mX6_shiftMemories) 15 = .ok (.iload_n 2, 1) := by decide +kernel
theorem d_X6_shiftMemories_16 : decode (bc mX6_shiftMemories) 16 = .ok (.bipush 40, 2) := by decide +kernel
theorem d_X6_shiftMemories_18 : decode (bc mX6_shiftMemories) 18 = .ok (.iadd, 1) := by decide +kernel
theorem d_X6_shiftMemories_19 : decode (bc mX6_shiftMemories) 19 = .ok (.aload_n 0, 1) := by decide +kernel
theorem d_X6_shiftMemories_20 : decode (bc mX6_shiftMemories) 20 = .ok (.iload_n 2, 1) := by decide +kernel
theorem d_X6_shiftMemories_21 : decode (bc mX6_shiftMemories) 21 = .ok (.iaload, 1) := by decide +kernel
theorem d_X6_shiftMemories_22 : decode (bc mX6_shiftMemories) 22 = .ok (.iastore, 1) := by decide +kernel
theorem d_X6_shiftMemories_23 : decode (bc mX6_shiftMemories) 23 = .ok (.iinc 2 (-1), 3) := by decide +kernel
theorem d_X6_shiftMemories_26 : decode (bc mX6_shiftMemories) 26 = .ok (.goto (-19), 3) := by decide +kernel
theorem d_X6_shiftMemories_29 : decode (bc mX6_shiftMemories) 29 = .ok (.return_, 1) := by decide +kernel
theorem d_X6_useMemory_0 : decode (bc mX6_useMemory) 0 = .ok (.iconst 0, 1) := by decide +kernel
theorem d_X6_useMemory_1 : decode (bc mX6_useMemory) 1 = .ok (.istore_n 3, 1) := by decide +kernel
theorem d_X6_useMemory_2 : decode (bc mX6_useMemory) 2 = .ok (.iload_n 3, 1) := by decide +kernel
theorem d_X6_useMemory_3 : decode (bc mX6_useMemory) 3 = .ok (.bipush 40, 2) := by decide +kernel
theorem d_X6_useMemory_5 : decode (bc mX6_useMemory) 5 = .ok (.if_icmp .ge 23, 3) := by decide +kernel
theorem d_X6_useMemory_8 : decode (bc mX6_useMemory) 8 = .ok (.aload_n 0, 1) := by decide +kernel
theorem d_X6_useMemory_9 : decode (bc mX6_useMemory) 9 = .ok (.getfield 41, 3) := by decide +kernel
theorem d_X6_useMemory_12 : decode (bc mX6_useMemory) 12 = .ok (.iload_n 3, 1) := by decide +kernel
theorem d_X6_useMemory_13 : decode (bc mX6_useMemory) 13 = .ok (.aload_n 1, 1) := by decide +kernel
theorem d_X6_useMemory_14 : decode (bc mX6_useMemory) 14 = .ok (.iload_n 2, 1) := by decide +kernel
theorem d_X6_useMemory_15 : decode (bc mX6_useMemory) 15 = .ok (.invokestatic 147, 3) := by decide +kernel
theorem d_X6_useMemory_18 : decode (bc mX6_useMemory) 18 = .ok (.iload_n 3, 1) := by decide +kernel
theorem d_X6_useMemory_19 : decode (bc mX6_useMemory) 19 = .ok (.iadd, 1) := by decide +kernel
theorem d_X6_useMemory_20 : decode (bc mX6_useMemory) 20 = .ok (.iaload, 1) := by decide +kernel
theorem d_X6_useMemory_21 : decode (bc mX6_useMemory) 21 = .ok (.iastore, 1) := by decide +kernel
theorem d_X6_useMemory_22 : decode (bc mX6_useMemory) 22 = .ok (.iinc 3 1, 3) := by decide +kernel
theorem d_X6_useMemory_25 : decode (bc mX6_useMemory) 25 = .ok (.goto (-23), 3) := by decide +kernel
theorem d_X6_useMemory_28 : decode (bc mX6_useMemory) 28 = .ok (.aload_n 1, 1) := by decide +kernel
theorem d_X6_useMemory_29 : decode (bc mX6_useMemory) 29 = .ok (.iload_n 2, 1) := by decide +kernel
theorem d_X6_useMemory_30 : decode (bc mX6_useMemory) 30 = .ok (.invokestatic 151, 3) := by decide +kernel
theorem d_X6_useMemory_33 : decode (bc mX6_useMemory) 33 = .ok (.iconst 0, 1) := by decide +kernel
theorem d_X6_useMemory_34 : decode (bc mX6_useMemory) 34 = .ok (.istore_n 3, 1) := by decide +kernel
theorem d_X6_useMemory_35 : decode (bc mX6_useMemory) 35 = .ok (.iload_n 3, 1) := by decide +kernel
theorem d_X6_useMemory_36 : decode (bc mX6_useMemory) 36 = .ok (.bipush 40, 2) := by decide +kernel
theorem d_X6_useMemory_38 : decode (bc mX6_useMemory) 38 = .ok (.if_icmp .ge 22, 3) := by decide +kernel
theorem d_X6_useMemory_41 : decode (bc mX6_useMemory) 41 = .ok (.aload_n 1, 1) := by decide +kernel
theorem d_X6_useMemory_42 : decode (bc mX6_useMemory) 42 = .ok (.sipush 816, 3) := by decide +kernel
theorem d_X6_useMemory_45 : decode (bc mX6_useMemory) 45 = .ok (.iload_n 3, 1) := by decide +kernel
theorem d_X6_useMemory_46 : decode (bc mX6_useMemory) 46 = .ok (.iadd, 1) := by decide +kernel
theorem d_X6_useMemory_47 : decode (bc mX6_useMemory) 47 = .ok (.aload_n 0, 1) := by decide +kernel
theorem d_X6_useMemory_48 : decode (bc mX6_useMemory) 48 = .ok (.getfield 41, 3) := by decide +kernel
theorem d_X6_useMemory_51 : decode (bc mX6_useMemory) 51 = .ok (.iload_n 3, 1) := by decide +kernel
theorem d_X6_useMemory_52 : decode (bc mX6_useMemory) 52 = .ok (.iaload, 1) := by decide +kernel
theorem d_X6_useMemory_53 : decode (bc mX6_useMemory) 53 = .ok (.iastore, 1) := by decide +kernel
theorem d_X6_useMemory_54 : decode (bc mX6_useMemory) 54 = .ok (.iinc 3 1, 3) := by decide +kernel
theorem d_X6_useMemory_57 : decode (bc mX6_useMemory) 57 = .ok (.goto (-22), 3) := by decide +kernel
theorem d_X6_useMemory_60 : decode (bc mX6_useMemory) 60 = .ok (.aload_n 1, 1) := by decide +kernel
theorem d_X6_useMemory_61 : decode (bc mX6_useMemory) 61 = .ok (.sipush 821, 3) := by decide +kernel
theorem d_X6_useMemory_64 : decode (bc mX6_useMemory) 64 = .ok (.dup2, 1) := by decide +kernel
theorem d_X6_useMemory_65 : decode (bc mX6_useMemory) 65 = .ok (.iaload, 1) := by decide +kernel
theorem d_X6_useMemory_66 : decode (bc mX6_useMemory) 66 = .ok (.iconst 1, 1) := by decide +kernel
theorem d_X6_useMemory_67 : decode (bc mX6_useMemory) 67 = .ok (.iadd, 1) := by decide +kernel
theorem d_X6_useMemory_68 : decode (bc mX6_useMemory) 68 = .ok (.iastore, 1) := by decide +kernel
theorem d_X6_useMemory_69 : decode (bc mX6_useMemory) 69 = .ok (.aload_n 1, 1) := by decide +kernel
theorem d_X6_useMemory_70 : decode (bc mX6_useMemory) 70 = .ok (.sipush 813, 3) := by decide +kernel
theorem d_X6_useMemory_73 : decode (bc mX6_useMemory) 73 = .ok (.dup2, 1) := by decide +kernel
theorem d_X6_useMemory_74 : decode (bc mX6_useMemory) 74 = .ok (.iaload, 1) := by decide +kernel
theorem d_X6_useMemory_75 : decode (bc mX6_useMemory) 75 = .ok (.aload_n 1, 1) := by decide +kernel
theorem d_X6_useMemory_76 : decode (bc mX6_useMemory) 76 = .ok (.sipush 820, 3) := by decide +kernel
theorem d_X6_useMemory_79 : decode (bc mX6_useMemory) 79 = .ok (.iaload, 1) := by decide +kernel
theorem d_X6_useMemory_80 : decode (bc mX6_useMemory) 80 = .ok (.iadd, 1) := by decide +kernel
theorem d_X6_useMemory_81 : decode (bc mX6_useMemory) 81 = .ok (.iastore, 1) := by decide +kernel
theorem d_X6_useMemory_82 : decode (bc mX6_useMemory) 82 = .ok (.aload_n 1, 1) := by decide +kernel
theorem d_X6_useMemory_83 : decode (bc mX6_useMemory) 83 = .ok (.sipush 806, 3) := by decide +kernel
theorem d_X6_useMemory_86 : decode (bc mX6_useMemory) 86 = .ok (.aload_n 1, 1) := by decide +kernel
theorem d_X6_useMemory_87 : decode (bc mX6_useMemory) 87 = .ok (.sipush 817, 3) := by decide +kernel
theorem d_X6_useMemory_90 : decode (bc mX6_useMemory) 90 = .ok (.iaload, 1) := by decide +kernel
theorem d_X6_useMemory_91 : decode (bc mX6_useMemory) 91 = .ok (.iadd, 1) := by decide +kernel
theorem d_X6_useMemory_92 : decode (bc mX6_useMemory) 92 = .ok (.dup2, 1) := by decide +kernel
theorem d_X6_useMemory_93 : decode (bc mX6_useMemory) 93 = .ok (.iaload, 1) := by decide +kernel
theorem d_X6_useMemory_94 : decode (bc mX6_useMemory) 94 = .ok (.iconst 1, 1) := by decide +kernel
theorem d_X6_useMemory_95 : decode (bc mX6_useMemory) 95 = .ok (.iadd, 1) := by decide +kernel
theorem d_X6_useMemory_96 : decode (bc mX6_useMemory) 96 = .ok (.iastore, 1) := by decide +kernel
theorem d_X6_useMemory_97 : decode (bc mX6_useMemory) 97 = .ok (.return_, 1) := by decide +kernel
theorem d_X6_trim_0 : decode (bc mX6_trim) 0 = .ok (.aload_n 0, 1) := by decide +kernel
theorem d_X6_trim_1 : decode (bc mX6_trim) 1 = .ok (.sipush 814, 3) := by decide +kernel
theorem d_X6_trim_4 : decode (bc mX6_trim) 4 = .ok (.iaload, 1) := by decide +kernel
theorem d_X6_trim_5 : decode (bc mX6_trim) 5 = .ok (.aload_n 0, 1) := by decide +kernel
theorem d_X6_trim_6 : decode (bc mX6_trim) 6 = .ok (.iconst 0, 1) := by decide +kernel
theorem d_X6_trim_7 : decode (bc mX6_trim) 7 = .ok (.iaload, 1) := by decide +kernel
theorem d_X6_trim_8 : decode (bc mX6_trim) 8 = .ok (.if_icmp .le 11, 3) := by decide +kernel
theorem d_X6_trim_11 : decode (bc mX6_trim) 11 = .ok (.aload_n 0, 1) := by decide +kernel
theorem d_X6_trim_12 : decode (bc mX6_trim) 12 = .ok (.sipush 814, 3) := by decide +kernel
theorem d_X6_trim_15 : decode (bc mX6_trim) 15 = .ok (.aload_n 0, 1) := by decide +kernel
theorem d_X6_trim_16 : decode (bc mX6_trim) 16 = .ok (.iconst 0, 1) := by decide +kernel
theorem d_X6_trim_17 : decode (bc mX6_trim) 17 = .ok (.iaload, 1) := by decide +kernel
theorem d_X6_trim_18 : decode (bc mX6_trim) 18 = .ok (.iastore, 1) := by decide +kernel
theorem d_X6_trim_19 : decode (bc mX6_trim) 19 = .ok (.return_, 1) := by decide +kernel
theorem d_X6_begin_0 : decode (bc mX6_begin) 0 = .ok (.aload_n 0, 1) := by decide +kernel
theorem d_X6_begin_1 : decode (bc mX6_begin) 1 = .ok (.getfield 44, 3) := by decide +kernel
theorem d_X6_begin_4 : decode (bc mX6_begin) 4 = .ok (.iload_n 2, 1) := by decide +kernel
theorem d_X6_begin_5 : decode (bc mX6_begin) 5 = .ok (.iload_n 3, 1) := by decide +kernel
theorem d_X6_begin_6 : decode (bc mX6_begin) 6 = .ok (.iastore, 1) := by decide +kernel
theorem d_X6_begin_7 : decode (bc mX6_begin) 7 = .ok (.aload_n 0, 1) := by decide +kernel
theorem d_X6_begin_8 : decode (bc mX6_begin) 8 = .ok (.getfield 47, 3) := by decide +kernel
theorem d_X6_begin_11 : decode (bc mX6_begin) 11 = .ok (.iload_n 2, 1) := by decide +kernel
theorem d_X6_begin_12 : decode (bc mX6_begin) 12 = .ok (.iconst 1, 1) := by decide +kernel
theorem d_X6_begin_13 : decode (bc mX6_begin) 13 = .ok (.iastore, 1) := by decide +kernel
theorem d_X6_begin_14 : decode (bc mX6_begin) 14 = .ok (.aload_n 0, 1) := by decide +kernel
theorem d_X6_begin_15 : decode (bc mX6_begin) 15 = .ok (.getfield 53, 3) := by decide +kernel
theorem d_X6_begin_18 : decode (bc mX6_begin) 18 = .ok (.iload_n 2, 1) := by decide +kernel
theorem d_X6_begin_19 : decode (bc mX6_begin) 19 = .ok (.iconst 0, 1) := by decide +kernel
theorem d_X6_begin_20 : decode (bc mX6_begin) 20 = .ok (.iastore, 1) := by decide +kernel
theorem d_X6_begin_21 : decode (bc mX6_begin) 21 = .ok (.aload_n 0, 1) := by decide +kernel
theorem d_X6_begin_22 : decode (bc mX6_begin) 22 = .ok (.getfield 56, 3) := by decide +kernel
theorem d_X6_begin_25 : decode (bc mX6_begin) 25 = .ok (.iload_n 2, 1) := by decide +kernel
theorem d_X6_begin_26 : decode (bc mX6_begin) 26 = .ok (.iconst 0, 1) := by decide +kernel
theorem d_X6_begin_27 : decode (bc mX6_begin) 27 = .ok (.iastore, 1) := by decide +kernel
theorem d_X6_begin_28 : decode (bc mX6_begin) 28 = .ok (.aload_n 0, 1) := by decide +kernel
theorem d_X6_begin_29 : decode (bc mX6_begin) 29 = .ok (.getfield 59, 3) := by decide +kernel
theorem d_X6_begin_32 : decode (bc mX6_begin) 32 = .ok (.iload_n 2, 1) := by decide +kernel
theorem d_X6_begin_33 : decode (bc mX6_begin) 33 = .ok (.iconst 0, 1) := by decide +kernel
theorem d_X6_begin_34 : decode (bc mX6_begin) 34 = .ok (.iastore, 1) := by decide +kernel
theorem d_X6_begin_35 : decode (bc mX6_begin) 35 = .ok (.iconst 0, 1) := by decide +kernel
theorem d_X6_begin_36 : decode (bc mX6_begin) 36 = .ok (.istore 4, 2) := by decide +kernel
theorem d_X6_begin_38 : decode (bc mX6_begin) 38 = .ok (.iload 4, 2) := by decide +kernel
theorem d_X6_begin_40 : decode (bc mX6_begin) 40 = .ok (.aload_n 1, 1) := by decide +kernel
theorem d_X6_begin_41 : decode (bc mX6_begin) 41 = .ok (.sipush 814, 3) := by decide +kernel
theorem d_X6_begin_44 : decode (bc mX6_begin) 44 = .ok (.iaload, 1) := by decide +kernel
theorem d_X6_begin_45 : decode (bc mX6_begin) 45 = .ok (.if_icmp .ge 55, 3) := by decide +kernel
theorem d_X6_begin_48 : decode (bc mX6_begin) 48 = .ok (.aload_n 1, 1) := by decide +kernel
theorem d_X6_begin_49 : decode (bc mX6_begin) 49 = .ok (.iload 4, 2) := by decide +kernel
theorem d_X6_begin_51 : decode (bc mX6_begin) 51 = .ok (.invokestatic 147, 3) := by decide +kernel
theorem d_X6_begin_54 : decode (bc mX6_begin) 54 = .ok (.iconst 1, 1) := by decide +kernel
theorem d_X6_begin_55 : decode (bc mX6_begin) 55 = .ok (.iadd, 1) := by decide +kernel
theorem d_X6_begin_56 : decode (bc mX6_begin) 56 = .ok (.iaload, 1) := by decide +kernel
theorem d_X6_begin_57 : decode (bc mX6_begin) 57 = .ok (.iload_n 2, 1) := by decide +kernel
theorem d_X6_begin_58 : decode (bc mX6_begin) 58 = .ok (.if_icmp .ne 36, 3) := by decide +kernel
theorem d_X6_begin_61 : decode (bc mX6_begin) 61 = .ok (.aload_n 0, 1) := by decide +kernel
theorem d_X6_begin_62 : decode (bc mX6_begin) 62 = .ok (.getfield 50, 3) := by decide +kernel
theorem d_X6_begin_65 : decode (bc mX6_begin) 65 = .ok (.bipush 16, 2) := by decide +kernel
theorem d_X6_begin_67 : decode (bc mX6_begin) 67 = .ok (.iload_n 2, 1) := by decide +kernel
theorem d_X6_begin_68 : decode (bc mX6_begin) 68 = .ok (.imul, 1) := by decide +kernel
theorem d_X6_begin_69 : decode (bc mX6_begin) 69 = .ok (.aload_n 0, 1) := by decide +kernel
theorem d_X6_begin_70 : decode (bc mX6_begin) 70 = .ok (.getfield 53, 3) := by decide +kernel
theorem d_X6_begin_73 : decode (bc mX6_begin) 73 = .ok (.iload_n 2, 1) := by decide +kernel
theorem d_X6_begin_74 : decode (bc mX6_begin) 74 = .ok (.iaload, 1) := by decide +kernel
theorem d_X6_begin_75 : decode (bc mX6_begin) 75 = .ok (.iadd, 1) := by decide +kernel
theorem d_X6_begin_76 : decode (bc mX6_begin) 76 = .ok (.aload_n 1, 1) := by decide +kernel
theorem d_X6_begin_77 : decode (bc mX6_begin) 77 = .ok (.iload 4, 2) := by decide +kernel
theorem d_X6_begin_79 : decode (bc mX6_begin) 79 = .ok (.invokestatic 147, 3) := by decide +kernel
theorem d_X6_begin_82 : decode (bc mX6_begin) 82 = .ok (.iaload, 1) := by decide +kernel
theorem d_X6_begin_83 : decode (bc mX6_begin) 83 = .ok (.iastore, 1) := by decide +kernel
theorem d_X6_begin_84 : decode (bc mX6_begin) 84 = .ok (.aload_n 0, 1) := by decide +kernel
theorem d_X6_begin_85 : decode (bc mX6_begin) 85 = .ok (.getfield 53, 3) := by decide +kernel
theorem d_X6_begin_88 : decode (bc mX6_begin) 88 = .ok (.iload_n 2, 1) := by decide +kernel
theorem d_X6_begin_89 : decode (bc mX6_begin) 89 = .ok (.dup2, 1) := by decide +kernel
theorem d_X6_begin_90 : decode (bc mX6_begin) 90 = .ok (.iaload, 1) := by decide +kernel
theorem d_X6_begin_91 : decode (bc mX6_begin) 91 = .ok (.iconst 1, 1) := by decide +kernel
theorem d_X6_begin_92 : decode (bc mX6_begin) 92 = .ok (.iadd, 1) := by decide +kernel
theorem d_X6_begin_93 : decode (bc mX6_begin) 93 = .ok (.iastore, 1) := by decide +kernel
theorem d_X6_begin_94 : decode (bc mX6_begin) 94 = .ok (.iinc 4 1, 3) := by decide +kernel
theorem d_X6_begin_97 : decode (bc mX6_begin) 97 = .ok (.goto (-59), 3) := by decide +kernel
theorem d_X6_begin_100 : decode (bc mX6_begin) 100 = .ok (.return_, 1) := by decide +kernel
theorem d_X6_nextName_0 : decode (bc mX6_nextName) 0 = .ok (.aload_n 0, 1) := by decide +kernel
theorem d_X6_nextName_1 : decode (bc mX6_nextName) 1 = .ok (.getfield 56, 3) := by decide +kernel
theorem d_X6_nextName_4 : decode (bc mX6_nextName) 4 = .ok (.iload_n 1, 1) := by decide +kernel
theorem d_X6_nextName_5 : decode (bc mX6_nextName) 5 = .ok (.dup2, 1) := by decide +kernel
theorem d_X6_nextName_6 : decode (bc mX6_nextName) 6 = .ok (.iaload, 1) := by decide +kernel
theorem d_X6_nextName_7 : decode (bc mX6_nextName) 7 = .ok (.iconst 1, 1) := by decide +kernel
theorem d_X6_nextName_8 : decode (bc mX6_nextName) 8 = .ok (.iadd, 1) := by decide +kernel
theorem d_X6_nextName_9 : decode (bc mX6_nextName) 9 = .ok (.iastore, 1) := by decide +kernel
theorem d_X6_nextName_10 : decode (bc mX6_nextName) 10 = .ok (.aload_n 0, 1) := by decide +kernel
theorem d_X6_nextName_11 : decode (bc mX6_nextName) 11 = .ok (.getfield 59, 3) := by decide +kernel
theorem d_X6_nextName_14 : decode (bc mX6_nextName) 14 = .ok (.iload_n 1, 1) := by decide +kernel
theorem d_X6_nextName_15 : decode (bc mX6_nextName) 15 = .ok (.iconst 0, 1) := by decide +kernel
theorem d_X6_nextName_16 : decode (bc mX6_nextName) 16 = .ok (.iastore, 1) := by decide +kernel
theorem d_X6_nextName_17 : decode (bc mX6_nextName) 17 = .ok (.return_, 1) := by decide +kernel
theorem d_X6_compare_0 : decode (bc mX6_compare) 0 = .ok (.aload_n 1, 1) := by decide +kernel
theorem d_X6_compare_1 : decode (bc mX6_compare) 1 = .ok (.aload_n 0, 1) := by decide +kernel
theorem d_X6_compare_2 : decode (bc mX6_compare) 2 = .ok (.getfield 50, 3) := by decide +kernel
theorem d_X6_compare_5 : decode (bc mX6_compare) 5 = .ok (.bipush 16, 2) := by decide +kernel
theorem d_X6_compare_7 : decode (bc mX6_compare) 7 = .ok (.iload_n 2, 1) := by decide +kernel
theorem d_X6_compare_8 : decode (bc mX6_compare) 8 = .ok (.imul, 1) := by decide +kernel
theorem d_X6_compare_9 : decode (bc mX6_compare) 9 = .ok (.aload_n 0, 1) := by decide +kernel
theorem d_X6_compare_10 : decode (bc mX6_compare) 10 = .ok (.getfield 56, 3) := by decide +kernel
theorem d_X6_compare_13 : decode (bc mX6_compare) 13 = .ok (.iload_n 2, 1) := by decide +kernel
theorem d_X6_compare_14 : decode (bc mX6_compare) 14 = .ok (.iaload, 1) := by decide +kernel
theorem d_X6_compare_15 : decode (bc mX6_compare) 15 = .ok (.iadd, 1) := by decide +kernel
theorem d_X6_compare_16 : decode (bc mX6_compare) 16 = .ok (.iaload, 1) := by decide +kernel
theorem d_X6_compare_17 : decode (bc mX6_compare) 17 = .ok (.invokestatic 155, 3) := by decide +kernel
theorem d_X6_compare_20 : decode (bc mX6_compare) 20 = .ok (.istore 4, 2) := by decide +kernel
theorem d_X6_compare_22 : decode (bc mX6_compare) 22 = .ok (.iload 4, 2) := by decide +kernel
theorem d_X6_compare_24 : decode (bc mX6_compare) 24 = .ok (.bipush (-6), 2) := by decide +kernel
theorem d_X6_compare_26 : decode (bc mX6_compare) 26 = .ok (.if_icmp .eq 37, 3) := by decide +kernel
theorem d_X6_compare_29 : decode (bc mX6_compare) 29 = .ok (.aload_n 1, 1) := by decide +kernel
theorem d_X6_compare_30 : decode (bc mX6_compare) 30 = .ok (.iload 4, 2) := by decide +kernel
theorem d_X6_compare_32 : decode (bc mX6_compare) 32 = .ok (.invokestatic 147, 3) := by decide +kernel
theorem d_X6_compare_35 : decode (bc mX6_compare) 35 = .ok (.bipush 23, 2) := by decide +kernel
theorem d_X6_compare_37 : decode (bc mX6_compare) 37 = .ok (.iadd, 1) := by decide +kernel
theorem d_X6_compare_38 : decode (bc mX6_compare) 38 = .ok (.aload_n 0, 1) := by decide +kernel
theorem d_X6_compare_39 : decode (bc mX6_compare) 39 = .ok (.getfield 59, 3) := by decide +kernel
theorem d_X6_compare_42 : decode (bc mX6_compare) 42 = .ok (.iload_n 2, 1) := by decide +kernel
theorem d_X6_compare_43 : decode (bc mX6_compare) 43 = .ok (.iaload, 1) := by decide +kernel
theorem d_X6_compare_44 : decode (bc mX6_compare) 44 = .ok (.iadd, 1) := by decide +kernel
theorem d_X6_compare_45 : decode (bc mX6_compare) 45 = .ok (.iaload, 1) := by decide +kernel
theorem d_X6_compare_46 : decode (bc mX6_compare) 46 = .ok (.iload_n 3, 1) := by decide +kernel
theorem d_X6_compare_47 : decode (bc mX6_compare) 47 = .ok (.if_icmp .ne 16, 3) := by decide +kernel
theorem d_X6_compare_50 : decode (bc mX6_compare) 50 = .ok (.aload_n 0, 1) := by decide +kernel
theorem d_X6_compare_51 : decode (bc mX6_compare) 51 = .ok (.getfield 59, 3) := by decide +kernel
theorem d_X6_compare_54 : decode (bc mX6_compare) 54 = .ok (.iload_n 2, 1) := by decide +kernel
theorem d_X6_compare_55 : decode (bc mX6_compare) 55 = .ok (.dup2, 1) := by decide +kernel
theorem d_X6_compare_56 : decode (bc mX6_compare) 56 = .ok (.iaload, 1) := by decide +kernel
theorem d_X6_compare_57 : decode (bc mX6_compare) 57 = .ok (.iconst 1, 1) := by decide +kernel
theorem d_X6_compare_58 : decode (bc mX6_compare) 58 = .ok (.iadd, 1) := by decide +kernel
theorem d_X6_compare_59 : decode (bc mX6_compare) 59 = .ok (.iastore, 1) := by decide +kernel
theorem d_X6_compare_60 : decode (bc mX6_compare) 60 = .ok (.goto 8, 3) := by decide +kernel
theorem d_X6_compare_63 : decode (bc mX6_compare) 63 = .ok (.aload_n 0, 1) := by decide +kernel
theorem d_X6_compare_64 : decode (bc mX6_compare) 64 = .ok (.iload_n 2, 1) := by decide +kernel
theorem d_X6_compare_65 : decode (bc mX6_compare) 65 = .ok (.invokevirtual 159, 3) := by decide +kernel
theorem d_X6_compare_68 : decode (bc mX6_compare) 68 = .ok (.return_, 1) := by decide +kernel
theorem d_X6_checkMemories_0 : decode (bc mX6_checkMemories) 0 = .ok (.aload_n 0, 1) := by decide +kernel
theorem d_X6_checkMemories_1 : decode (bc mX6_checkMemories) 1 = .ok (.getfield 56, 3) := by decide +kernel
theorem d_X6_checkMemories_4 : decode (bc mX6_checkMemories) 4 = .ok (.iload_n 2, 1) := by decide +kernel
theorem d_X6_checkMemories_5 : decode (bc mX6_checkMemories) 5 = .ok (.iaload, 1) := by decide +kernel
theorem d_X6_checkMemories_6 : decode (bc mX6_checkMemories) 6 = .ok (.aload_n 0, 1) := by decide +kernel
theorem d_X6_checkMemories_7 : decode (bc mX6_checkMemories) 7 = .ok (.getfield 53, 3) := by decide +kernel
theorem d_X6_checkMemories_10 : decode (bc mX6_checkMemories) 10 = .ok (.iload_n 2, 1) := by decide +kernel
theorem d_X6_checkMemories_11 : decode (bc mX6_checkMemories) 11 = .ok (.iaload, 1) := by decide +kernel
theorem d_X6_checkMemories_12 : decode (bc mX6_checkMemories) 12 = .ok (.if_icmp .ge 124, 3) := by decide +kernel
theorem d_X6_checkMemories_15 : decode (bc mX6_checkMemories) 15 = .ok (.aload_n 1, 1) := by decide +kernel
theorem d_X6_checkMemories_16 : decode (bc mX6_checkMemories) 16 = .ok (.aload_n 0, 1) := by decide +kernel
theorem d_X6_checkMemories_17 : decode (bc mX6_checkMemories) 17 = .ok (.getfield 50, 3) := by decide +kernel
theorem d_X6_checkMemories_20 : decode (bc mX6_checkMemories) 20 = .ok (.bipush 16, 2) := by decide +kernel
theorem d_X6_checkMemories_22 : decode (bc mX6_checkMemories) 22 = .ok (.iload_n 2, 1) := by decide +kernel
theorem d_X6_checkMemories_23 : decode (bc mX6_checkMemories) 23 = .ok (.imul, 1) := by decide +kernel
theorem d_X6_checkMemories_24 : decode (bc mX6_checkMemories) 24 = .ok (.aload_n 0, 1) := by decide +kernel
theorem d_X6_checkMemories_25 : decode (bc mX6_checkMemories) 25 = .ok (.getfield 56, 3) := by decide +kernel
theorem d_X6_checkMemories_28 : decode (bc mX6_checkMemories) 28 = .ok (.iload_n 2, 1) := by decide +kernel
theorem d_X6_checkMemories_29 : decode (bc mX6_checkMemories) 29 = .ok (.iaload, 1) := by decide +kernel
theorem d_X6_checkMemories_30 : decode (bc mX6_checkMemories) 30 = .ok (.iadd, 1) := by decide +kernel
theorem d_X6_checkMemories_31 : decode (bc mX6_checkMemories) 31 = .ok (.iaload, 1) := by decide +kernel
theorem d_X6_checkMemories_32 : decode (bc mX6_checkMemories) 32 = .ok (.invokestatic 155, 3) := by decide +kernel
theorem d_X6_checkMemories_35 : decode (bc mX6_checkMemories) 35 = .ok (.istore_n 3, 1) := by decide +kernel
theorem d_X6_checkMemories_36 : decode (bc mX6_checkMemories) 36 = .ok (.iload_n 3, 1) := by decide +kernel
theorem d_X6_checkMemories_37 : decode (bc mX6_checkMemories) 37 = .ok (.bipush (-6), 2) := by decide +kernel
theorem d_X6_checkMemories_39 : decode (bc mX6_checkMemories) 39 = .ok (.if_icmp .ne 11, 3) := by decide +kernel
theorem d_X6_checkMemories_42 : decode (bc mX6_checkMemories) 42 = .ok (.aload_n 0, 1) := by decide +kernel
theorem d_X6_checkMemories_43 : decode (bc mX6_checkMemories) 43 = .ok (.iload_n 2, 1) := by decide +kernel
theorem d_X6_checkMemories_44 : decode (bc mX6_checkMemories) 44 = .ok (.invokevirtual 159, 3) := by decide +kernel
theorem d_X6_checkMemories_47 : decode (bc mX6_checkMemories) 47 = .ok (.goto 86, 3) := by decide +kernel
theorem d_X6_checkMemories_50 : decode (bc mX6_checkMemories) 50 = .ok (.aload_n 0, 1) := by decide +kernel
theorem d_X6_checkMemories_51 : decode (bc mX6_checkMemories) 51 = .ok (.getfield 59, 3) := by decide +kernel
theorem d_X6_checkMemories_54 : decode (bc mX6_checkMemories) 54 = .ok (.iload_n 2, 1) := by decide +kernel
theorem d_X6_checkMemories_55 : decode (bc mX6_checkMemories) 55 = .ok (.iaload, 1) := by decide +kernel
theorem d_X6_checkMemories_56 : decode (bc mX6_checkMemories) 56 = .ok (.aload_n 1, 1) := by decide +kernel
theorem d_X6_checkMemories_57 : decode (bc mX6_checkMemories) 57 = .ok (.iload_n 3, 1) := by decide +kernel
theorem d_X6_checkMemories_58 : decode (bc mX6_checkMemories) 58 = .ok (.invokestatic 147, 3) := by decide +kernel
theorem d_X6_checkMemories_61 : decode (bc mX6_checkMemories) 61 = .ok (.iconst 3, 1) := by decide +kernel
theorem d_X6_checkMemories_62 : decode (bc mX6_checkMemories) 62 = .ok (.iadd, 1) := by decide +kernel
theorem d_X6_checkMemories_63 : decode (bc mX6_checkMemories) 63 = .ok (.iaload, 1) := by decide +kernel
theorem d_X6_checkMemories_64 : decode (bc mX6_checkMemories) 64 = .ok (.if_icmp .ne 22, 3) := by decide +kernel
theorem d_X6_checkMemories_67 : decode (bc mX6_checkMemories) 67 = .ok (.aload_n 0, 1) := by decide +kernel
theorem d_X6_checkMemories_68 : decode (bc mX6_checkMemories) 68 = .ok (.aload_n 1, 1) := by decide +kernel
theorem d_X6_checkMemories_69 : decode (bc mX6_checkMemories) 69 = .ok (.iload_n 3, 1) := by decide +kernel
theorem d_X6_checkMemories_70 : decode (bc mX6_checkMemories) 70 = .ok (.invokestatic 147, 3) := by decide +kernel
theorem d_X6_checkMemories_73 : decode (bc mX6_checkMemories) 73 = .ok (.iconst 2, 1) := by decide +kernel
theorem d_X6_checkMemories_74 : decode (bc mX6_checkMemories) 74 = .ok (.iadd, 1) := by decide +kernel
theorem d_X6_checkMemories_75 : decode (bc mX6_checkMemories) 75 = .ok (.iaload, 1) := by decide +kernel
theorem d_X6_checkMemories_76 : decode (bc mX6_checkMemories) 76 = .ok (.putfield 163, 3) := by decide +kernel
theorem d_X6_checkMemories_79 : decode (bc mX6_checkMemories) 79 = .ok (.aload_n 0, 1) := by decide +kernel
theorem d_X6_checkMemories_80 : decode (bc mX6_checkMemories) 80 = .ok (.aload_n 1, 1) := by decide +kernel
theorem d_X6_checkMemories_81 : decode (bc mX6_checkMemories) 81 = .ok (.iload_n 3, 1) := by decide +kernel
theorem d_X6_checkMemories_82 : decode (bc mX6_checkMemories) 82 = .ok (.invokevirtual 166, 3) := by decide +kernel
theorem d_X6_checkMemories_85 : decode (bc mX6_checkMemories) 85 = .ok (.return_, 1) := by decide +kernel
theorem d_X6_checkMemories_86 : decode (bc mX6_checkMemories) 86 = .ok (.aload_n 1, 1) := by decide +kernel
theorem d_X6_checkMemories_87 : decode (bc mX6_checkMemories) 87 = .ok (.iload_n 3, 1) := by decide +kernel
theorem d_X6_checkMemories_88 : decode (bc mX6_checkMemories) 88 = .ok (.invokestatic 147, 3) := by decide +kernel
theorem d_X6_checkMemories_91 : decode (bc mX6_checkMemories) 91 = .ok (.bipush 6, 2) := by decide +kernel
theorem d_X6_checkMemories_93 : decode (bc mX6_checkMemories) 93 = .ok (.iadd, 1) := by decide +kernel
theorem d_X6_checkMemories_94 : decode (bc mX6_checkMemories) 94 = .ok (.aload_n 0, 1) := by decide +kernel
theorem d_X6_checkMemories_95 : decode (bc mX6_checkMemories) 95 = .ok (.getfield 59, 3) := by decide +kernel
theorem d_X6_checkMemories_98 : decode (bc mX6_checkMemories) 98 = .ok (.iload_n 2, 1) := by decide +kernel
theorem d_X6_checkMemories_99 : decode (bc mX6_checkMemories) 99 = .ok (.iaload, 1) := by decide +kernel
theorem d_X6_checkMemories_100 : decode (bc mX6_checkMemories) 100 = .ok (.iadd, 1) := by decide +kernel
theorem d_X6_checkMemories_101 : decode (bc mX6_checkMemories) 101 = .ok (.iaload, 1) := by decide +kernel
theorem d_X6_checkMemories_102 : decode (bc mX6_checkMemories) 102 = .ok (.istore 4, 2) := by decide +kernel
theorem d_X6_checkMemories_104 : decode (bc mX6_checkMemories) 104 = .ok (.iload 4, 2) := by decide +kernel
theorem d_X6_checkMemories_106 : decode (bc mX6_checkMemories) 106 = .ok (.bipush 20, 2) := by decide +kernel
theorem d_X6_checkMemories_108 : decode (bc mX6_checkMemories) 108 = .ok (.if_icmp .lt 13, 3) := by decide +kernel
theorem d_X6_checkMemories_111 : decode (bc mX6_checkMemories) 111 = .ok (.aload_n 0, 1) := by decide +kernel
theorem d_X6_checkMemories_112 : decode (bc mX6_checkMemories) 112 = .ok (.iload 4, 2) := by decide +kernel
theorem d_X6_checkMemories_114 : decode (bc mX6_checkMemories) 114 = .ok (.bipush 20, 2) := by decide +kernel
theorem d_X6_checkMemories_116 : decode (bc mX6_checkMemories) 116 = .ok (.isub, 1) := by decide +kernel
theorem d_X6_checkMemories_117 : decode (bc mX6_checkMemories) 117 = .ok (.putfield 169, 3) := by decide +kernel
theorem d_X6_checkMemories_120 : decode (bc mX6_checkMemories) 120 = .ok (.return_, 1) := by decide +kernel
theorem d_X6_checkMemories_121 : decode (bc mX6_checkMemories) 121 = .ok (.aload_n 0, 1) := by decide +kernel
theorem d_X6_checkMemories_122 : decode (bc mX6_checkMemories) 122 = .ok (.aload_n 1, 1) := by decide +kernel
theorem d_X6_checkMemories_123 : decode (bc mX6_checkMemories) 123 = .ok (.iload_n 2, 1) := by decide +kernel
theorem d_X6_checkMemories_124 : decode (bc mX6_checkMemories) 124 = .ok (.aload_n 1, 1) := by decide +kernel
theorem d_X6_checkMemories_125 : decode (bc mX6_checkMemories) 125 = .ok (.iload 4, 2) := by decide +kernel
theorem d_X6_checkMemories_127 : decode (bc mX6_checkMemories) 127 = .ok (.invokestatic 172, 3) := by decide +kernel
theorem d_X6_checkMemories_130 : decode (bc mX6_checkMemories) 130 = .ok (.invokevirtual 175, 3) := by decide +kernel
theorem d_X6_checkMemories_133 : decode (bc mX6_checkMemories) 133 = .ok (.goto (-133), 3) := by decide +kernel
theorem d_X6_checkMemories_136 : decode (bc mX6_checkMemories) 136 = .ok (.aload_n 0, 1) := by decide +kernel
theorem d_X6_checkMemories_137 : decode (bc mX6_checkMemories) 137 = .ok (.getfield 47, 3) := by decide +kernel
theorem d_X6_checkMemories_140 : decode (bc mX6_checkMemories) 140 = .ok (.iload_n 2, 1) := by decide +kernel
theorem d_X6_checkMemories_141 : decode (bc mX6_checkMemories) 141 = .ok (.iconst 2, 1) := by decide +kernel
theorem d_X6_checkMemories_142 : decode (bc mX6_checkMemories) 142 = .ok (.iastore, 1) := by decide +kernel
theorem d_X6_checkMemories_143 : decode (bc mX6_checkMemories) 143 = .ok (.aload_n 0, 1) := by decide +kernel
theorem d_X6_checkMemories_144 : decode (bc mX6_checkMemories) 144 = .ok (.getfield 62, 3) := by decide +kernel
theorem d_X6_checkMemories_147 : decode (bc mX6_checkMemories) 147 = .ok (.iload_n 2, 1) := by decide +kernel
theorem d_X6_checkMemories_148 : decode (bc mX6_checkMemories) 148 = .ok (.iconst 0, 1) := by decide +kernel
theorem d_X6_checkMemories_149 : decode (bc mX6_checkMemories) 149 = .ok (.iastore, 1) := by decide +kernel
theorem d_X6_checkMemories_150 : decode (bc mX6_checkMemories) 150 = .ok (.aload_n 0, 1) := by decide +kernel
theorem d_X6_checkMemories_151 : decode (bc mX6_checkMemories) 151 = .ok (.getfield 68, 3) := by decide +kernel
theorem d_X6_checkMemories_154 : decode (bc mX6_checkMemories) 154 = .ok (.iload_n 2, 1) := by decide +kernel
theorem d_X6_checkMemories_155 : decode (bc mX6_checkMemories) 155 = .ok (.iconst 0, 1) := by decide +kernel
theorem d_X6_checkMemories_156 : decode (bc mX6_checkMemories) 156 = .ok (.iastore, 1) := by decide +kernel
theorem d_X6_checkMemories_157 : decode (bc mX6_checkMemories) 157 = .ok (.aload_n 0, 1) := by decide +kernel
theorem d_X6_checkMemories_158 : decode (bc mX6_checkMemories) 158 = .ok (.getfield 77, 3) := by decide +kernel
theorem d_X6_checkMemories_161 : decode (bc mX6_checkMemories) 161 = .ok (.iload_n 2, 1) := by decide +kernel
theorem d_X6_checkMemories_162 : decode (bc mX6_checkMemories) 162 = .ok (.iconst 0, 1) := by decide +kernel
theorem d_X6_checkMemories_163 : decode (bc mX6_checkMemories) 163 = .ok (.iastore, 1) := by decide +kernel
theorem d_X6_checkMemories_164 : decode (bc mX6_checkMemories) 164 = .ok (.aload_n 0, 1) := by decide +kernel
theorem d_X6_checkMemories_165 : decode (bc mX6_checkMemories) 165 = .ok (.getfield 80, 3) := by decide +kernel
theorem d_X6_checkMemories_168 : decode (bc mX6_checkMemories) 168 = .ok (.iload_n 2, 1) := by decide +kernel
theorem d_X6_checkMemories_169 : decode (bc mX6_checkMemories) 169 = .ok (.iconst 0, 1) := by decide +kernel
theorem d_X6_checkMemories_170 : decode (bc mX6_checkMemories) 170 = .ok (.iastore, 1) := by decide +kernel
theorem d_X6_checkMemories_171 : decode (bc mX6_checkMemories) 171 = .ok (.return_, 1) := by decide +kernel
theorem d_X6_push_0 : decode (bc mX6_push) 0 = .ok (.aload_n 0, 1) := by decide +kernel
theorem d_X6_push_1 : decode (bc mX6_push) 1 = .ok (.getfield 65, 3) := by decide +kernel
theorem d_X6_push_4 : decode (bc mX6_push) 4 = .ok (.bipush 40, 2) := by decide +kernel
theorem d_X6_push_6 : decode (bc mX6_push) 6 = .ok (.iload_n 1, 1) := by decide +kernel
theorem d_X6_push_7 : decode (bc mX6_push) 7 = .ok (.imul, 1) := by decide +kernel
theorem d_X6_push_8 : decode (bc mX6_push) 8 = .ok (.aload_n 0, 1) := by decide +kernel
theorem d_X6_push_9 : decode (bc mX6_push) 9 = .ok (.getfield 68, 3) := by decide +kernel
theorem d_X6_push_12 : decode (bc mX6_push) 12 = .ok (.iload_n 1, 1) := by decide +kernel
theorem d_X6_push_13 : decode (bc mX6_push) 13 = .ok (.iaload, 1) := by decide +kernel
theorem d_X6_push_14 : decode (bc mX6_push) 14 = .ok (.iadd, 1) := by decide +kernel
theorem d_X6_push_15 : decode (bc mX6_push) 15 = .ok (.iload_n 2, 1) := by decide +kernel
theorem d_X6_push_16 : decode (bc mX6_push) 16 = .ok (.iastore, 1) := by decide +kernel
theorem d_X6_push_17 : decode (bc mX6_push) 17 = .ok (.aload_n 0, 1) := by decide +kernel
theorem d_X6_push_18 : decode (bc mX6_push) 18 = .ok (.getfield 68, 3) := by decide +kernel
theorem d_X6_push_21 : decode (bc mX6_push) 21 = .ok (.iload_n 1, 1) := by decide +kernel
theorem d_X6_push_22 : decode (bc mX6_push) 22 = .ok (.dup2, 1) := by decide +kernel
theorem d_X6_push_23 : decode (bc mX6_push) 23 = .ok (.iaload, 1) := by decide +kernel
theorem d_X6_push_24 : decode (bc mX6_push) 24 = .ok (.iconst 1, 1) := by decide +kernel
theorem d_X6_push_25 : decode (bc mX6_push) 25 = .ok (.iadd, 1) := by decide +kernel
theorem d_X6_push_26 : decode (bc mX6_push) 26 = .ok (.iastore, 1) := by decide +kernel
theorem d_X6_push_27 : decode (bc mX6_push) 27 = .ok (.return_, 1) := by decide +kernel
theorem d_X6_pop_0 : decode (bc mX6_pop) 0 = .ok (.aload_n 0, 1) := by decide +kernel
theorem d_X6_pop_1 : decode (bc mX6_pop) 1 = .ok (.getfield 68, 3) := by decide +kernel
theorem d_X6_pop_4 : decode (bc mX6_pop) 4 = .ok (.iload_n 1, 1) := by decide +kernel
theorem d_X6_pop_5 : decode (bc mX6_pop) 5 = .ok (.dup2, 1) := by decide +kernel
theorem d_X6_pop_6 : decode (bc mX6_pop) 6 = .ok (.iaload, 1) := by decide +kernel
theorem d_X6_pop_7 : decode (bc mX6_pop) 7 = .ok (.iconst 1, 1) := by decide +kernel
theorem d_X6_pop_8 : decode (bc mX6_pop) 8 = .ok (.isub, 1) := by decide +kernel
theorem d_X6_pop_9 : decode (bc mX6_pop) 9 = .ok (.iastore, 1) := by decide +kernel
theorem d_X6_pop_10 : decode (bc mX6_pop) 10 = .ok (.aload_n 0, 1) := by decide +kernel
theorem d_X6_pop_11 : decode (bc mX6_pop) 11 = .ok (.getfield 65, 3) := by decide +kernel
theorem d_X6_pop_14 : decode (bc mX6_pop) 14 = .ok (.bipush 40, 2) := by decide +kernel
theorem d_X6_pop_16 : decode (bc mX6_pop) 16 = .ok (.iload_n 1, 1) := by decide +kernel
theorem d_X6_pop_17 : decode (bc mX6_pop) 17 = .ok (.imul, 1) := by decide +kernel
theorem d_X6_pop_18 : decode (bc mX6_pop) 18 = .ok (.aload_n 0, 1) := by decide +kernel
theorem d_X6_pop_19 : decode (bc mX6_pop) 19 = .ok (.getfield 68, 3) := by decide +kernel
theorem d_X6_pop_22 : decode (bc mX6_pop) 22 = .ok (.iload_n 1, 1) := by decide +kernel
theorem d_X6_pop_23 : decode (bc mX6_pop) 23 = .ok (.iaload, 1) := by decide +kernel
theorem d_X6_pop_24 : decode (bc mX6_pop) 24 = .ok (.iadd, 1) := by decide +kernel
theorem d_X6_pop_25 : decode (bc mX6_pop) 25 = .ok (.iaload, 1) := by decide +kernel
theorem d_X6_pop_26 : decode (bc mX6_pop) 26 = .ok (.ireturn, 1) := by decide +kernel
theorem d_X6_lookOf_0 : decode (bc mX6_lookOf) 0 = .ok (.iconst 0, 1) := by decide +kernel
theorem d_X6_lookOf_1 : decode (bc mX6_lookOf) 1 = .ok (.istore_n 3, 1) := by decide +kernel
theorem d_X6_lookOf_2 : decode (bc mX6_lookOf) 2 = .ok (.iload_n 3, 1) := by decide +kernel
theorem d_X6_lookOf_3 : decode (bc mX6_lookOf) 3 = .ok (.aload_n 0, 1) := by decide +kernel
theorem d_X6_lookOf_4 : decode (bc mX6_lookOf) 4 = .ok (.getfield 77, 3) := by decide +kernel
theorem d_X6_lookOf_7 : decode (bc mX6_lookOf) 7 = .ok (.iload_n 1, 1) := by decide +kernel
theorem d_X6_lookOf_8 : decode (bc mX6_lookOf) 8 = .ok (.iaload, 1) := by decide +kernel
theorem d_X6_lookOf_9 : decode (bc mX6_lookOf) 9 = .ok (.if_icmp .ge 36, 3) := by decide +kernel
theorem d_X6_lookOf_12 : decode (bc mX6_lookOf) 12 = .ok (.aload_n 0, 1) := by decide +kernel
theorem d_X6_lookOf_13 : decode (bc mX6_lookOf) 13 = .ok (.getfield 71, 3) := by decide +kernel
theorem d_X6_lookOf_16 : decode (bc mX6_lookOf) 16 = .ok (.bipush 17, 2) := by decide +kernel
theorem d_X6_lookOf_18 : decode (bc mX6_lookOf) 18 = .ok (.iload_n 1, 1) := by decide +kernel
theorem d_X6_lookOf_19 : decode (bc mX6_lookOf) 19 = .ok (.imul, 1) := by decide +kernel
theorem d_X6_lookOf_20 : decode (bc mX6_lookOf) 20 = .ok (.iload_n 3, 1) := by decide +kernel
theorem d_X6_lookOf_21 : decode (bc mX6_lookOf) 21 = .ok (.iadd, 1) := by decide +kernel
theorem d_X6_lookOf_22 : decode (bc mX6_lookOf) 22 = .ok (.iaload, 1) := by decide +kernel
theorem d_X6_lookOf_23 : decode (bc mX6_lookOf) 23 = .ok (.iload_n 2, 1) := by decide +kernel
theorem d_X6_lookOf_24 : decode (bc mX6_lookOf) 24 = .ok (.if_icmp .ne 15, 3) := by decide +kernel
theorem d_X6_lookOf_27 : decode (bc mX6_lookOf) 27 = .ok (.aload_n 0, 1) := by decide +kernel
theorem d_X6_lookOf_28 : decode (bc mX6_lookOf) 28 = .ok (.getfield 74, 3) := by decide +kernel
theorem d_X6_lookOf_31 : decode (bc mX6_lookOf) 31 = .ok (.bipush 17, 2) := by decide +kernel
theorem d_X6_lookOf_33 : decode (bc mX6_lookOf) 33 = .ok (.iload_n 1, 1) := by decide +kernel
theorem d_X6_lookOf_34 : decode (bc mX6_lookOf) 34 = .ok (.imul, 1) := by decide +kernel
theorem d_X6_lookOf_35 : decode (bc mX6_lookOf) 35 = .ok (.iload_n 3, 1) := by decide +kernel
theorem d_X6_lookOf_36 : decode (bc mX6_lookOf) 36 = .ok (.iadd, 1) := by decide +kernel
theorem d_X6_lookOf_37 : decode (bc mX6_lookOf) 37 = .ok (.iaload, 1) := by decide +kernel
theorem d_X6_lookOf_38 : decode (bc mX6_lookOf) 38 = .ok (.ireturn, 1) := by decide +kernel
theorem d_X6_lookOf_39 : decode (bc mX6_lookOf) 39 = .ok (.iinc 3 1, 3) := by decide +kernel
theorem d_X6_lookOf_42 : decode (bc mX6_lookOf) 42 = .ok (.goto (-40), 3) := by decide +kernel
theorem d_X6_lookOf_45 : decode (bc mX6_lookOf) 45 = .ok (.bipush (-6), 2) := by decide +kernel
theorem d_X6_lookOf_47 : decode (bc mX6_lookOf) 47 = .ok (.ireturn, 1) := by decide +kernel
theorem d_X6_endBaking_0 : decode (bc mX6_endBaking) 0 = .ok (.aload_n 0, 1) := by decide +kernel
theorem d_X6_endBaking_1 : decode (bc mX6_endBaking) 1 = .ok (.iload_n 3, 1) := by decide +kernel
theorem d_X6_endBaking_2 : decode (bc mX6_endBaking) 2 = .ok (.putfield 163, 3) := by decide +kernel
theorem d_X6_endBaking_5 : decode (bc mX6_endBaking) 5 = .ok (.aload_n 1, 1) := by decide +kernel
theorem d_X6_endBaking_6 : decode (bc mX6_endBaking) 6 = .ok (.sipush 800, 3) := by decide +kernel
theorem d_X6_endBaking_9 : decode (bc mX6_endBaking) 9 = .ok (.iload_n 2, 1) := by decide +kernel
theorem d_X6_endBaking_10 : decode (bc mX6_endBaking) 10 = .ok (.iadd, 1) := by decide +kernel
theorem d_X6_endBaking_11 : decode (bc mX6_endBaking) 11 = .ok (.dup2, 1) := by decide +kernel
theorem d_X6_endBaking_12 : decode (bc mX6_endBaking) 12 = .ok (.iaload, 1) := by decide +kernel
theorem d_X6_endBaking_13 : decode (bc mX6_endBaking) 13 = .ok (.iconst 1, 1) := by decide +kernel
theorem d_X6_endBaking_14 : decode (bc mX6_endBaking) 14 = .ok (.iadd, 1) := by decide +kernel
theorem d_X6_endBaking_15 : decode (bc mX6_endBaking) 15 = .ok (.iastore, 1) := by decide +kernel
theorem d_X6_endBaking_16 : decode (bc mX6_endBaking) 16 = .ok (.aload_n 1, 1) := by decide +kernel
theorem d_X6_endBaking_17 : decode (bc mX6_endBaking) 17 = .ok (.sipush 812, 3) := by decide +kernel
theorem d_X6_endBaking_20 : decode (bc mX6_endBaking) 20 = .ok (.dup2, 1) := by decide +kernel
theorem d_X6_endBaking_21 : decode (bc mX6_endBaking) 21 = .ok (.iaload, 1) := by decide +kernel
theorem d_X6_endBaking_22 : decode (bc mX6_endBaking) 22 = .ok (.aload_n 0, 1) := by decide +kernel
theorem d_X6_endBaking_23 : decode (bc mX6_endBaking) 23 = .ok (.getfield 80, 3) := by decide +kernel
theorem d_X6_endBaking_26 : decode (bc mX6_endBaking) 26 = .ok (.iload_n 2, 1) := by decide +kernel
theorem d_X6_endBaking_27 : decode (bc mX6_endBaking) 27 = .ok (.iaload, 1) := by decide +kernel
theorem d_X6_endBaking_28 : decode (bc mX6_endBaking) 28 = .ok (.iadd, 1) := by decide +kernel
theorem d_X6_endBaking_29 : decode (bc mX6_endBaking) 29 = .ok (.iastore, 1) := by decide +kernel
theorem d_X6_endBaking_30 : decode (bc mX6_endBaking) 30 = .ok (.iload_n 3, 1) := by decide +kernel
theorem d_X6_endBaking_31 : decode (bc mX6_endBaking) 31 = .ok (.bipush 100, 2) := by decide +kernel
theorem d_X6_endBaking_33 : decode (bc mX6_endBaking) 33 = .ok (.if_icmp .ne 10, 3) := by decide +kernel
theorem d_X6_endBaking_36 : decode (bc mX6_endBaking) 36 = .ok (.aload_n 1, 1) := by decide +kernel
theorem d_X6_endBaking_37 : decode (bc mX6_endBaking) 37 = .ok (.iconst 1, 1) := by decide +kernel
theorem d_X6_endBaking_38 : decode (bc mX6_endBaking) 38 = .ok (.iaload, 1) := by decide +kernel
theorem d_X6_endBaking_39 : decode (bc mX6_endBaking) 39 = .ok (.ifCond .ne 4, 3) := by decide +kernel
theorem d_X6_endBaking_42 : decode (bc mX6_endBaking) 42 = .ok (.return_, 1) := by decide +kernel
theorem d_X6_endBaking_43 : decode (bc mX6_endBaking) 43 = .ok (.aload_n 1, 1) := by decide +kernel
theorem d_X6_endBaking_44 : decode (bc mX6_endBaking) 44 = .ok (.aload_n 1, 1) := by decide +kernel
theorem d_X6_endBaking_45 : decode (bc mX6_endBaking) 45 = .ok (.sipush 814, 3) := by decide +kernel
theorem d_X6_endBaking_48 : decode (bc mX6_endBaking) 48 = .ok (.iaload, 1) := by decide +kernel
theorem d_X6_endBaking_49 : decode (bc mX6_endBaking) 49 = .ok (.invokestatic 151, 3) := by decide +kernel
theorem d_X6_endBaking_52 : decode (bc mX6_endBaking) 52 = .ok (.aload_n 1, 1) := by decide +kernel
theorem d_X6_endBaking_53 : decode (bc mX6_endBaking) 53 = .ok (.sipush 814, 3) := by decide +kernel
theorem d_X6_endBaking_56 : decode (bc mX6_endBaking) 56 = .ok (.dup2, 1) := by decide +kernel
theorem d_X6_endBaking_57 : decode (bc mX6_endBaking) 57 = .ok (.iaload, 1) := by decide +kernel
theorem d_X6_endBaking_58 : decode (bc mX6_endBaking) 58 = .ok (.iconst 1, 1) := by decide +kernel
theorem d_X6_endBaking_59 : decode (bc mX6_endBaking) 59 = .ok (.iadd, 1) := by decide +kernel
theorem d_X6_endBaking_60 : decode (bc mX6_endBaking) 60 = .ok (.iastore, 1) := by decide +kernel
theorem d_X6_endBaking_61 : decode (bc mX6_endBaking) 61 = .ok (.aload_n 1, 1) := by decide +kernel
theorem d_X6_endBaking_62 : decode (bc mX6_endBaking) 62 = .ok (.sipush 816, 3) := by decide +kernel
theorem d_X6_endBaking_65 : decode (bc mX6_endBaking) 65 = .ok (.aload_n 1, 1) := by decide +kernel
theorem d_X6_endBaking_66 : decode (bc mX6_endBaking) 66 = .ok (.sipush 815, 3) := by decide +kernel
theorem d_X6_endBaking_69 : decode (bc mX6_endBaking) 69 = .ok (.iaload, 1) := by decide +kernel
theorem d_X6_endBaking_70 : decode (bc mX6_endBaking) 70 = .ok (.iastore, 1) := by decide +kernel
theorem d_X6_endBaking_71 : decode (bc mX6_endBaking) 71 = .ok (.aload_n 1, 1) := by decide +kernel
theorem d_X6_endBaking_72 : decode (bc mX6_endBaking) 72 = .ok (.sipush 815, 3) := by decide +kernel
theorem d_X6_endBaking_75 : decode (bc mX6_endBaking) 75 = .ok (.dup2, 1) := by decide +kernel
theorem d_X6_endBaking_76 : decode (bc mX6_endBaking) 76 = .ok (.iaload, 1) := by decide +kernel
theorem d_X6_endBaking_77 : decode (bc mX6_endBaking) 77 = .ok (.iconst 1, 1) := by decide +kernel
theorem d_X6_endBaking_78 : decode (bc mX6_endBaking) 78 = .ok (.iadd, 1) := by decide +kernel
theorem d_X6_endBaking_79 : decode (bc mX6_endBaking) 79 = .ok (.iastore, 1) := by decide +kernel
theorem d_X6_endBaking_80 : decode (bc mX6_endBaking) 80 = .ok (.aload_n 1, 1) := by decide +kernel
theorem d_X6_endBaking_81 : decode (bc mX6_endBaking) 81 = .ok (.sipush 817, 3) := by decide +kernel
theorem d_X6_endBaking_84 : decode (bc mX6_endBaking) 84 = .ok (.iload_n 2, 1) := by decide +kernel
theorem d_X6_endBaking_85 : decode (bc mX6_endBaking) 85 = .ok (.iastore, 1) := by decide +kernel
theorem d_X6_endBaking_86 : decode (bc mX6_endBaking) 86 = .ok (.aload_n 1, 1) := by decide +kernel
theorem d_X6_endBaking_87 : decode (bc mX6_endBaking) 87 = .ok (.sipush 818, 3) := by decide +kernel
theorem d_X6_endBaking_90 : decode (bc mX6_endBaking) 90 = .ok (.iload_n 3, 1) := by decide +kernel
theorem d_X6_endBaking_91 : decode (bc mX6_endBaking) 91 = .ok (.iastore, 1) := by decide +kernel
theorem d_X6_endBaking_92 : decode (bc mX6_endBaking) 92 = .ok (.aload_n 1, 1) := by decide +kernel
theorem d_X6_endBaking_93 : decode (bc mX6_endBaking) 93 = .ok (.sipush 819, 3) := by decide +kernel
theorem d_X6_endBaking_96 : decode (bc mX6_endBaking) 96 = .ok (.aload_n 0, 1) := by decide +kernel
theorem d_X6_endBaking_97 : decode (bc mX6_endBaking) 97 = .ok (.getfield 77, 3) := by decide +kernel
theorem d_X6_endBaking_100 : decode (bc mX6_endBaking) 100 = .ok (.iload_n 2, 1) := by decide +kernel
theorem d_X6_endBaking_101 : decode (bc mX6_endBaking) 101 = .ok (.iaload, 1) := by decide +kernel
theorem d_X6_endBaking_102 : decode (bc mX6_endBaking) 102 = .ok (.iastore, 1) := by decide +kernel
theorem d_X6_endBaking_103 : decode (bc mX6_endBaking) 103 = .ok (.aload_n 1, 1) := by decide +kernel
theorem d_X6_endBaking_104 : decode (bc mX6_endBaking) 104 = .ok (.sipush 820, 3) := by decide +kernel
theorem d_X6_endBaking_107 : decode (bc mX6_endBaking) 107 = .ok (.aload_n 0, 1) := by decide +kernel
theorem d_X6_endBaking_108 : decode (bc mX6_endBaking) 108 = .ok (.getfield 80, 3) := by decide +kernel
theorem d_X6_endBaking_111 : decode (bc mX6_endBaking) 111 = .ok (.iload_n 2, 1) := by decide +kernel
theorem d_X6_endBaking_112 : decode (bc mX6_endBaking) 112 = .ok (.iaload, 1) := by decide +kernel
theorem d_X6_endBaking_113 : decode (bc mX6_endBaking) 113 = .ok (.iastore, 1) := by decide +kernel
theorem d_X6_endBaking_114 : decode (bc mX6_endBaking) 114 = .ok (.aload_n 1, 1) := by decide +kernel
theorem d_X6_endBaking_115 : decode (bc mX6_endBaking) 115 = .ok (.sipush 821, 3) := by decide +kernel
theorem d_X6_endBaking_118 : decode (bc mX6_endBaking) 118 = .ok (.iconst 1, 1) := by decide +kernel
theorem d_X6_endBaking_119 : decode (bc mX6_endBaking) 119 = .ok (.iastore, 1) := by decide +kernel
theorem d_X6_endBaking_120 : decode (bc mX6_endBaking) 120 = .ok (.iconst 0, 1) := by decide +kernel
theorem d_X6_endBaking_121 : decode (bc mX6_endBaking) 121 = .ok (.istore 4, 2) := by decide +kernel
theorem d_X6_endBaking_123 : decode (bc mX6_endBaking) 123 = .ok (.iload 4, 2) := by decide +kernel
theorem d_X6_endBaking_125 : decode (bc mX6_endBaking) 125 = .ok (.bipush 17, 2) := by decide +kernel
theorem d_X6_endBaking_127 : decode (bc mX6_endBaking) 127 = .ok (.if_icmp .ge 79, 3) := by decide +kernel
theorem d_X6_endBaking_130 : decode (bc mX6_endBaking) 130 = .ok (.aload_n 1, 1) := by decide +kernel
theorem d_X6_endBaking_131 : decode (bc mX6_endBaking) 131 = .ok (.sipush 822, 3) := by decide +kernel
theorem d_X6_endBaking_134 : decode (bc mX6_endBaking) 134 = .ok (.iload 4, 2) := by decide +kernel
theorem d_X6_endBaking_136 : decode (bc mX6_endBaking) 136 = .ok (.iadd, 1) := by decide +kernel
theorem d_X6_endBaking_137 : decode (bc mX6_endBaking) 137 = .ok (.iload 4, 2) := by decide +kernel
theorem d_X6_endBaking_139 : decode (bc mX6_endBaking) 139 = .ok (.aload_n 0, 1) := by decide +kernel
theorem d_X6_endBaking_140 : decode (bc mX6_endBaking) 140 = .ok (.getfield 77, 3) := by decide +kernel
theorem d_X6_endBaking_143 : decode (bc mX6_endBaking) 143 = .ok (.iload_n 2, 1) := by decide +kernel
theorem d_X6_endBaking_144 : decode (bc mX6_endBaking) 144 = .ok (.iaload, 1) := by decide +kernel
theorem d_X6_endBaking_145 : decode (bc mX6_endBaking) 145 = .ok (.if_icmp .ge 18, 3) := by decide +kernel
theorem d_X6_endBaking_148 : decode (bc mX6_endBaking) 148 = .ok (.aload_n 0, 1) := by decide +kernel
theorem d_X6_endBaking_149 : decode (bc mX6_endBaking) 149 = .ok (.getfield 71, 3) := by decide +kernel
theorem d_X6_endBaking_152 : decode (bc mX6_endBaking) 152 = .ok (.bipush 17, 2) := by decide +kernel
theorem d_X6_endBaking_154 : decode (bc mX6_endBaking) 154 = .ok (.iload_n 2, 1) := by decide +kernel
theorem d_X6_endBaking_155 : decode (bc mX6_endBaking) 155 = .ok (.imul, 1) := by decide +kernel
theorem d_X6_endBaking_156 : decode (bc mX6_endBaking) 156 = .ok (.iload 4, 2) := by decide +kernel
theorem d_X6_endBaking_158 : decode (bc mX6_endBaking) 158 = .ok (.iadd, 1) := by decide +kernel
theorem d_X6_endBaking_159 : decode (bc mX6_endBaking) 159 = .ok (.iaload, 1) := by decide +kernel
theorem d_X6_endBaking_160 : decode (bc mX6_endBaking) 160 = .ok (.goto 4, 3) := by decide +kernel
theorem d_X6_endBaking_163 : decode (bc mX6_endBaking) 163 = .ok (.iconst 0, 1) := by decide +kernel
theorem d_X6_endBaking_164 : decode (bc mX6_endBaking) 164 = .ok (.iastore, 1) := by decide +kernel
theorem d_X6_endBaking_165 : decode (bc mX6_endBaking) 165 = .ok (.aload_n 1, 1) := by decide +kernel
theorem d_X6_endBaking_166 : decode (bc mX6_endBaking) 166 = .ok (.sipush 839, 3) := by decide +kernel
theorem d_X6_endBaking_169 : decode (bc mX6_endBaking) 169 = .ok (.iload 4, 2) := by decide +kernel
theorem d_X6_endBaking_171 : decode (bc mX6_endBaking) 171 = .ok (.iadd, 1) := by decide +kernel
theorem d_X6_endBaking_172 : decode (bc mX6_endBaking) 172 = .ok (.iload 4, 2) := by decide +kernel
theorem d_X6_endBaking_174 : decode (bc mX6_endBaking) 174 = .ok (.aload_n 0, 1) := by decide +kernel
theorem d_X6_endBaking_175 : decode (bc mX6_endBaking) 175 = .ok (.getfield 77, 3) := by decide +kernel
theorem d_X6_endBaking_178 : decode (bc mX6_endBaking) 178 = .ok (.iload_n 2, 1) := by decide +kernel
theorem d_X6_endBaking_179 : decode (bc mX6_endBaking) 179 = .ok (.iaload, 1) := by decide +kernel
theorem d_X6_endBaking_180 : decode (bc mX6_endBaking) 180 = .ok (.if_icmp .ge 18, 3) := by decide +kernel
theorem d_X6_endBaking_183 : decode (bc mX6_endBaking) 183 = .ok (.aload_n 0, 1) := by decide +kernel
theorem d_X6_endBaking_184 : decode (bc mX6_endBaking) 184 = .ok (.getfield 74, 3) := by decide +kernel
theorem d_X6_endBaking_187 : decode (bc mX6_endBaking) 187 = .ok (.bipush 17, 2) := by decide +kernel
theorem d_X6_endBaking_189 : decode (bc mX6_endBaking) 189 = .ok (.iload_n 2, 1) := by decide +kernel
theorem d_X6_endBaking_190 : decode (bc mX6_endBaking) 190 = .ok (.imul, 1) := by decide +kernel
theorem d_X6_endBaking_191 : decode (bc mX6_endBaking) 191 = .ok (.iload 4, 2) := by decide +kernel
theorem d_X6_endBaking_193 : decode (bc mX6_endBaking) 193 = .ok (.iadd, 1) := by decide +kernel
theorem d_X6_endBaking_194 : decode (bc mX6_endBaking) 194 = .ok (.iaload, 1) := by decide +kernel
theorem d_X6_endBaking_195 : decode (bc mX6_endBaking) 195 = .ok (.goto 4, 3) := by decide +kernel
theorem d_X6_endBaking_198 : decode (bc mX6_endBaking) 198 = .ok (.iconst 0, 1) := by decide +kernel
theorem d_X6_endBaking_199 : decode (bc mX6_endBaking) 199 = .ok (.iastore, 1) := by decide +kernel
theorem d_X6_endBaking_200 : decode (bc mX6_endBaking) 200 = .ok (.iinc 4 1, 3) := by decide +kernel
theorem d_X6_endBaking_203 : decode (bc mX6_endBaking) 203 = .ok (.goto (-80), 3) := by decide +kernel
theorem d_X6_endBaking_206 : decode (bc mX6_endBaking) 206 = .ok (.aload_n 1, 1) := by decide +kernel
theorem d_X6_endBaking_207 : decode (bc mX6_endBaking) 207 = .ok (.invokestatic 179, 3) := by decide +kernel
theorem d_X6_endBaking_210 : decode (bc mX6_endBaking) 210 = .ok (.return_, 1) := by decide +kernel
theorem d_X6_take_0 : decode (bc mX6_take) 0 = .ok (.aload_n 0, 1) := by decide +kernel
theorem d_X6_take_1 : decode (bc mX6_take) 1 = .ok (.getfield 71, 3) := by decide +kernel
theorem d_X6_take_4 : decode (bc mX6_take) 4 = .ok (.bipush 17, 2) := by decide +kernel
theorem d_X6_take_6 : decode (bc mX6_take) 6 = .ok (.iload_n 2, 1) := by decide +kernel
theorem d_X6_take_7 : decode (bc mX6_take) 7 = .ok (.imul, 1) := by decide +kernel
theorem d_X6_take_8 : decode (bc mX6_take) 8 = .ok (.aload_n 0, 1) := by decide +kernel
theorem d_X6_take_9 : decode (bc mX6_take) 9 = .ok (.getfield 77, 3) := by decide +kernel
theorem d_X6_take_12 : decode (bc mX6_take) 12 = .ok (.iload_n 2, 1) := by decide +kernel
theorem d_X6_take_13 : decode (bc mX6_take) 13 = .ok (.iaload, 1) := by decide +kernel
theorem d_X6_take_14 : decode (bc mX6_take) 14 = .ok (.iadd, 1) := by decide +kernel
theorem d_X6_take_15 : decode (bc mX6_take) 15 = .ok (.iload_n 3, 1) := by decide +kernel
theorem d_X6_take_16 : decode (bc mX6_take) 16 = .ok (.iastore, 1) := by decide +kernel
theorem d_X6_take_17 : decode (bc mX6_take) 17 = .ok (.aload_n 0, 1) := by decide +kernel
theorem d_X6_take_18 : decode (bc mX6_take) 18 = .ok (.getfield 74, 3) := by decide +kernel
theorem d_X6_take_21 : decode (bc mX6_take) 21 = .ok (.bipush 17, 2) := by decide +kernel
theorem d_X6_take_23 : decode (bc mX6_take) 23 = .ok (.iload_n 2, 1) := by decide +kernel
theorem d_X6_take_24 : decode (bc mX6_take) 24 = .ok (.imul, 1) := by decide +kernel
theorem d_X6_take_25 : decode (bc mX6_take) 25 = .ok (.aload_n 0, 1) := by decide +kernel
theorem d_X6_take_26 : decode (bc mX6_take) 26 = .ok (.getfield 77, 3) := by decide +kernel
theorem d_X6_take_29 : decode (bc mX6_take) 29 = .ok (.iload_n 2, 1) := by decide +kernel
theorem d_X6_take_30 : decode (bc mX6_take) 30 = .ok (.iaload, 1) := by decide +kernel
theorem d_X6_take_31 : decode (bc mX6_take) 31 = .ok (.iadd, 1) := by decide +kernel
theorem d_X6_take_32 : decode (bc mX6_take) 32 = .ok (.iload 4, 2) := by decide +kernel
theorem d_X6_take_34 : decode (bc mX6_take) 34 = .ok (.iastore, 1) := by decide +kernel
theorem d_X6_take_35 : decode (bc mX6_take) 35 = .ok (.aload_n 0, 1) := by decide +kernel
theorem d_X6_take_36 : decode (bc mX6_take) 36 = .ok (.getfield 77, 3) := by decide +kernel
theorem d_X6_take_39 : decode (bc mX6_take) 39 = .ok (.iload_n 2, 1) := by decide +kernel
theorem d_X6_take_40 : decode (bc mX6_take) 40 = .ok (.dup2, 1) := by decide +kernel
theorem d_X6_take_41 : decode (bc mX6_take) 41 = .ok (.iaload, 1) := by decide +kernel
theorem d_X6_take_42 : decode (bc mX6_take) 42 = .ok (.iconst 1, 1) := by decide +kernel
theorem d_X6_take_43 : decode (bc mX6_take) 43 = .ok (.iadd, 1) := by decide +kernel
theorem d_X6_take_44 : decode (bc mX6_take) 44 = .ok (.iastore, 1) := by decide +kernel
theorem d_X6_take_45 : decode (bc mX6_take) 45 = .ok (.iload 4, 2) := by decide +kernel
theorem d_X6_take_47 : decode (bc mX6_take) 47 = .ok (.bipush 100, 2) := by decide +kernel
theorem d_X6_take_49 : decode (bc mX6_take) 49 = .ok (.if_icmp .ne 14, 3) := by decide +kernel
theorem d_X6_take_52 : decode (bc mX6_take) 52 = .ok (.aload_n 0, 1) := by decide +kernel
theorem d_X6_take_53 : decode (bc mX6_take) 53 = .ok (.aload_n 1, 1) := by decide +kernel
theorem d_X6_take_54 : decode (bc mX6_take) 54 = .ok (.iload_n 2, 1) := by decide +kernel
theorem d_X6_take_55 : decode (bc mX6_take) 55 = .ok (.bipush 100, 2) := by decide +kernel
theorem d_X6_take_57 : decode (bc mX6_take) 57 = .ok (.invokevirtual 183, 3) := by decide +kernel
theorem d_X6_take_60 : decode (bc mX6_take) 60 = .ok (.goto 10, 3) := by decide +kernel
theorem d_X6_take_63 : decode (bc mX6_take) 63 = .ok (.aload_n 0, 1) := by decide +kernel
theorem d_X6_take_64 : decode (bc mX6_take) 64 = .ok (.iload_n 2, 1) := by decide +kernel
theorem d_X6_take_65 : decode (bc mX6_take) 65 = .ok (.iload 4, 2) := by decide +kernel
theorem d_X6_take_67 : decode (bc mX6_take) 67 = .ok (.invokevirtual 186, 3) := by decide +kernel
theorem d_X6_take_70 : decode (bc mX6_take) 70 = .ok (.return_, 1) := by decide +kernel
theorem d_X6_reckon_0 : decode (bc mX6_reckon) 0 = .ok (.iload_n 0, 1) := by decide +kernel
theorem d_X6_reckon_1 : decode (bc mX6_reckon) 1 = .ok (.iconst 3, 1) := by decide +kernel
theorem d_X6_reckon_2 : decode (bc mX6_reckon) 2 = .ok (.if_icmp .ne 9, 3) := by decide +kernel
theorem d_X6_reckon_5 : decode (bc mX6_reckon) 5 = .ok (.iload_n 1, 1) := by decide +kernel
theorem d_X6_reckon_6 : decode (bc mX6_reckon) 6 = .ok (.iload_n 2, 1) := by decide +kernel
theorem d_X6_reckon_7 : decode (bc mX6_reckon) 7 = .ok (.iadd, 1) := by decide +kernel
theorem d_X6_reckon_8 : decode (bc mX6_reckon) 8 = .ok (.goto 20, 3) := by decide +kernel
theorem d_X6_reckon_11 : decode (bc mX6_reckon) 11 = .ok (.iload_n 0, 1) := by decide +kernel
theorem d_X6_reckon_12 : decode (bc mX6_reckon) 12 = .ok (.iconst 4, 1) := by decide +kernel
theorem d_X6_reckon_13 : decode (bc mX6_reckon) 13 = .ok (.if_icmp .ne 12, 3) := by decide +kernel
theorem d_X6_reckon_16 : decode (bc mX6_reckon) 16 = .ok (.iload_n 1, 1) := by decide +kernel
theorem d_X6_reckon_17 : decode (bc mX6_reckon) 17 = .ok (.iload_n 2, 1) := by decide +kernel
theorem d_X6_reckon_18 : decode (bc mX6_reckon) 18 = .ok (.isub, 1) := by decide +kernel
theorem d_X6_reckon_19 : decode (bc mX6_reckon) 19 = .ok (.bipush 100, 2) := by decide +kernel
theorem d_X6_reckon_21 : decode (bc mX6_reckon) 21 = .ok (.iadd, 1) := by decide +kernel
theorem d_X6_reckon_22 : decode (bc mX6_reckon) 22 = .ok (.goto 6, 3) := by decide +kernel
theorem d_X6_reckon_25 : decode (bc mX6_reckon) 25 = .ok (.iload_n 1, 1) := by decide +kernel
theorem d_X6_reckon_26 : decode (bc mX6_reckon) 26 = .ok (.iload_n 2, 1) := by decide +kernel
theorem d_X6_reckon_27 : decode (bc mX6_reckon) 27 = .ok (.imul, 1) := by decide +kernel
theorem d_X6_reckon_28 : decode (bc mX6_reckon) 28 = .ok (.istore_n 3, 1) := by decide +kernel
theorem d_X6_reckon_29 : decode (bc mX6_reckon) 29 = .ok (.iload_n 3, 1) := by decide +kernel
theorem d_X6_reckon_30 : decode (bc mX6_reckon) 30 = .ok (.bipush 100, 2) := by decide +kernel
theorem d_X6_reckon_32 : decode (bc mX6_reckon) 32 = .ok (.irem, 1) := by decide +kernel
theorem d_X6_reckon_33 : decode (bc mX6_reckon) 33 = .ok (.ireturn, 1) := by decide +kernel
theorem d_X6_bake_0 : decode (bc mX6_bake) 0 = .ok (.aload_n 0, 1) := by decide +kernel
theorem d_X6_bake_1 : decode (bc mX6_bake) 1 = .ok (.getfield 163, 3) := by decide +kernel
theorem d_X6_bake_4 : decode (bc mX6_bake) 4 = .ok (.bipush (-6), 2) := by decide +kernel
theorem d_X6_bake_6 : decode (bc mX6_bake) 6 = .ok (.if_icmp .ne 265, 3) := by decide +kernel
theorem d_X6_bake_9 : decode (bc mX6_bake) 9 = .ok (.aload_n 0, 1) := by decide +kernel
theorem d_X6_bake_10 : decode (bc mX6_bake) 10 = .ok (.getfield 169, 3) := by decide +kernel
theorem d_X6_bake_13 : decode (bc mX6_bake) 13 = .ok (.bipush (-6), 2) := by decide +kernel
theorem d_X6_bake_15 : decode (bc mX6_bake) 15 = .ok (.if_icmp .ne 256, 3) := by decide +kernel
theorem d_X6_bake_18 : decode (bc mX6_bake) 18 = .ok (.aload_n 0, 1) := by decide +kernel
theorem d_X6_bake_19 : decode (bc mX6_bake) 19 = .ok (.getfield 62, 3) := by decide +kernel
theorem d_X6_bake_22 : decode (bc mX6_bake) 22 = .ok (.iload_n 2, 1) := by decide +kernel
theorem d_X6_bake_23 : decode (bc mX6_bake) 23 = .ok (.iaload, 1) := by decide +kernel
theorem d_X6_bake_24 : decode (bc mX6_bake) 24 = .ok (.aload_n 1, 1) := by decide +kernel
theorem d_X6_bake_25 : decode (bc mX6_bake) 25 = .ok (.bipush 26, 2) := by decide +kernel
theorem d_X6_bake_27 : decode (bc mX6_bake) 27 = .ok (.iload_n 2, 1) := by decide +kernel
theorem d_X6_bake_28 : decode (bc mX6_bake) 28 = .ok (.iadd, 1) := by decide +kernel
theorem d_X6_bake_29 : decode (bc mX6_bake) 29 = .ok (.iaload, 1) := by decide +kernel
theorem d_X6_bake_30 : decode (bc mX6_bake) 30 = .ok (.if_icmp .ne 15, 3) := by decide +kernel
theorem d_X6_bake_33 : decode (bc mX6_bake) 33 = .ok (.aload_n 0, 1) := by decide +kernel
theorem d_X6_bake_34 : decode (bc mX6_bake) 34 = .ok (.aload_n 1, 1) := by decide +kernel
theorem d_X6_bake_35 : decode (bc mX6_bake) 35 = .ok (.iload_n 2, 1) := by decide +kernel
theorem d_X6_bake_36 : decode (bc mX6_bake) 36 = .ok (.aload_n 0, 1) := by decide +kernel
theorem d_X6_bake_37 : decode (bc mX6_bake) 37 = .ok (.iload_n 2, 1) := by decide +kernel
theorem d_X6_bake_38 : decode (bc mX6_bake) 38 = .ok (.invokevirtual 189, 3) := by decide +kernel
theorem d_X6_bake_41 : decode (bc mX6_bake) 41 = .ok (.invokevirtual 183, 3) := by decide +kernel
theorem d_X6_bake_44 : decode (bc mX6_bake) 44 = .ok (.return_, 1) := by decide +kernel
theorem d_X6_bake_45 : decode (bc mX6_bake) 45 = .ok (.aload_n 1, 1) := by decide +kernel
theorem d_X6_bake_46 : decode (bc mX6_bake) 46 = .ok (.bipush 32, 2) := by decide +kernel
theorem d_X6_bake_48 : decode (bc mX6_bake) 48 = .ok (.bipush 64, 2) := by decide +kernel
theorem d_X6_bake_50 : decode (bc mX6_bake) 50 = .ok (.iload_n 2, 1) := by decide +kernel
theorem d_X6_bake_51 : decode (bc mX6_bake) 51 = .ok (.imul, 1) := by decide +kernel
theorem d_X6_bake_52 : decode (bc mX6_bake) 52 = .ok (.iadd, 1) := by decide +kernel
theorem d_X6_bake_53 : decode (bc mX6_bake) 53 = .ok (.aload_n 0, 1) := by decide +kernel
theorem d_X6_bake_54 : decode (bc mX6_bake) 54 = .ok (.getfield 62, 3) := by decide +kernel
theorem d_X6_bake_57 : decode (bc mX6_bake) 57 = .ok (.iload_n 2, 1) := by decide +kernel
theorem d_X6_bake_58 : decode (bc mX6_bake) 58 = .ok (.iaload, 1) := by decide +kernel
theorem d_X6_bake_59 : decode (bc mX6_bake) 59 = .ok (.iadd, 1) := by decide +kernel
theorem d_X6_bake_60 : decode (bc mX6_bake) 60 = .ok (.iaload, 1) := by decide +kernel
theorem d_X6_bake_61 : decode (bc mX6_bake) 61 = .ok (.istore_n 3, 1) := by decide +kernel
theorem d_X6_bake_62 : decode (bc mX6_bake) 62 = .ok (.aload_n 1, 1) := by decide +kernel
theorem d_X6_bake_63 : decode (bc mX6_bake) 63 = .ok (.sipush 416, 3) := by decide +kernel
theorem d_X6_bake_66 : decode (bc mX6_bake) 66 = .ok (.bipush 64, 2) := by decide +kernel
theorem d_X6_bake_68 : decode (bc mX6_bake) 68 = .ok (.iload_n 2, 1) := by decide +kernel
theorem d_X6_bake_69 : decode (bc mX6_bake) 69 = .ok (.imul, 1) := by decide +kernel
theorem d_X6_bake_70 : decode (bc mX6_bake) 70 = .ok (.iadd, 1) := by decide +kernel
theorem d_X6_bake_71 : decode (bc mX6_bake) 71 = .ok (.aload_n 0, 1) := by decide +kernel
theorem d_X6_bake_72 : decode (bc mX6_bake) 72 = .ok (.getfield 62, 3) := by decide +kernel
theorem d_X6_bake_75 : decode (bc mX6_bake) 75 = .ok (.iload_n 2, 1) := by decide +kernel
theorem d_X6_bake_76 : decode (bc mX6_bake) 76 = .ok (.iaload, 1) := by decide +kernel
theorem d_X6_bake_77 : decode (bc mX6_bake) 77 = .ok (.iadd, 1) := by decide +kernel
theorem d_X6_bake_78 : decode (bc mX6_bake) 78 = .ok (.iaload, 1) := by decide +kernel
theorem d_X6_bake_79 : decode (bc mX6_bake) 79 = .ok (.istore 4, 2) := by decide +kernel
theorem d_X6_bake_81 : decode (bc mX6_bake) 81 = .ok (.aload_n 0, 1) := by decide +kernel
theorem d_X6_bake_82 : decode (bc mX6_bake) 82 = .ok (.getfield 62, 3) := by decide +kernel
theorem d_X6_bake_85 : decode (bc mX6_bake) 85 = .ok (.iload_n 2, 1) := by decide +kernel
theorem d_X6_bake_86 : decode (bc mX6_bake) 86 = .ok (.dup2, 1) := by decide +kernel
theorem d_X6_bake_87 : decode (bc mX6_bake) 87 = .ok (.iaload, 1) := by decide +kernel
theorem d_X6_bake_88 : decode (bc mX6_bake) 88 = .ok (.iconst 1, 1) := by decide +kernel
theorem d_X6_bake_89 : decode (bc mX6_bake) 89 = .ok (.iadd, 1) := by decide +kernel
theorem d_X6_bake_90 : decode (bc mX6_bake) 90 = .ok (.iastore, 1) := by decide +kernel
theorem d_X6_bake_91 : decode (bc mX6_bake) 91 = .ok (.aload_n 0, 1) := by decide +kernel
theorem d_X6_bake_92 : decode (bc mX6_bake) 92 = .ok (.getfield 80, 3) := by decide +kernel
theorem d_X6_bake_95 : decode (bc mX6_bake) 95 = .ok (.iload_n 2, 1) := by decide +kernel
theorem d_X6_bake_96 : decode (bc mX6_bake) 96 = .ok (.dup2, 1) := by decide +kernel
theorem d_X6_bake_97 : decode (bc mX6_bake) 97 = .ok (.iaload, 1) := by decide +kernel
theorem d_X6_bake_98 : decode (bc mX6_bake) 98 = .ok (.iload_n 3, 1) := by decide +kernel
theorem d_X6_bake_99 : decode (bc mX6_bake) 99 = .ok (.bipush 7, 2) := by decide +kernel
theorem d_X6_bake_101 : decode (bc mX6_bake) 101 = .ok (.if_icmp .ne 7, 3) := by decide +kernel
theorem d_X6_bake_104 : decode (bc mX6_bake) 104 = .ok (.iconst 0, 1) := by decide +kernel
theorem d_X6_bake_105 : decode (bc mX6_bake) 105 = .ok (.goto 4, 3) := by decide +kernel
theorem d_X6_bake_108 : decode (bc mX6_bake) 108 = .ok (.iconst 1, 1) := by decide +kernel
theorem d_X6_bake_109 : decode (bc mX6_bake) 109 = .ok (.iadd, 1) := by decide +kernel
theorem d_X6_bake_110 : decode (bc mX6_bake) 110 = .ok (.iastore, 1) := by decide +kernel
theorem d_X6_bake_111 : decode (bc mX6_bake) 111 = .ok (.iload_n 3, 1) := by decide +kernel
theorem d_X6_bake_112 : decode (bc mX6_bake) 112 = .ok (.bipush 7, 2) := by decide +kernel
theorem d_X6_bake_114 : decode (bc mX6_bake) 114 = .ok (.if_icmp .eq 17, 3) := by decide +kernel
theorem d_X6_bake_117 : decode (bc mX6_bake) 117 = .ok (.iload_n 3, 1) := by decide +kernel
theorem d_X6_bake_118 : decode (bc mX6_bake) 118 = .ok (.bipush 6, 2) := by decide +kernel
theorem d_X6_bake_120 : decode (bc mX6_bake) 120 = .ok (.if_icmp .ne 22, 3) := by decide +kernel
theorem d_X6_bake_123 : decode (bc mX6_bake) 123 = .ok (.aload_n 0, 1) := by decide +kernel
theorem d_X6_bake_124 : decode (bc mX6_bake) 124 = .ok (.iload_n 2, 1) := by decide +kernel
theorem d_X6_bake_125 : decode (bc mX6_bake) 125 = .ok (.invokevirtual 189, 3) := by decide +kernel
theorem d_X6_bake_128 : decode (bc mX6_bake) 128 = .ok (.ifCond .ne 14, 3) := by decide +kernel
theorem d_X6_bake_131 : decode (bc mX6_bake) 131 = .ok (.aload_n 0, 1) := by decide +kernel
theorem d_X6_bake_132 : decode (bc mX6_bake) 132 = .ok (.getfield 62, 3) := by decide +kernel
theorem d_X6_bake_135 : decode (bc mX6_bake) 135 = .ok (.iload_n 2, 1) := by decide +kernel
theorem d_X6_bake_136 : decode (bc mX6_bake) 136 = .ok (.iload 4, 2) := by decide +kernel
theorem d_X6_bake_138 : decode (bc mX6_bake) 138 = .ok (.iastore, 1) := by decide +kernel
theorem d_X6_bake_139 : decode (bc mX6_bake) 139 = .ok (.goto 129, 3) := by decide +kernel
theorem d_X6_bake_142 : decode (bc mX6_bake) 142 = .ok (.iload_n 3, 1) := by decide +kernel
theorem d_X6_bake_143 : decode (bc mX6_bake) 143 = .ok (.iconst 2, 1) := by decide +kernel
theorem d_X6_bake_144 : decode (bc mX6_bake) 144 = .ok (.if_icmp .ne 13, 3) := by decide +kernel
theorem d_X6_bake_147 : decode (bc mX6_bake) 147 = .ok (.aload_n 0, 1) := by decide +kernel
theorem d_X6_bake_148 : decode (bc mX6_bake) 148 = .ok (.iload_n 2, 1) := by decide +kernel
theorem d_X6_bake_149 : decode (bc mX6_bake) 149 = .ok (.iload 4, 2) := by decide +kernel
theorem d_X6_bake_151 : decode (bc mX6_bake) 151 = .ok (.invokevirtual 186, 3) := by decide +kernel
theorem d_X6_bake_154 : decode (bc mX6_bake) 154 = .ok (.goto 114, 3) := by decide +kernel
theorem d_X6_bake_157 : decode (bc mX6_bake) 157 = .ok (.iload_n 3, 1) := by decide +kernel
theorem d_X6_bake_158 : decode (bc mX6_bake) 158 = .ok (.ifCond .eq 8, 3) := by decide +kernel
theorem d_X6_bake_161 : decode (bc mX6_bake) 161 = .ok (.iload_n 3, 1) := by decide +kernel
theorem d_X6_bake_162 : decode (bc mX6_bake) 162 = .ok (.iconst 1, 1) := by decide +kernel
theorem d_X6_bake_163 : decode (bc mX6_bake) 163 = .ok (.if_icmp .ne 76, 3) := by decide +kernel
theorem d_X6_bake_166 : decode (bc mX6_bake) 166 = .ok (.iload_n 3, 1) := by decide +kernel
theorem d_X6_bake_167 : decode (bc mX6_bake) 167 = .ok (.iconst 1, 1) := by decide +kernel
theorem d_X6_bake_168 : decode (bc mX6_bake) 168 = .ok (.if_icmp .ne 11, 3) := by decide +kernel
theorem d_X6_bake_171 : decode (bc mX6_bake) 171 = .ok (.bipush 20, 2) := by decide +kernel
theorem d_X6_bake_173 : decode (bc mX6_bake) 173 = .ok (.iload 4, 2) := by decide +kernel
theorem d_X6_bake_175 : decode (bc mX6_bake) 175 = .ok (.iadd, 1) := by decide +kernel
theorem d_X6_bake_176 : decode (bc mX6_bake) 176 = .ok (.goto 5, 3) := by decide +kernel
theorem d_X6_bake_179 : decode (bc mX6_bake) 179 = .ok (.iload 4, 2) := by decide +kernel
theorem d_X6_bake_181 : decode (bc mX6_bake) 181 = .ok (.istore 5, 2) := by decide +kernel
theorem d_X6_bake_183 : decode (bc mX6_bake) 183 = .ok (.aload_n 0, 1) := by decide +kernel
theorem d_X6_bake_184 : decode (bc mX6_bake) 184 = .ok (.iload_n 2, 1) := by decide +kernel
theorem d_X6_bake_185 : decode (bc mX6_bake) 185 = .ok (.iload 5, 2) := by decide +kernel
theorem d_X6_bake_187 : decode (bc mX6_bake) 187 = .ok (.invokevirtual 192, 3) := by decide +kernel
theorem d_X6_bake_190 : decode (bc mX6_bake) 190 = .ok (.istore 6, 2) := by decide +kernel
theorem d_X6_bake_192 : decode (bc mX6_bake) 192 = .ok (.iload 6, 2) := by decide +kernel
theorem d_X6_bake_194 : decode (bc mX6_bake) 194 = .ok (.bipush (-6), 2) := by decide +kernel
theorem d_X6_bake_196 : decode (bc mX6_bake) 196 = .ok (.if_icmp .eq 13, 3) := by decide +kernel
theorem d_X6_bake_199 : decode (bc mX6_bake) 199 = .ok (.aload_n 0, 1) := by decide +kernel
theorem d_X6_bake_200 : decode (bc mX6_bake) 200 = .ok (.iload_n 2, 1) := by decide +kernel
theorem d_X6_bake_201 : decode (bc mX6_bake) 201 = .ok (.iload 6, 2) := by decide +kernel
theorem d_X6_bake_203 : decode (bc mX6_bake) 203 = .ok (.invokevirtual 186, 3) := by decide +kernel
theorem d_X6_bake_206 : decode (bc mX6_bake) 206 = .ok (.goto 30, 3) := by decide +kernel
theorem d_X6_bake_209 : decode (bc mX6_bake) 209 = .ok (.iload_n 3, 1) := by decide +kernel
theorem d_X6_bake_210 : decode (bc mX6_bake) 210 = .ok (.ifCond .ne 20, 3) := by decide +kernel
theorem d_X6_bake_213 : decode (bc mX6_bake) 213 = .ok (.aload_n 0, 1) := by decide +kernel
theorem d_X6_bake_214 : decode (bc mX6_bake) 214 = .ok (.aload_n 1, 1) := by decide +kernel
theorem d_X6_bake_215 : decode (bc mX6_bake) 215 = .ok (.iload_n 2, 1) := by decide +kernel
theorem d_X6_bake_216 : decode (bc mX6_bake) 216 = .ok (.iload 5, 2) := by decide +kernel
theorem d_X6_bake_218 : decode (bc mX6_bake) 218 = .ok (.aload_n 1, 1) := by decide +kernel
theorem d_X6_bake_219 : decode (bc mX6_bake) 219 = .ok (.iload 4, 2) := by decide +kernel
theorem d_X6_bake_221 : decode (bc mX6_bake) 221 = .ok (.invokestatic 172, 3) := by decide +kernel
theorem d_X6_bake_224 : decode (bc mX6_bake) 224 = .ok (.invokevirtual 196, 3) := by decide +kernel
theorem d_X6_bake_227 : decode (bc mX6_bake) 227 = .ok (.goto 9, 3) := by decide +kernel
theorem d_X6_bake_230 : decode (bc mX6_bake) 230 = .ok (.aload_n 0, 1) := by decide +kernel
theorem d_X6_bake_231 : decode (bc mX6_bake) 231 = .ok (.iload 4, 2) := by decide +kernel
theorem d_X6_bake_233 : decode (bc mX6_bake) 233 = .ok (.putfield 169, 3) := by decide +kernel
theorem d_X6_bake_236 : decode (bc mX6_bake) 236 = .ok (.goto 32, 3) := by decide +kernel
theorem d_X6_bake_239 : decode (bc mX6_bake) 239 = .ok (.iload_n 3, 1) := by decide +kernel
theorem d_X6_bake_240 : decode (bc mX6_bake) 240 = .ok (.bipush 6, 2) := by decide +kernel
theorem d_X6_bake_242 : decode (bc mX6_bake) 242 = .ok (.if_icmp .eq 26, 3) := by decide +kernel
theorem d_X6_bake_245 : decode (bc mX6_bake) 245 = .ok (.aload_n 0, 1) := by decide +kernel
theorem d_X6_bake_246 : decode (bc mX6_bake) 246 = .ok (.iload_n 2, 1) := by decide +kernel
theorem d_X6_bake_247 : decode (bc mX6_bake) 247 = .ok (.invokevirtual 189, 3) := by decide +kernel
theorem d_X6_bake_250 : decode (bc mX6_bake) 250 = .ok (.istore 5, 2) := by decide +kernel
theorem d_X6_bake_252 : decode (bc mX6_bake) 252 = .ok (.aload_n 0, 1) := by decide +kernel
theorem d_X6_bake_253 : decode (bc mX6_bake) 253 = .ok (.iload_n 2, 1) := by decide +kernel
theorem d_X6_bake_254 : decode (bc mX6_bake) 254 = .ok (.iload_n 3, 1) := by decide +kernel
theorem d_X6_bake_255 : decode (bc mX6_bake) 255 = .ok (.aload_n 0, 1) := by decide +kernel
theorem d_X6_bake_256 : decode (bc mX6_bake) 256 = .ok (.iload_n 2, 1) := by decide +kernel
theorem d_X6_bake_257 : decode (bc mX6_bake) 257 = .ok (.invokevirtual 189, 3) := by decide +kernel
theorem d_X6_bake_260 : decode (bc mX6_bake) 260 = .ok (.iload 5, 2) := by decide +kernel
theorem d_X6_bake_262 : decode (bc mX6_bake) 262 = .ok (.invokestatic 200, 3) := by decide +kernel
theorem d_X6_bake_265 : decode (bc mX6_bake) 265 = .ok (.invokevirtual 186, 3) := by decide +kernel
theorem d_X6_bake_268 : decode (bc mX6_bake) 268 = .ok (.goto (-268), 3) := by decide +kernel
theorem d_X6_bake_271 : decode (bc mX6_bake) 271 = .ok (.return_, 1) := by decide +kernel
theorem d_X6_askOn_0 : decode (bc mX6_askOn) 0 = .ok (.iload_n 2, 1) := by decide +kernel
theorem d_X6_askOn_1 : decode (bc mX6_askOn) 1 = .ok (.istore_n 3, 1) := by decide +kernel
theorem d_X6_askOn_2 : decode (bc mX6_askOn) 2 = .ok (.aload_n 1, 1) := by decide +kernel
theorem d_X6_askOn_3 : decode (bc mX6_askOn) 3 = .ok (.bipush 26, 2) := by decide +kernel
theorem d_X6_askOn_5 : decode (bc mX6_askOn) 5 = .ok (.iload_n 3, 1) := by decide +kernel
theorem d_X6_askOn_6 : decode (bc mX6_askOn) 6 = .ok (.iadd, 1) := by decide +kernel
theorem d_X6_askOn_7 : decode (bc mX6_askOn) 7 = .ok (.iaload, 1) := by decide +kernel
theorem d_X6_askOn_8 : decode (bc mX6_askOn) 8 = .ok (.ifCond .ne 6, 3) := by decide +kernel
theorem d_X6_askOn_11 : decode (bc mX6_askOn) 11 = .ok (.bipush 100, 2) := by decide +kernel
theorem d_X6_askOn_13 : decode (bc mX6_askOn) 13 = .ok (.ireturn, 1) := by decide +kernel
theorem d_X6_askOn_14 : decode (bc mX6_askOn) 14 = .ok (.aload_n 0, 1) := by decide +kernel
theorem d_X6_askOn_15 : decode (bc mX6_askOn) 15 = .ok (.aload_n 1, 1) := by decide +kernel
theorem d_X6_askOn_16 : decode (bc mX6_askOn) 16 = .ok (.iload_n 3, 1) := by decide +kernel
theorem d_X6_askOn_17 : decode (bc mX6_askOn) 17 = .ok (.bipush (-6), 2) := by decide +kernel
theorem d_X6_askOn_19 : decode (bc mX6_askOn) 19 = .ok (.invokevirtual 204, 3) := by decide +kernel
theorem d_X6_askOn_22 : decode (bc mX6_askOn) 22 = .ok (.aload_n 0, 1) := by decide +kernel
theorem d_X6_askOn_23 : decode (bc mX6_askOn) 23 = .ok (.bipush (-6), 2) := by decide +kernel
theorem d_X6_askOn_25 : decode (bc mX6_askOn) 25 = .ok (.putfield 163, 3) := by decide +kernel
theorem d_X6_askOn_28 : decode (bc mX6_askOn) 28 = .ok (.aload_n 0, 1) := by decide +kernel
theorem d_X6_askOn_29 : decode (bc mX6_askOn) 29 = .ok (.bipush (-6), 2) := by decide +kernel
theorem d_X6_askOn_31 : decode (bc mX6_askOn) 31 = .ok (.putfield 169, 3) := by decide +kernel
theorem d_X6_askOn_34 : decode (bc mX6_askOn) 34 = .ok (.aload_n 0, 1) := by decide +kernel
theorem d_X6_askOn_35 : decode (bc mX6_askOn) 35 = .ok (.getfield 47, 3) := by decide +kernel
theorem d_X6_askOn_38 : decode (bc mX6_askOn) 38 = .ok (.iload_n 3, 1) := by decide +kernel
theorem d_X6_askOn_39 : decode (bc mX6_askOn) 39 = .ok (.iaload, 1) := by decide +kernel
theorem d_X6_askOn_40 : decode (bc mX6_askOn) 40 = .ok (.iconst 1, 1) := by decide +kernel
theorem d_X6_askOn_41 : decode (bc mX6_askOn) 41 = .ok (.if_icmp .ne 9, 3) := by decide +kernel
theorem d_X6_askOn_44 : decode (bc mX6_askOn) 44 = .ok (.aload_n 0, 1) := by decide +kernel
theorem d_X6_askOn_45 : decode (bc mX6_askOn) 45 = .ok (.aload_n 1, 1) := by decide +kernel
theorem d_X6_askOn_46 : decode (bc mX6_askOn) 46 = .ok (.iload_n 3, 1) := by decide +kernel
theorem d_X6_askOn_47 : decode (bc mX6_askOn) 47 = .ok (.invokevirtual 207, 3) := by decide +kernel
theorem d_X6_askOn_50 : decode (bc mX6_askOn) 50 = .ok (.aload_n 0, 1) := by decide +kernel
theorem d_X6_askOn_51 : decode (bc mX6_askOn) 51 = .ok (.getfield 47, 3) := by decide +kernel
theorem d_X6_askOn_54 : decode (bc mX6_askOn) 54 = .ok (.iload_n 3, 1) := by decide +kernel
theorem d_X6_askOn_55 : decode (bc mX6_askOn) 55 = .ok (.iaload, 1) := by decide +kernel
theorem d_X6_askOn_56 : decode (bc mX6_askOn) 56 = .ok (.iconst 2, 1) := by decide +kernel
theorem d_X6_askOn_57 : decode (bc mX6_askOn) 57 = .ok (.if_icmp .ne 27, 3) := by decide +kernel
theorem d_X6_askOn_60 : decode (bc mX6_askOn) 60 = .ok (.aload_n 0, 1) := by decide +kernel
theorem d_X6_askOn_61 : decode (bc mX6_askOn) 61 = .ok (.getfield 163, 3) := by decide +kernel
theorem d_X6_askOn_64 : decode (bc mX6_askOn) 64 = .ok (.bipush (-6), 2) := by decide +kernel
theorem d_X6_askOn_66 : decode (bc mX6_askOn) 66 = .ok (.if_icmp .ne 18, 3) := by decide +kernel
theorem d_X6_askOn_69 : decode (bc mX6_askOn) 69 = .ok (.aload_n 0, 1) := by decide +kernel
theorem d_X6_askOn_70 : decode (bc mX6_askOn) 70 = .ok (.getfield 169, 3) := by decide +kernel
theorem d_X6_askOn_73 : decode (bc mX6_askOn) 73 = .ok (.bipush (-6), 2) := by decide +kernel
theorem d_X6_askOn_75 : decode (bc mX6_askOn) 75 = .ok (.if_icmp .ne 9, 3) := by decide +kernel
theorem d_X6_askOn_78 : decode (bc mX6_askOn) 78 = .ok (.aload_n 0, 1) := by decide +kernel
theorem d_X6_askOn_79 : decode (bc mX6_askOn) 79 = .ok (.aload_n 1, 1) := by decide +kernel
theorem d_X6_askOn_80 : decode (bc mX6_askOn) 80 = .ok (.iload_n 3, 1) := by decide +kernel
theorem d_X6_askOn_81 : decode (bc mX6_askOn) 81 = .ok (.invokevirtual 210, 3) := by decide +kernel
theorem d_X6_askOn_84 : decode (bc mX6_askOn) 84 = .ok (.aload_n 0, 1) := by decide +kernel
theorem d_X6_askOn_85 : decode (bc mX6_askOn) 85 = .ok (.getfield 169, 3) := by decide +kernel
theorem d_X6_askOn_88 : decode (bc mX6_askOn) 88 = .ok (.bipush (-6), 2) := by decide +kernel
theorem d_X6_askOn_90 : decode (bc mX6_askOn) 90 = .ok (.if_icmp .eq 49, 3) := by decide +kernel
theorem d_X6_askOn_93 : decode (bc mX6_askOn) 93 = .ok (.aload_n 0, 1) := by decide +kernel
theorem d_X6_askOn_94 : decode (bc mX6_askOn) 94 = .ok (.getfield 169, 3) := by decide +kernel
theorem d_X6_askOn_97 : decode (bc mX6_askOn) 97 = .ok (.istore 4, 2) := by decide +kernel
theorem d_X6_askOn_99 : decode (bc mX6_askOn) 99 = .ok (.aload_n 0, 1) := by decide +kernel
theorem d_X6_askOn_100 : decode (bc mX6_askOn) 100 = .ok (.bipush (-6), 2) := by decide +kernel
theorem d_X6_askOn_102 : decode (bc mX6_askOn) 102 = .ok (.putfield 169, 3) := by decide +kernel
theorem d_X6_askOn_105 : decode (bc mX6_askOn) 105 = .ok (.aload_n 1, 1) := by decide +kernel
theorem d_X6_askOn_106 : decode (bc mX6_askOn) 106 = .ok (.bipush 26, 2) := by decide +kernel
theorem d_X6_askOn_108 : decode (bc mX6_askOn) 108 = .ok (.iload 4, 2) := by decide +kernel
theorem d_X6_askOn_110 : decode (bc mX6_askOn) 110 = .ok (.iadd, 1) := by decide +kernel
theorem d_X6_askOn_111 : decode (bc mX6_askOn) 111 = .ok (.iaload, 1) := by decide +kernel
theorem d_X6_askOn_112 : decode (bc mX6_askOn) 112 = .ok (.ifCond .ne 16, 3) := by decide +kernel
theorem d_X6_askOn_115 : decode (bc mX6_askOn) 115 = .ok (.aload_n 0, 1) := by decide +kernel
theorem d_X6_askOn_116 : decode (bc mX6_askOn) 116 = .ok (.aload_n 1, 1) := by decide +kernel
theorem d_X6_askOn_117 : decode (bc mX6_askOn) 117 = .ok (.iload_n 3, 1) := by decide +kernel
theorem d_X6_askOn_118 : decode (bc mX6_askOn) 118 = .ok (.iload 4, 2) := by decide +kernel
theorem d_X6_askOn_120 : decode (bc mX6_askOn) 120 = .ok (.bipush 100, 2) := by decide +kernel
theorem d_X6_askOn_122 : decode (bc mX6_askOn) 122 = .ok (.invokevirtual 213, 3) := by decide +kernel
theorem d_X6_askOn_125 : decode (bc mX6_askOn) 125 = .ok (.goto 14, 3) := by decide +kernel
theorem d_X6_askOn_128 : decode (bc mX6_askOn) 128 = .ok (.aload_n 0, 1) := by decide +kernel
theorem d_X6_askOn_129 : decode (bc mX6_askOn) 129 = .ok (.aload_n 1, 1) := by decide +kernel
theorem d_X6_askOn_130 : decode (bc mX6_askOn) 130 = .ok (.iload 4, 2) := by decide +kernel
theorem d_X6_askOn_132 : decode (bc mX6_askOn) 132 = .ok (.iload_n 3, 1) := by decide +kernel
theorem d_X6_askOn_133 : decode (bc mX6_askOn) 133 = .ok (.invokevirtual 204, 3) := by decide +kernel
theorem d_X6_askOn_136 : decode (bc mX6_askOn) 136 = .ok (.iload 4, 2) := by decide +kernel
theorem d_X6_askOn_138 : decode (bc mX6_askOn) 138 = .ok (.istore_n 3, 1) := by decide +kernel
theorem d_X6_askOn_139 : decode (bc mX6_askOn) 139 = .ok (.aload_n 0, 1) := by decide +kernel
theorem d_X6_askOn_140 : decode (bc mX6_askOn) 140 = .ok (.getfield 163, 3) := by decide +kernel
theorem d_X6_askOn_143 : decode (bc mX6_askOn) 143 = .ok (.bipush (-6), 2) := by decide +kernel
theorem d_X6_askOn_145 : decode (bc mX6_askOn) 145 = .ok (.if_icmp .eq (-111), 3) := by decide +kernel
theorem d_X6_askOn_148 : decode (bc mX6_askOn) 148 = .ok (.aload_n 0, 1) := by decide +kernel
theorem d_X6_askOn_149 : decode (bc mX6_askOn) 149 = .ok (.getfield 163, 3) := by decide +kernel
theorem d_X6_askOn_152 : decode (bc mX6_askOn) 152 = .ok (.istore 4, 2) := by decide +kernel
theorem d_X6_askOn_154 : decode (bc mX6_askOn) 154 = .ok (.iload_n 3, 1) := by decide +kernel
theorem d_X6_askOn_155 : decode (bc mX6_askOn) 155 = .ok (.istore 5, 2) := by decide +kernel
theorem d_X6_askOn_157 : decode (bc mX6_askOn) 157 = .ok (.aload_n 0, 1) := by decide +kernel
theorem d_X6_askOn_158 : decode (bc mX6_askOn) 158 = .ok (.getfield 44, 3) := by decide +kernel
theorem d_X6_askOn_161 : decode (bc mX6_askOn) 161 = .ok (.iload_n 3, 1) := by decide +kernel
theorem d_X6_askOn_162 : decode (bc mX6_askOn) 162 = .ok (.iaload, 1) := by decide +kernel
theorem d_X6_askOn_163 : decode (bc mX6_askOn) 163 = .ok (.istore_n 3, 1) := by decide +kernel
theorem d_X6_askOn_164 : decode (bc mX6_askOn) 164 = .ok (.iload_n 3, 1) := by decide +kernel
theorem d_X6_askOn_165 : decode (bc mX6_askOn) 165 = .ok (.bipush (-6), 2) := by decide +kernel
theorem d_X6_askOn_167 : decode (bc mX6_askOn) 167 = .ok (.if_icmp .ne 6, 3) := by decide +kernel
theorem d_X6_askOn_170 : decode (bc mX6_askOn) 170 = .ok (.iload 4, 2) := by decide +kernel
theorem d_X6_askOn_172 : decode (bc mX6_askOn) 172 = .ok (.ireturn, 1) := by decide +kernel
theorem d_X6_askOn_173 : decode (bc mX6_askOn) 173 = .ok (.aload_n 0, 1) := by decide +kernel
theorem d_X6_askOn_174 : decode (bc mX6_askOn) 174 = .ok (.bipush (-6), 2) := by decide +kernel
theorem d_X6_askOn_176 : decode (bc mX6_askOn) 176 = .ok (.putfield 163, 3) := by decide +kernel
theorem d_X6_askOn_179 : decode (bc mX6_askOn) 179 = .ok (.aload_n 0, 1) := by decide +kernel
theorem d_X6_askOn_180 : decode (bc mX6_askOn) 180 = .ok (.aload_n 1, 1) := by decide +kernel
theorem d_X6_askOn_181 : decode (bc mX6_askOn) 181 = .ok (.iload_n 3, 1) := by decide +kernel
theorem d_X6_askOn_182 : decode (bc mX6_askOn) 182 = .ok (.iload 5, 2) := by decide +kernel
theorem d_X6_askOn_184 : decode (bc mX6_askOn) 184 = .ok (.iload 4, 2) := by decide +kernel
theorem d_X6_askOn_186 : decode (bc mX6_askOn) 186 = .ok (.invokevirtual 213, 3) := by decide +kernel
theorem d_X6_askOn_189 : decode (bc mX6_askOn) 189 = .ok (.goto (-50), 3) := by decide +kernel
theorem d_X6_comeBack_0 : decode (bc mX6_comeBack) 0 = .ok (.aload_n 0, 1) := by decide +kernel
theorem d_X6_comeBack_1 : decode (bc mX6_comeBack) 1 = .ok (.getfield 47, 3) := by decide +kernel
theorem d_X6_comeBack_4 : decode (bc mX6_comeBack) 4 = .ok (.iload_n 2, 1) := by decide +kernel
theorem d_X6_comeBack_5 : decode (bc mX6_comeBack) 5 = .ok (.iaload, 1) := by decide +kernel
theorem d_X6_comeBack_6 : decode (bc mX6_comeBack) 6 = .ok (.iconst 1, 1) := by decide +kernel
theorem d_X6_comeBack_7 : decode (bc mX6_comeBack) 7 = .ok (.if_icmp .ne 14, 3) := by decide +kernel
theorem d_X6_comeBack_10 : decode (bc mX6_comeBack) 10 = .ok (.aload_n 0, 1) := by decide +kernel
theorem d_X6_comeBack_11 : decode (bc mX6_comeBack) 11 = .ok (.aload_n 1, 1) := by decide +kernel
theorem d_X6_comeBack_12 : decode (bc mX6_comeBack) 12 = .ok (.iload_n 2, 1) := by decide +kernel
theorem d_X6_comeBack_13 : decode (bc mX6_comeBack) 13 = .ok (.iload 4, 2) := by decide +kernel
theorem d_X6_comeBack_15 : decode (bc mX6_comeBack) 15 = .ok (.invokevirtual 175, 3) := by decide +kernel
theorem d_X6_comeBack_18 : decode (bc mX6_comeBack) 18 = .ok (.goto 15, 3) := by decide +kernel
theorem d_X6_comeBack_21 : decode (bc mX6_comeBack) 21 = .ok (.aload_n 0, 1) := by decide +kernel
theorem d_X6_comeBack_22 : decode (bc mX6_comeBack) 22 = .ok (.aload_n 1, 1) := by decide +kernel
theorem d_X6_comeBack_23 : decode (bc mX6_comeBack) 23 = .ok (.iload_n 2, 1) := by decide +kernel
theorem d_X6_comeBack_24 : decode (bc mX6_comeBack) 24 = .ok (.bipush 20, 2) := by decide +kernel
theorem d_X6_comeBack_26 : decode (bc mX6_comeBack) 26 = .ok (.iload_n 3, 1) := by decide +kernel
theorem d_X6_comeBack_27 : decode (bc mX6_comeBack) 27 = .ok (.iadd, 1) := by decide +kernel
theorem d_X6_comeBack_28 : decode (bc mX6_comeBack) 28 = .ok (.iload 4, 2) := by decide +kernel
theorem d_X6_comeBack_30 : decode (bc mX6_comeBack) 30 = .ok (.invokevirtual 196, 3) := by decide +kernel
theorem d_X6_comeBack_33 : decode (bc mX6_comeBack) 33 = .ok (.return_, 1) := by decide +kernel
theorem d_X6_record_0 : decode (bc mX6_record) 0 = .ok (.aload_n 0, 1) := by decide +kernel
theorem d_X6_record_1 : decode (bc mX6_record) 1 = .ok (.getfield 216, 3) := by decide +kernel
theorem d_X6_record_4 : decode (bc mX6_record) 4 = .ok (.bipush 6, 2) := by decide +kernel
theorem d_X6_record_6 : decode (bc mX6_record) 6 = .ok (.if_icmp .ne 44, 3) := by decide +kernel
theorem d_X6_record_9 : decode (bc mX6_record) 9 = .ok (.iconst 0, 1) := by decide +kernel
theorem d_X6_record_10 : decode (bc mX6_record) 10 = .ok (.istore_n 1, 1) := by decide +kernel
theorem d_X6_record_11 : decode (bc mX6_record) 11 = .ok (.iload_n 1, 1) := by decide +kernel
theorem d_X6_record_12 : decode (bc mX6_record) 12 = .ok (.sipush 7480, 3) := by decide +kernel
theorem d_X6_record_15 : decode (bc mX6_record) 15 = .ok (.if_icmp .ge 25, 3) := by decide +kernel
theorem d_X6_record_18 : decode (bc mX6_record) 18 = .ok (.aload_n 0, 1) := by decide +kernel
theorem d_X6_record_19 : decode (bc mX6_record) 19 = .ok (.getfield 16, 3) := by decide +kernel
theorem d_X6_record_22 : decode (bc mX6_record) 22 = .ok (.iload_n 1, 1) := by decide +kernel
theorem d_X6_record_23 : decode (bc mX6_record) 23 = .ok (.aload_n 0, 1) := by decide +kernel
theorem d_X6_record_24 : decode (bc mX6_record) 24 = .ok (.getfield 16, 3) := by decide +kernel
theorem d_X6_record_27 : decode (bc mX6_record) 27 = .ok (.iload_n 1, 1) := by decide +kernel
theorem d_X6_record_28 : decode (bc mX6_record) 28 = .ok (.sipush 1496, 3) := by decide +kernel
theorem d_X6_record_31 : decode (bc mX6_record) 31 = .ok (.iadd, 1) := by decide +kernel
theorem d_X6_record_32 : decode (bc mX6_record) 32 = .ok (.iaload, 1) := by decide +kernel
theorem d_X6_record_33 : decode (bc mX6_record) 33 = .ok (.iastore, 1) := by decide +kernel
theorem d_X6_record_34 : decode (bc mX6_record) 34 = .ok (.iinc 1 1, 3) := by decide +kernel
theorem d_X6_record_37 : decode (bc mX6_record) 37 = .ok (.goto (-26), 3) := by decide +kernel
theorem d_X6_record_40 : decode (bc mX6_record) 40 = .ok (.aload_n 0, 1) := by decide +kernel
theorem d_X6_record_41 : decode (bc mX6_record) 41 = .ok (.dup, 1) := by decide +kernel
theorem d_X6_record_42 : decode (bc mX6_record) 42 = .ok (.getfield 216, 3) := by decide +kernel
theorem d_X6_record_45 : decode (bc mX6_record) 45 = .ok (.iconst 1, 1) := by decide +kernel
theorem d_X6_record_46 : decode (bc mX6_record) 46 = .ok (.isub, 1) := by decide +kernel
theorem d_X6_record_47 : decode (bc mX6_record) 47 = .ok (.putfield 216, 3) := by decide +kernel
theorem d_X6_record_50 : decode (bc mX6_record) 50 = .ok (.aload_n 0, 1) := by decide +kernel
theorem d_X6_record_51 : decode (bc mX6_record) 51 = .ok (.getfield 7, 3) := by decide +kernel
theorem d_X6_record_54 : decode (bc mX6_record) 54 = .ok (.iconst 0, 1) := by decide +kernel
theorem d_X6_record_55 : decode (bc mX6_record) 55 = .ok (.aload_n 0, 1) := by decide +kernel
theorem d_X6_record_56 : decode (bc mX6_record) 56 = .ok (.getfield 16, 3) := by decide +kernel
theorem d_X6_record_59 : decode (bc mX6_record) 59 = .ok (.sipush 1496, 3) := by decide +kernel
theorem d_X6_record_62 : decode (bc mX6_record) 62 = .ok (.aload_n 0, 1) := by decide +kernel
theorem d_X6_record_63 : decode (bc mX6_record) 63 = .ok (.getfield 216, 3) := by decide +kernel
theorem d_X6_record_66 : decode (bc mX6_record) 66 = .ok (.imul, 1) := by decide +kernel
theorem d_X6_record_67 : decode (bc mX6_record) 67 = .ok (.invokestatic 219, 3) := by decide +kernel
theorem d_X6_record_70 : decode (bc mX6_record) 70 = .ok (.aload_n 0, 1) := by decide +kernel
theorem d_X6_record_71 : decode (bc mX6_record) 71 = .ok (.dup, 1) := by decide +kernel
theorem d_X6_record_72 : decode (bc mX6_record) 72 = .ok (.getfield 216, 3) := by decide +kernel
theorem d_X6_record_75 : decode (bc mX6_record) 75 = .ok (.iconst 1, 1) := by decide +kernel
theorem d_X6_record_76 : decode (bc mX6_record) 76 = .ok (.iadd, 1) := by decide +kernel
theorem d_X6_record_77 : decode (bc mX6_record) 77 = .ok (.putfield 216, 3) := by decide +kernel
theorem d_X6_record_80 : decode (bc mX6_record) 80 = .ok (.return_, 1) := by decide +kernel
theorem d_X6_set_0 : decode (bc mX6_set) 0 = .ok (.iload_n 1, 1) := by decide +kernel
theorem d_X6_set_1 : decode (bc mX6_set) 1 = .ok (.ifCond .ne 15, 3) := by decide +kernel
theorem d_X6_set_4 : decode (bc mX6_set) 4 = .ok (.iload_n 2, 1) := by decide +kernel
theorem d_X6_set_5 : decode (bc mX6_set) 5 = .ok (.i2l, 1) := by decide +kernel
theorem d_X6_set_6 : decode (bc mX6_set) 6 = .ok (.lconst 1, 1) := by decide +kernel
theorem d_X6_set_7 : decode (bc mX6_set) 7 = .ok (.ldc2_w 223, 3) := by decide +kernel
theorem d_X6_set_10 : decode (bc mX6_set) 10 = .ok (.invokestatic 91, 3) := by decide +kernel
theorem d_X6_set_13 : decode (bc mX6_set) 13 = .ok (.ifCond .ne 21, 3) := by decide +kernel
theorem d_X6_set_16 : decode (bc mX6_set) 16 = .ok (.iload_n 1, 1) := by decide +kernel
theorem d_X6_set_17 : decode (bc mX6_set) 17 = .ok (.iconst 1, 1) := by decide +kernel
theorem d_X6_set_18 : decode (bc mX6_set) 18 = .ok (.if_icmp .ne 13, 3) := by decide +kernel
theorem d_X6_set_21 : decode (bc mX6_set) 21 = .ok (.iload_n 2, 1) := by decide +kernel
theorem d_X6_set_22 : decode (bc mX6_set) 22 = .ok (.i2l, 1) := by decide +kernel
theorem d_X6_set_23 : decode (bc mX6_set) 23 = .ok (.lconst 0, 1) := by decide +kernel
theorem d_X6_set_24 : decode (bc mX6_set) 24 = .ok (.lconst 1, 1) := by decide +kernel
theorem d_X6_set_25 : decode (bc mX6_set) 25 = .ok (.invokestatic 91, 3) := by decide +kernel
theorem d_X6_set_28 : decode (bc mX6_set) 28 = .ok (.ifCond .ne 6, 3) := by decide +kernel
theorem d_X6_set_31 : decode (bc mX6_set) 31 = .ok (.bipush (-2), 2) := by decide +kernel
theorem d_X6_set_33 : decode (bc mX6_set) 33 = .ok (.ireturn, 1) := by decide +kernel
theorem d_X6_set_34 : decode (bc mX6_set) 34 = .ok (.aload_n 0, 1) := by decide +kernel
theorem d_X6_set_35 : decode (bc mX6_set) 35 = .ok (.invokevirtual 225, 3) := by decide +kernel
theorem d_X6_set_38 : decode (bc mX6_set) 38 = .ok (.aload_n 0, 1) := by decide +kernel
theorem d_X6_set_39 : decode (bc mX6_set) 39 = .ok (.getfield 7, 3) := by decide +kernel
theorem d_X6_set_42 : decode (bc mX6_set) 42 = .ok (.iload_n 1, 1) := by decide +kernel
theorem d_X6_set_43 : decode (bc mX6_set) 43 = .ok (.iaload, 1) := by decide +kernel
theorem d_X6_set_44 : decode (bc mX6_set) 44 = .ok (.istore_n 3, 1) := by decide +kernel
theorem d_X6_set_45 : decode (bc mX6_set) 45 = .ok (.aload_n 0, 1) := by decide +kernel
theorem d_X6_set_46 : decode (bc mX6_set) 46 = .ok (.getfield 7, 3) := by decide +kernel
theorem d_X6_set_49 : decode (bc mX6_set) 49 = .ok (.iload_n 1, 1) := by decide +kernel
theorem d_X6_set_50 : decode (bc mX6_set) 50 = .ok (.iload_n 2, 1) := by decide +kernel
theorem d_X6_set_51 : decode (bc mX6_set) 51 = .ok (.iastore, 1) := by decide +kernel
theorem d_X6_set_52 : decode (bc mX6_set) 52 = .ok (.aload_n 0, 1) := by decide +kernel
theorem d_X6_set_53 : decode (bc mX6_set) 53 = .ok (.getfield 7, 3) := by decide +kernel
theorem d_X6_set_56 : decode (bc mX6_set) 56 = .ok (.invokestatic 179, 3) := by decide +kernel
theorem d_X6_set_59 : decode (bc mX6_set) 59 = .ok (.iload_n 3, 1) := by decide +kernel
theorem d_X6_set_60 : decode (bc mX6_set) 60 = .ok (.ireturn, 1) := by decide +kernel
theorem d_X6_put_0 : decode (bc mX6_put) 0 = .ok (.iload_n 1, 1) := by decide +kernel
theorem d_X6_put_1 : decode (bc mX6_put) 1 = .ok (.invokestatic 228, 3) := by decide +kernel
theorem d_X6_put_4 : decode (bc mX6_put) 4 = .ok (.ifCond .ne 5, 3) := by decide +kernel
theorem d_X6_put_7 : decode (bc mX6_put) 7 = .ok (.iconst (-1), 1) := by decide +kernel
theorem d_X6_put_8 : decode (bc mX6_put) 8 = .ok (.ireturn, 1) := by decide +kernel
theorem d_X6_put_9 : decode (bc mX6_put) 9 = .ok (.iload_n 2, 1) := by decide +kernel
theorem d_X6_put_10 : decode (bc mX6_put) 10 = .ok (.i2l, 1) := by decide +kernel
theorem d_X6_put_11 : decode (bc mX6_put) 11 = .ok (.lconst 0, 1) := by decide +kernel
theorem d_X6_put_12 : decode (bc mX6_put) 12 = .ok (.ldc2_w 232, 3) := by decide +kernel
theorem d_X6_put_15 : decode (bc mX6_put) 15 = .ok (.invokestatic 91, 3) := by decide +kernel
theorem d_X6_put_18 : decode (bc mX6_put) 18 = .ok (.ifCond .ne 6, 3) := by decide +kernel
theorem d_X6_put_21 : decode (bc mX6_put) 21 = .ok (.bipush (-2), 2) := by decide +kernel
theorem d_X6_put_23 : decode (bc mX6_put) 23 = .ok (.ireturn, 1) := by decide +kernel
theorem d_X6_put_24 : decode (bc mX6_put) 24 = .ok (.aload_n 0, 1) := by decide +kernel
theorem d_X6_put_25 : decode (bc mX6_put) 25 = .ok (.invokevirtual 225, 3) := by decide +kernel
theorem d_X6_put_28 : decode (bc mX6_put) 28 = .ok (.aload_n 0, 1) := by decide +kernel
theorem d_X6_put_29 : decode (bc mX6_put) 29 = .ok (.getfield 7, 3) := by decide +kernel
theorem d_X6_put_32 : decode (bc mX6_put) 32 = .ok (.iconst 2, 1) := by decide +kernel
theorem d_X6_put_33 : decode (bc mX6_put) 33 = .ok (.iload_n 1, 1) := by decide +kernel
theorem d_X6_put_34 : decode (bc mX6_put) 34 = .ok (.iadd, 1) := by decide +kernel
theorem d_X6_put_35 : decode (bc mX6_put) 35 = .ok (.iaload, 1) := by decide +kernel
theorem d_X6_put_36 : decode (bc mX6_put) 36 = .ok (.istore_n 3, 1) := by decide +kernel
theorem d_X6_put_37 : decode (bc mX6_put) 37 = .ok (.aload_n 0, 1) := by decide +kernel
theorem d_X6_put_38 : decode (bc mX6_put) 38 = .ok (.getfield 7, 3) := by decide +kernel
theorem d_X6_put_41 : decode (bc mX6_put) 41 = .ok (.iconst 2, 1) := by decide +kernel
theorem d_X6_put_42 : decode (bc mX6_put) 42 = .ok (.iload_n 1, 1) := by decide +kernel
theorem d_X6_put_43 : decode (bc mX6_put) 43 = .ok (.iadd, 1) := by decide +kernel
theorem d_X6_put_44 : decode (bc mX6_put) 44 = .ok (.iload_n 2, 1) := by decide +kernel
theorem d_X6_put_45 : decode (bc mX6_put) 45 = .ok (.iastore, 1) := by decide +kernel
theorem d_X6_put_46 : decode (bc mX6_put) 46 = .ok (.iload_n 3, 1) := by decide +kernel
theorem d_X6_put_47 : decode (bc mX6_put) 47 = .ok (.ireturn, 1) := by decide +kernel
theorem d_X6_poison_0 : decode (bc mX6_poison) 0 = .ok (.iload_n 1, 1) := by decide +kernel
theorem d_X6_poison_1 : decode (bc mX6_poison) 1 = .ok (.invokestatic 228, 3) := by decide +kernel
theorem d_X6_poison_4 : decode (bc mX6_poison) 4 = .ok (.ifCond .ne 5, 3) := by decide +kernel
theorem d_X6_poison_7 : decode (bc mX6_poison) 7 = .ok (.iconst (-1), 1) := by decide +kernel
theorem d_X6_poison_8 : decode (bc mX6_poison) 8 = .ok (.ireturn, 1) := by decide +kernel
theorem d_X6_poison_9 : decode (bc mX6_poison) 9 = .ok (.iload_n 2, 1) := by decide +kernel
theorem d_X6_poison_10 : decode (bc mX6_poison) 10 = .ok (.i2l, 1) := by decide +kernel
theorem d_X6_poison_11 : decode (bc mX6_poison) 11 = .ok (.lconst 0, 1) := by decide +kernel
theorem d_X6_poison_12 : decode (bc mX6_poison) 12 = .ok (.lconst 1, 1) := by decide +kernel
theorem d_X6_poison_13 : decode (bc mX6_poison) 13 = .ok (.invokestatic 91, 3) := by decide +kernel
theorem d_X6_poison_16 : decode (bc mX6_poison) 16 = .ok (.ifCond .ne 6, 3) := by decide +kernel
theorem d_X6_poison_19 : decode (bc mX6_poison) 19 = .ok (.bipush (-2), 2) := by decide +kernel
theorem d_X6_poison_21 : decode (bc mX6_poison) 21 = .ok (.ireturn, 1) := by decide +kernel
theorem d_X6_poison_22 : decode (bc mX6_poison) 22 = .ok (.aload_n 0, 1) := by decide +kernel
theorem d_X6_poison_23 : decode (bc mX6_poison) 23 = .ok (.invokevirtual 225, 3) := by decide +kernel
theorem d_X6_poison_26 : decode (bc mX6_poison) 26 = .ok (.aload_n 0, 1) := by decide +kernel
theorem d_X6_poison_27 : decode (bc mX6_poison) 27 = .ok (.getfield 7, 3) := by decide +kernel
theorem d_X6_poison_30 : decode (bc mX6_poison) 30 = .ok (.bipush 14, 2) := by decide +kernel
theorem d_X6_poison_32 : decode (bc mX6_poison) 32 = .ok (.iload_n 1, 1) := by decide +kernel
theorem d_X6_poison_33 : decode (bc mX6_poison) 33 = .ok (.iadd, 1) := by decide +kernel
theorem d_X6_poison_34 : decode (bc mX6_poison) 34 = .ok (.iaload, 1) := by decide +kernel
theorem d_X6_poison_35 : decode (bc mX6_poison) 35 = .ok (.istore_n 3, 1) := by decide +kernel
theorem d_X6_poison_36 : decode (bc mX6_poison) 36 = .ok (.aload_n 0, 1) := by decide +kernel
theorem d_X6_poison_37 : decode (bc mX6_poison) 37 = .ok (.getfield 7, 3) := by decide +kernel
theorem d_X6_poison_40 : decode (bc mX6_poison) 40 = .ok (.bipush 14, 2) := by decide +kernel
theorem d_X6_poison_42 : decode (bc mX6_poison) 42 = .ok (.iload_n 1, 1) := by decide +kernel
theorem d_X6_poison_43 : decode (bc mX6_poison) 43 = .ok (.iadd, 1) := by decide +kernel
theorem d_X6_poison_44 : decode (bc mX6_poison) 44 = .ok (.iload_n 2, 1) := by decide +kernel
theorem d_X6_poison_45 : decode (bc mX6_poison) 45 = .ok (.iastore, 1) := by decide +kernel
theorem d_X6_poison_46 : decode (bc mX6_poison) 46 = .ok (.iload_n 3, 1) := by decide +kernel
theorem d_X6_poison_47 : decode (bc mX6_poison) 47 = .ok (.ireturn, 1) := by decide +kernel
theorem d_X6_ask_0 : decode (bc mX6_ask) 0 = .ok (.iload_n 1, 1) := by decide +kernel
theorem d_X6_ask_1 : decode (bc mX6_ask) 1 = .ok (.invokestatic 234, 3) := by decide +kernel
theorem d_X6_ask_4 : decode (bc mX6_ask) 4 = .ok (.ifCond .ne 5, 3) := by decide +kernel
theorem d_X6_ask_7 : decode (bc mX6_ask) 7 = .ok (.iconst (-1), 1) := by decide +kernel
theorem d_X6_ask_8 : decode (bc mX6_ask) 8 = .ok (.ireturn, 1) := by decide +kernel
theorem d_X6_ask_9 : decode (bc mX6_ask) 9 = .ok (.aload_n 0, 1) := by decide +kernel
theorem d_X6_ask_10 : decode (bc mX6_ask) 10 = .ok (.invokevirtual 225, 3) := by decide +kernel
theorem d_X6_ask_13 : decode (bc mX6_ask) 13 = .ok (.aload_n 0, 1) := by decide +kernel
theorem d_X6_ask_14 : decode (bc mX6_ask) 14 = .ok (.aload_n 0, 1) := by decide +kernel
theorem d_X6_ask_15 : decode (bc mX6_ask) 15 = .ok (.getfield 7, 3) := by decide +kernel
theorem d_X6_ask_18 : decode (bc mX6_ask) 18 = .ok (.iload_n 1, 1) := by decide +kernel
theorem d_X6_ask_19 : decode (bc mX6_ask) 19 = .ok (.invokevirtual 237, 3) := by decide +kernel
theorem d_X6_ask_22 : decode (bc mX6_ask) 22 = .ok (.ireturn, 1) := by decide +kernel
theorem d_X6_forget_0 : decode (bc mX6_forget) 0 = .ok (.iload_n 1, 1) := by decide +kernel
theorem d_X6_forget_1 : decode (bc mX6_forget) 1 = .ok (.i2l, 1) := by decide +kernel
theorem d_X6_forget_2 : decode (bc mX6_forget) 2 = .ok (.lconst 0, 1) := by decide +kernel
theorem d_X6_forget_3 : decode (bc mX6_forget) 3 = .ok (.aload_n 0, 1) := by decide +kernel
theorem d_X6_forget_4 : decode (bc mX6_forget) 4 = .ok (.getfield 7, 3) := by decide +kernel
theorem d_X6_forget_7 : decode (bc mX6_forget) 7 = .ok (.sipush 814, 3) := by decide +kernel
theorem d_X6_forget_10 : decode (bc mX6_forget) 10 = .ok (.iaload, 1) := by decide +kernel
theorem d_X6_forget_11 : decode (bc mX6_forget) 11 = .ok (.iconst 1, 1) := by decide +kernel
theorem d_X6_forget_12 : decode (bc mX6_forget) 12 = .ok (.isub, 1) := by decide +kernel
theorem d_X6_forget_13 : decode (bc mX6_forget) 13 = .ok (.i2l, 1) := by decide +kernel
theorem d_X6_forget_14 : decode (bc mX6_forget) 14 = .ok (.invokestatic 91, 3) := by decide +kernel
theorem d_X6_forget_17 : decode (bc mX6_forget) 17 = .ok (.ifCond .ne 5, 3) := by decide +kernel
theorem d_X6_forget_20 : decode (bc mX6_forget) 20 = .ok (.iconst (-1), 1) := by decide +kernel
theorem d_X6_forget_21 : decode (bc mX6_forget) 21 = .ok (.ireturn, 1) := by decide +kernel
theorem d_X6_forget_22 : decode (bc mX6_forget) 22 = .ok (.aload_n 0, 1) := by decide +kernel
theorem d_X6_forget_23 : decode (bc mX6_forget) 23 = .ok (.invokevirtual 225, 3) := by decide +kernel
theorem d_X6_forget_26 : decode (bc mX6_forget) 26 = .ok (.aload_n 0, 1) := by decide +kernel
theorem d_X6_forget_27 : decode (bc mX6_forget) 27 = .ok (.getfield 7, 3) := by decide +kernel
theorem d_X6_forget_30 : decode (bc mX6_forget) 30 = .ok (.iload_n 1, 1) := by decide +kernel
theorem d_X6_forget_31 : decode (bc mX6_forget) 31 = .ok (.invokestatic 240, 3) := by decide +kernel
theorem d_X6_forget_34 : decode (bc mX6_forget) 34 = .ok (.aload_n 0, 1) := by decide +kernel
theorem d_X6_forget_35 : decode (bc mX6_forget) 35 = .ok (.getfield 7, 3) := by decide +kernel
theorem d_X6_forget_38 : decode (bc mX6_forget) 38 = .ok (.sipush 814, 3) := by decide +kernel
theorem d_X6_forget_41 : decode (bc mX6_forget) 41 = .ok (.iaload, 1) := by decide +kernel
theorem d_X6_forget_42 : decode (bc mX6_forget) 42 = .ok (.ireturn, 1) := by decide +kernel
theorem d_X6_recipe_0 : decode (bc mX6_recipe) 0 = .ok (.iload_n 1, 1) := by decide +kernel
theorem d_X6_recipe_1 : decode (bc mX6_recipe) 1 = .ok (.invokestatic 234, 3) := by decide +kernel
theorem d_X6_recipe_4 : decode (bc mX6_recipe) 4 = .ok (.ifCond .ne 5, 3) := by decide +kernel
theorem d_X6_recipe_7 : decode (bc mX6_recipe) 7 = .ok (.iconst (-1), 1) := by decide +kernel
theorem d_X6_recipe_8 : decode (bc mX6_recipe) 8 = .ok (.ireturn, 1) := by decide +kernel
theorem d_X6_recipe_9 : decode (bc mX6_recipe) 9 = .ok (.aload_n 0, 1) := by decide +kernel
theorem d_X6_recipe_10 : decode (bc mX6_recipe) 10 = .ok (.invokevirtual 144, 3) := by decide +kernel
theorem d_X6_recipe_13 : decode (bc mX6_recipe) 13 = .ok (.bipush (-6), 2) := by decide +kernel
theorem d_X6_recipe_15 : decode (bc mX6_recipe) 15 = .ok (.if_icmp .eq 6, 3) := by decide +kernel
theorem d_X6_recipe_18 : decode (bc mX6_recipe) 18 = .ok (.bipush (-3), 2) := by decide +kernel
theorem d_X6_recipe_20 : decode (bc mX6_recipe) 20 = .ok (.ireturn, 1) := by decide +kernel
theorem d_X6_recipe_21 : decode (bc mX6_recipe) 21 = .ok (.iconst 0, 1) := by decide +kernel
theorem d_X6_recipe_22 : decode (bc mX6_recipe) 22 = .ok (.istore_n 2, 1) := by decide +kernel
theorem d_X6_recipe_23 : decode (bc mX6_recipe) 23 = .ok (.iconst 0, 1) := by decide +kernel
theorem d_X6_recipe_24 : decode (bc mX6_recipe) 24 = .ok (.istore_n 3, 1) := by decide +kernel
theorem d_X6_recipe_25 : decode (bc mX6_recipe) 25 = .ok (.iload_n 3, 1) := by decide +kernel
theorem d_X6_recipe_26 : decode (bc mX6_recipe) 26 = .ok (.aload_n 0, 1) := by decide +kernel
theorem d_X6_recipe_27 : decode (bc mX6_recipe) 27 = .ok (.getfield 104, 3) := by decide +kernel
theorem d_X6_recipe_30 : decode (bc mX6_recipe) 30 = .ok (.if_icmp .ge 51, 3) := by decide +kernel
theorem d_X6_recipe_33 : decode (bc mX6_recipe) 33 = .ok (.aload_n 0, 1) := by decide +kernel
theorem d_X6_recipe_34 : decode (bc mX6_recipe) 34 = .ok (.getfield 29, 3) := by decide +kernel
theorem d_X6_recipe_37 : decode (bc mX6_recipe) 37 = .ok (.iload_n 3, 1) := by decide +kernel
theorem d_X6_recipe_38 : decode (bc mX6_recipe) 38 = .ok (.iaload, 1) := by decide +kernel
theorem d_X6_recipe_39 : decode (bc mX6_recipe) 39 = .ok (.iconst 1, 1) := by decide +kernel
theorem d_X6_recipe_40 : decode (bc mX6_recipe) 40 = .ok (.if_icmp .ne 16, 3) := by decide +kernel
theorem d_X6_recipe_43 : decode (bc mX6_recipe) 43 = .ok (.aload_n 0, 1) := by decide +kernel
theorem d_X6_recipe_44 : decode (bc mX6_recipe) 44 = .ok (.getfield 32, 3) := by decide +kernel
theorem d_X6_recipe_47 : decode (bc mX6_recipe) 47 = .ok (.iload_n 3, 1) := by decide +kernel
theorem d_X6_recipe_48 : decode (bc mX6_recipe) 48 = .ok (.iaload, 1) := by decide +kernel
theorem d_X6_recipe_49 : decode (bc mX6_recipe) 49 = .ok (.iload_n 1, 1) := by decide +kernel
theorem d_X6_recipe_50 : decode (bc mX6_recipe) 50 = .ok (.if_icmp .lt 6, 3) := by decide +kernel
theorem d_X6_recipe_53 : decode (bc mX6_recipe) 53 = .ok (.bipush (-5), 2) := by decide +kernel
theorem d_X6_recipe_55 : decode (bc mX6_recipe) 55 = .ok (.ireturn, 1) := by decide +kernel
theorem d_X6_recipe_56 : decode (bc mX6_recipe) 56 = .ok (.iload_n 2, 1) := by decide +kernel
theorem d_X6_recipe_57 : decode (bc mX6_recipe) 57 = .ok (.aload_n 0, 1) := by decide +kernel
theorem d_X6_recipe_58 : decode (bc mX6_recipe) 58 = .ok (.getfield 29, 3) := by decide +kernel
theorem d_X6_recipe_61 : decode (bc mX6_recipe) 61 = .ok (.iload_n 3, 1) := by decide +kernel
theorem d_X6_recipe_62 : decode (bc mX6_recipe) 62 = .ok (.iaload, 1) := by decide +kernel
theorem d_X6_recipe_63 : decode (bc mX6_recipe) 63 = .ok (.bipush 7, 2) := by decide +kernel
theorem d_X6_recipe_65 : decode (bc mX6_recipe) 65 = .ok (.if_icmp .ne 7, 3) := by decide +kernel
theorem d_X6_recipe_68 : decode (bc mX6_recipe) 68 = .ok (.iconst 0, 1) := by decide +kernel
theorem d_X6_recipe_69 : decode (bc mX6_recipe) 69 = .ok (.goto 4, 3) := by decide +kernel
theorem d_X6_recipe_72 : decode (bc mX6_recipe) 72 = .ok (.iconst 1, 1) := by decide +kernel
theorem d_X6_recipe_73 : decode (bc mX6_recipe) 73 = .ok (.iadd, 1) := by decide +kernel
theorem d_X6_recipe_74 : decode (bc mX6_recipe) 74 = .ok (.istore_n 2, 1) := by decide +kernel
theorem d_X6_recipe_75 : decode (bc mX6_recipe) 75 = .ok (.iinc 3 1, 3) := by decide +kernel
theorem d_X6_recipe_78 : decode (bc mX6_recipe) 78 = .ok (.goto (-53), 3) := by decide +kernel
theorem d_X6_recipe_81 : decode (bc mX6_recipe) 81 = .ok (.aload_n 0, 1) := by decide +kernel
theorem d_X6_recipe_82 : decode (bc mX6_recipe) 82 = .ok (.invokevirtual 225, 3) := by decide +kernel
theorem d_X6_recipe_85 : decode (bc mX6_recipe) 85 = .ok (.aload_n 0, 1) := by decide +kernel
theorem d_X6_recipe_86 : decode (bc mX6_recipe) 86 = .ok (.iconst 0, 1) := by decide +kernel
theorem d_X6_recipe_87 : decode (bc mX6_recipe) 87 = .ok (.putfield 101, 3) := by decide +kernel
theorem d_X6_recipe_90 : decode (bc mX6_recipe) 90 = .ok (.aload_n 0, 1) := by decide +kernel
theorem d_X6_recipe_91 : decode (bc mX6_recipe) 91 = .ok (.getfield 7, 3) := by decide +kernel
theorem d_X6_recipe_94 : decode (bc mX6_recipe) 94 = .ok (.bipush 26, 2) := by decide +kernel
theorem d_X6_recipe_96 : decode (bc mX6_recipe) 96 = .ok (.iload_n 1, 1) := by decide +kernel
theorem d_X6_recipe_97 : decode (bc mX6_recipe) 97 = .ok (.iadd, 1) := by decide +kernel
theorem d_X6_recipe_98 : decode (bc mX6_recipe) 98 = .ok (.aload_n 0, 1) := by decide +kernel
theorem d_X6_recipe_99 : decode (bc mX6_recipe) 99 = .ok (.getfield 104, 3) := by decide +kernel
theorem d_X6_recipe_102 : decode (bc mX6_recipe) 102 = .ok (.iastore, 1) := by decide +kernel
theorem d_X6_recipe_103 : decode (bc mX6_recipe) 103 = .ok (.iconst 0, 1) := by decide +kernel
theorem d_X6_recipe_104 : decode (bc mX6_recipe) 104 = .ok (.istore_n 3, 1) := by decide +kernel
theorem d_X6_recipe_105 : decode (bc mX6_recipe) 105 = .ok (.iload_n 3, 1) := by decide +kernel
theorem d_X6_recipe_106 : decode (bc mX6_recipe) 106 = .ok (.aload_n 0, 1) := by decide +kernel
theorem d_X6_recipe_107 : decode (bc mX6_recipe) 107 = .ok (.getfield 104, 3) := by decide +kernel
theorem d_X6_recipe_110 : decode (bc mX6_recipe) 110 = .ok (.if_icmp .ge 50, 3) := by decide +kernel
theorem d_X6_recipe_113 : decode (bc mX6_recipe) 113 = .ok (.aload_n 0, 1) := by decide +kernel
theorem d_X6_recipe_114 : decode (bc mX6_recipe) 114 = .ok (.getfield 7, 3) := by decide +kernel
theorem d_X6_recipe_117 : decode (bc mX6_recipe) 117 = .ok (.bipush 32, 2) := by decide +kernel
theorem d_X6_recipe_119 : decode (bc mX6_recipe) 119 = .ok (.bipush 64, 2) := by decide +kernel
theorem d_X6_recipe_121 : decode (bc mX6_recipe) 121 = .ok (.iload_n 1, 1) := by decide +kernel
theorem d_X6_recipe_122 : decode (bc mX6_recipe) 122 = .ok (.imul, 1) := by decide +kernel
theorem d_X6_recipe_123 : decode (bc mX6_recipe) 123 = .ok (.iadd, 1) := by decide +kernel
theorem d_X6_recipe_124 : decode (bc mX6_recipe) 124 = .ok (.iload_n 3, 1) := by decide +kernel
theorem d_X6_recipe_125 : decode (bc mX6_recipe) 125 = .ok (.iadd, 1) := by decide +kernel
theorem d_X6_recipe_126 : decode (bc mX6_recipe) 126 = .ok (.aload_n 0, 1) := by decide +kernel
theorem d_X6_recipe_127 : decode (bc mX6_recipe) 127 = .ok (.getfield 29, 3) := by decide +kernel
theorem d_X6_recipe_130 : decode (bc mX6_recipe) 130 = .ok (.iload_n 3, 1) := by decide +kernel
theorem d_X6_recipe_131 : decode (bc mX6_recipe) 131 = .ok (.iaload, 1) := by decide +kernel
theorem d_X6_recipe_132 : decode (bc mX6_recipe) 132 = .ok (.iastore, 1) := by decide +kernel
theorem d_X6_recipe_133 : decode (bc mX6_recipe) 133 = .ok (.aload_n 0, 1) := by decide +kernel
theorem d_X6_recipe_134 : decode (bc mX6_recipe) 134 = .ok (.getfield 7, 3) := by decide +kernel
theorem d_X6_recipe_137 : decode (bc mX6_recipe) 137 = .ok (.sipush 416, 3) := by decide +kernel
theorem d_X6_recipe_140 : decode (bc mX6_recipe) 140 = .ok (.bipush 64, 2) := by decide +kernel
theorem d_X6_recipe_142 : decode (bc mX6_recipe) 142 = .ok (.iload_n 1, 1) := by decide +kernel
theorem d_X6_recipe_143 : decode (bc mX6_recipe) 143 = .ok (.imul, 1) := by decide +kernel
theorem d_X6_recipe_144 : decode (bc mX6_recipe) 144 = .ok (.iadd, 1) := by decide +kernel
theorem d_X6_recipe_145 : decode (bc mX6_recipe) 145 = .ok (.iload_n 3, 1) := by decide +kernel
theorem d_X6_recipe_146 : decode (bc mX6_recipe) 146 = .ok (.iadd, 1) := by decide +kernel
theorem d_X6_recipe_147 : decode (bc mX6_recipe) 147 = .ok (.aload_n 0, 1) := by decide +kernel
theorem d_X6_recipe_148 : decode (bc mX6_recipe) 148 = .ok (.getfield 32, 3) := by decide +kernel
theorem d_X6_recipe_151 : decode (bc mX6_recipe) 151 = .ok (.iload_n 3, 1) := by decide +kernel
theorem d_X6_recipe_152 : decode (bc mX6_recipe) 152 = .ok (.iaload, 1) := by decide +kernel
theorem d_X6_recipe_153 : decode (bc mX6_recipe) 153 = .ok (.iastore, 1) := by decide +kernel
theorem d_X6_recipe_154 : decode (bc mX6_recipe) 154 = .ok (.iinc 3 1, 3) := by decide +kernel
theorem d_X6_recipe_157 : decode (bc mX6_recipe) 157 = .ok (.goto (-52), 3) := by decide +kernel
theorem d_X6_recipe_160 : decode (bc mX6_recipe) 160 = .ok (.aload_n 0, 1) := by decide +kernel
theorem d_X6_recipe_161 : decode (bc mX6_recipe) 161 = .ok (.getfield 7, 3) := by decide +kernel
theorem d_X6_recipe_164 : decode (bc mX6_recipe) 164 = .ok (.sipush 814, 3) := by decide +kernel
theorem d_X6_recipe_167 : decode (bc mX6_recipe) 167 = .ok (.iaload, 1) := by decide +kernel
theorem d_X6_recipe_168 : decode (bc mX6_recipe) 168 = .ok (.iconst 1, 1) := by decide +kernel
theorem d_X6_recipe_169 : decode (bc mX6_recipe) 169 = .ok (.isub, 1) := by decide +kernel
theorem d_X6_recipe_170 : decode (bc mX6_recipe) 170 = .ok (.istore_n 3, 1) := by decide +kernel
theorem d_X6_recipe_171 : decode (bc mX6_recipe) 171 = .ok (.iload_n 3, 1) := by decide +kernel
theorem d_X6_recipe_172 : decode (bc mX6_recipe) 172 = .ok (.ifCond .lt 32, 3) := by decide +kernel
theorem d_X6_recipe_175 : decode (bc mX6_recipe) 175 = .ok (.aload_n 0, 1) := by decide +kernel
theorem d_X6_recipe_176 : decode (bc mX6_recipe) 176 = .ok (.getfield 7, 3) := by decide +kernel
theorem d_X6_recipe_179 : decode (bc mX6_recipe) 179 = .ok (.iload_n 3, 1) := by decide +kernel
theorem d_X6_recipe_180 : decode (bc mX6_recipe) 180 = .ok (.invokestatic 147, 3) := by decide +kernel
theorem d_X6_recipe_183 : decode (bc mX6_recipe) 183 = .ok (.iconst 1, 1) := by decide +kernel
theorem d_X6_recipe_184 : decode (bc mX6_recipe) 184 = .ok (.iadd, 1) := by decide +kernel
theorem d_X6_recipe_185 : decode (bc mX6_recipe) 185 = .ok (.iaload, 1) := by decide +kernel
theorem d_X6_recipe_186 : decode (bc mX6_recipe) 186 = .ok (.iload_n 1, 1) := by decide +kernel
theorem d_X6_recipe_187 : decode (bc mX6_recipe) 187 = .ok (.if_icmp .ne 11, 3) := by decide +kernel
theorem d_X6_recipe_190 : decode (bc mX6_recipe) 190 = .ok (.aload_n 0, 1) := by decide +kernel
theorem d_X6_recipe_191 : decode (bc mX6_recipe) 191 = .ok (.getfield 7, 3) := by decide +kernel
theorem d_X6_recipe_194 : decode (bc mX6_recipe) 194 = .ok (.iload_n 3, 1) := by decide +kernel
theorem d_X6_recipe_195 : decode (bc mX6_recipe) 195 = .ok (.invokestatic 240, 3) := by decide +kernel
theorem d_X6_recipe_198 : decode (bc mX6_recipe) 198 = .ok (.iinc 3 (-1), 3) := by decide +kernel
theorem d_X6_recipe_201 : decode (bc mX6_recipe) 201 = .ok (.goto (-30), 3) := by decide +kernel
theorem d_X6_recipe_204 : decode (bc mX6_recipe) 204 = .ok (.iload_n 2, 1) := by decide +kernel
theorem d_X6_recipe_205 : decode (bc mX6_recipe) 205 = .ok (.ireturn, 1) := by decide +kernel
theorem d_X6_namedBy_0 : decode (bc mX6_namedBy) 0 = .ok (.iconst 0, 1) := by decide +kernel
theorem d_X6_namedBy_1 : decode (bc mX6_namedBy) 1 = .ok (.istore_n 3, 1) := by decide +kernel
theorem d_X6_namedBy_2 : decode (bc mX6_namedBy) 2 = .ok (.iconst 0, 1) := by decide +kernel
theorem d_X6_namedBy_3 : decode (bc mX6_namedBy) 3 = .ok (.istore 4, 2) := by decide +kernel
theorem d_X6_namedBy_5 : decode (bc mX6_namedBy) 5 = .ok (.iload 4, 2) := by decide +kernel
theorem d_X6_namedBy_7 : decode (bc mX6_namedBy) 7 = .ok (.aload_n 0, 1) := by decide +kernel
theorem d_X6_namedBy_8 : decode (bc mX6_namedBy) 8 = .ok (.bipush 26, 2) := by decide +kernel
theorem d_X6_namedBy_10 : decode (bc mX6_namedBy) 10 = .ok (.iload_n 1, 1) := by decide +kernel
theorem d_X6_namedBy_11 : decode (bc mX6_namedBy) 11 = .ok (.iadd, 1) := by decide +kernel
theorem d_X6_namedBy_12 : decode (bc mX6_namedBy) 12 = .ok (.iaload, 1) := by decide +kernel
theorem d_X6_namedBy_13 : decode (bc mX6_namedBy) 13 = .ok (.if_icmp .ge 47, 3) := by decide +kernel
theorem d_X6_namedBy_16 : decode (bc mX6_namedBy) 16 = .ok (.iload_n 3, 1) := by decide +kernel
theorem d_X6_namedBy_17 : decode (bc mX6_namedBy) 17 = .ok (.aload_n 0, 1) := by decide +kernel
theorem d_X6_namedBy_18 : decode (bc mX6_namedBy) 18 = .ok (.bipush 32, 2) := by decide +kernel
theorem d_X6_namedBy_20 : decode (bc mX6_namedBy) 20 = .ok (.bipush 64, 2) := by decide +kernel
theorem d_X6_namedBy_22 : decode (bc mX6_namedBy) 22 = .ok (.iload_n 1, 1) := by decide +kernel
theorem d_X6_namedBy_23 : decode (bc mX6_namedBy) 23 = .ok (.imul, 1) := by decide +kernel
theorem d_X6_namedBy_24 : decode (bc mX6_namedBy) 24 = .ok (.iadd, 1) := by decide +kernel
theorem d_X6_namedBy_25 : decode (bc mX6_namedBy) 25 = .ok (.iload 4, 2) := by decide +kernel
theorem d_X6_namedBy_27 : decode (bc mX6_namedBy) 27 = .ok (.iadd, 1) := by decide +kernel
theorem d_X6_namedBy_28 : decode (bc mX6_namedBy) 28 = .ok (.iaload, 1) := by decide +kernel
