theorem d_X6_namedBy_29 : decode (bc mX6_namedBy) 29 = .ok (.iload_n 2, 1) := by decide +kernel
theorem d_X6_namedBy_30 : decode (bc mX6_namedBy) 30 = .ok (.if_icmp .ne 21, 3) := by decide +kernel
theorem d_X6_namedBy_33 : decode (bc mX6_namedBy) 33 = .ok (.iconst 1, 1) := by decide +kernel
theorem d_X6_namedBy_34 : decode (bc mX6_namedBy) 34 = .ok (.aload_n 0, 1) := by decide +kernel
theorem d_X6_namedBy_35 : decode (bc mX6_namedBy) 35 = .ok (.sipush 416, 3) := by decide +kernel
theorem d_X6_namedBy_38 : decode (bc mX6_namedBy) 38 = .ok (.bipush 64, 2) := by decide +kernel
theorem d_X6_namedBy_40 : decode (bc mX6_namedBy) 40 = .ok (.iload_n 1, 1) := by decide +kernel
theorem d_X6_namedBy_41 : decode (bc mX6_namedBy) 41 = .ok (.imul, 1) := by decide +kernel
theorem d_X6_namedBy_42 : decode (bc mX6_namedBy) 42 = .ok (.iadd, 1) := by decide +kernel
theorem d_X6_namedBy_43 : decode (bc mX6_namedBy) 43 = .ok (.iload 4, 2) := by decide +kernel
theorem d_X6_namedBy_45 : decode (bc mX6_namedBy) 45 = .ok (.iadd, 1) := by decide +kernel
theorem d_X6_namedBy_46 : decode (bc mX6_namedBy) 46 = .ok (.iaload, 1) := by decide +kernel
theorem d_X6_namedBy_47 : decode (bc mX6_namedBy) 47 = .ok (.ishl, 1) := by decide +kernel
theorem d_X6_namedBy_48 : decode (bc mX6_namedBy) 48 = .ok (.goto 4, 3) := by decide +kernel
theorem d_X6_namedBy_51 : decode (bc mX6_namedBy) 51 = .ok (.iconst 0, 1) := by decide +kernel
theorem d_X6_namedBy_52 : decode (bc mX6_namedBy) 52 = .ok (.ior, 1) := by decide +kernel
theorem d_X6_namedBy_53 : decode (bc mX6_namedBy) 53 = .ok (.istore_n 3, 1) := by decide +kernel
theorem d_X6_namedBy_54 : decode (bc mX6_namedBy) 54 = .ok (.iinc 4 1, 3) := by decide +kernel
theorem d_X6_namedBy_57 : decode (bc mX6_namedBy) 57 = .ok (.goto (-52), 3) := by decide +kernel
theorem d_X6_namedBy_60 : decode (bc mX6_namedBy) 60 = .ok (.iload_n 3, 1) := by decide +kernel
theorem d_X6_namedBy_61 : decode (bc mX6_namedBy) 61 = .ok (.ireturn, 1) := by decide +kernel
theorem d_X6_ofShelf_0 : decode (bc mX6_ofShelf) 0 = .ok (.iload_n 1, 1) := by decide +kernel
theorem d_X6_ofShelf_1 : decode (bc mX6_ofShelf) 1 = .ok (.invokestatic 228, 3) := by decide +kernel
theorem d_X6_ofShelf_4 : decode (bc mX6_ofShelf) 4 = .ok (.ifCond .ne 5, 3) := by decide +kernel
theorem d_X6_ofShelf_7 : decode (bc mX6_ofShelf) 7 = .ok (.iconst (-1), 1) := by decide +kernel
theorem d_X6_ofShelf_8 : decode (bc mX6_ofShelf) 8 = .ok (.ireturn, 1) := by decide +kernel
theorem d_X6_ofShelf_9 : decode (bc mX6_ofShelf) 9 = .ok (.iload_n 2, 1) := by decide +kernel
theorem d_X6_ofShelf_10 : decode (bc mX6_ofShelf) 10 = .ok (.i2l, 1) := by decide +kernel
theorem d_X6_ofShelf_11 : decode (bc mX6_ofShelf) 11 = .ok (.lconst 0, 1) := by decide +kernel
theorem d_X6_ofShelf_12 : decode (bc mX6_ofShelf) 12 = .ok (.ldc2_w 243, 3) := by decide +kernel
theorem d_X6_ofShelf_15 : decode (bc mX6_ofShelf) 15 = .ok (.invokestatic 91, 3) := by decide +kernel
theorem d_X6_ofShelf_18 : decode (bc mX6_ofShelf) 18 = .ok (.ifCond .ne 6, 3) := by decide +kernel
theorem d_X6_ofShelf_21 : decode (bc mX6_ofShelf) 21 = .ok (.bipush (-2), 2) := by decide +kernel
theorem d_X6_ofShelf_23 : decode (bc mX6_ofShelf) 23 = .ok (.ireturn, 1) := by decide +kernel
theorem d_X6_ofShelf_24 : decode (bc mX6_ofShelf) 24 = .ok (.iconst 0, 1) := by decide +kernel
theorem d_X6_ofShelf_25 : decode (bc mX6_ofShelf) 25 = .ok (.istore_n 3, 1) := by decide +kernel
theorem d_X6_ofShelf_26 : decode (bc mX6_ofShelf) 26 = .ok (.iconst 0, 1) := by decide +kernel
theorem d_X6_ofShelf_27 : decode (bc mX6_ofShelf) 27 = .ok (.istore 4, 2) := by decide +kernel
theorem d_X6_ofShelf_29 : decode (bc mX6_ofShelf) 29 = .ok (.iload 4, 2) := by decide +kernel
theorem d_X6_ofShelf_31 : decode (bc mX6_ofShelf) 31 = .ok (.bipush 6, 2) := by decide +kernel
theorem d_X6_ofShelf_33 : decode (bc mX6_ofShelf) 33 = .ok (.if_icmp .ge 29, 3) := by decide +kernel
theorem d_X6_ofShelf_36 : decode (bc mX6_ofShelf) 36 = .ok (.iload_n 3, 1) := by decide +kernel
theorem d_X6_ofShelf_37 : decode (bc mX6_ofShelf) 37 = .ok (.aload_n 0, 1) := by decide +kernel
theorem d_X6_ofShelf_38 : decode (bc mX6_ofShelf) 38 = .ok (.getfield 7, 3) := by decide +kernel
theorem d_X6_ofShelf_41 : decode (bc mX6_ofShelf) 41 = .ok (.iload 4, 2) := by decide +kernel
theorem d_X6_ofShelf_43 : decode (bc mX6_ofShelf) 43 = .ok (.iconst 0, 1) := by decide +kernel
theorem d_X6_ofShelf_44 : decode (bc mX6_ofShelf) 44 = .ok (.invokestatic 245, 3) := by decide +kernel
theorem d_X6_ofShelf_47 : decode (bc mX6_ofShelf) 47 = .ok (.iload_n 1, 1) := by decide +kernel
theorem d_X6_ofShelf_48 : decode (bc mX6_ofShelf) 48 = .ok (.ishr, 1) := by decide +kernel
theorem d_X6_ofShelf_49 : decode (bc mX6_ofShelf) 49 = .ok (.iconst 1, 1) := by decide +kernel
theorem d_X6_ofShelf_50 : decode (bc mX6_ofShelf) 50 = .ok (.iand, 1) := by decide +kernel
theorem d_X6_ofShelf_51 : decode (bc mX6_ofShelf) 51 = .ok (.iload 4, 2) := by decide +kernel
theorem d_X6_ofShelf_53 : decode (bc mX6_ofShelf) 53 = .ok (.ishl, 1) := by decide +kernel
theorem d_X6_ofShelf_54 : decode (bc mX6_ofShelf) 54 = .ok (.ior, 1) := by decide +kernel
theorem d_X6_ofShelf_55 : decode (bc mX6_ofShelf) 55 = .ok (.istore_n 3, 1) := by decide +kernel
theorem d_X6_ofShelf_56 : decode (bc mX6_ofShelf) 56 = .ok (.iinc 4 1, 3) := by decide +kernel
theorem d_X6_ofShelf_59 : decode (bc mX6_ofShelf) 59 = .ok (.goto (-30), 3) := by decide +kernel
theorem d_X6_ofShelf_62 : decode (bc mX6_ofShelf) 62 = .ok (.iload_n 2, 1) := by decide +kernel
theorem d_X6_ofShelf_63 : decode (bc mX6_ofShelf) 63 = .ok (.ifCond .ne 14, 3) := by decide +kernel
theorem d_X6_ofShelf_66 : decode (bc mX6_ofShelf) 66 = .ok (.aload_n 0, 1) := by decide +kernel
theorem d_X6_ofShelf_67 : decode (bc mX6_ofShelf) 67 = .ok (.getfield 7, 3) := by decide +kernel
theorem d_X6_ofShelf_70 : decode (bc mX6_ofShelf) 70 = .ok (.iconst 2, 1) := by decide +kernel
theorem d_X6_ofShelf_71 : decode (bc mX6_ofShelf) 71 = .ok (.iload_n 1, 1) := by decide +kernel
theorem d_X6_ofShelf_72 : decode (bc mX6_ofShelf) 72 = .ok (.iadd, 1) := by decide +kernel
theorem d_X6_ofShelf_73 : decode (bc mX6_ofShelf) 73 = .ok (.iaload, 1) := by decide +kernel
theorem d_X6_ofShelf_74 : decode (bc mX6_ofShelf) 74 = .ok (.goto 21, 3) := by decide +kernel
theorem d_X6_ofShelf_77 : decode (bc mX6_ofShelf) 77 = .ok (.iload_n 2, 1) := by decide +kernel
theorem d_X6_ofShelf_78 : decode (bc mX6_ofShelf) 78 = .ok (.iconst 1, 1) := by decide +kernel
theorem d_X6_ofShelf_79 : decode (bc mX6_ofShelf) 79 = .ok (.if_icmp .ne 15, 3) := by decide +kernel
theorem d_X6_ofShelf_82 : decode (bc mX6_ofShelf) 82 = .ok (.aload_n 0, 1) := by decide +kernel
theorem d_X6_ofShelf_83 : decode (bc mX6_ofShelf) 83 = .ok (.getfield 7, 3) := by decide +kernel
theorem d_X6_ofShelf_86 : decode (bc mX6_ofShelf) 86 = .ok (.bipush 14, 2) := by decide +kernel
theorem d_X6_ofShelf_88 : decode (bc mX6_ofShelf) 88 = .ok (.iload_n 1, 1) := by decide +kernel
theorem d_X6_ofShelf_89 : decode (bc mX6_ofShelf) 89 = .ok (.iadd, 1) := by decide +kernel
theorem d_X6_ofShelf_90 : decode (bc mX6_ofShelf) 90 = .ok (.iaload, 1) := by decide +kernel
theorem d_X6_ofShelf_91 : decode (bc mX6_ofShelf) 91 = .ok (.goto 4, 3) := by decide +kernel
theorem d_X6_ofShelf_94 : decode (bc mX6_ofShelf) 94 = .ok (.iload_n 3, 1) := by decide +kernel
theorem d_X6_ofShelf_95 : decode (bc mX6_ofShelf) 95 = .ok (.ireturn, 1) := by decide +kernel
theorem d_X6_ofLoaf_0 : decode (bc mX6_ofLoaf) 0 = .ok (.iload_n 1, 1) := by decide +kernel
theorem d_X6_ofLoaf_1 : decode (bc mX6_ofLoaf) 1 = .ok (.invokestatic 234, 3) := by decide +kernel
theorem d_X6_ofLoaf_4 : decode (bc mX6_ofLoaf) 4 = .ok (.ifCond .ne 5, 3) := by decide +kernel
theorem d_X6_ofLoaf_7 : decode (bc mX6_ofLoaf) 7 = .ok (.iconst (-1), 1) := by decide +kernel
theorem d_X6_ofLoaf_8 : decode (bc mX6_ofLoaf) 8 = .ok (.ireturn, 1) := by decide +kernel
theorem d_X6_ofLoaf_9 : decode (bc mX6_ofLoaf) 9 = .ok (.iload_n 2, 1) := by decide +kernel
theorem d_X6_ofLoaf_10 : decode (bc mX6_ofLoaf) 10 = .ok (.tableswitch 148 0 5 #[38, 56, 66, 76, 87, 98], 38) := by decide +kernel
theorem d_X6_ofLoaf_48 : decode (bc mX6_ofLoaf) 48 = .ok (.aload_n 0, 1) := by decide +kernel
theorem d_X6_ofLoaf_49 : decode (bc mX6_ofLoaf) 49 = .ok (.getfield 7, 3) := by decide +kernel
theorem d_X6_ofLoaf_52 : decode (bc mX6_ofLoaf) 52 = .ok (.bipush 26, 2) := by decide +kernel
theorem d_X6_ofLoaf_54 : decode (bc mX6_ofLoaf) 54 = .ok (.iload_n 1, 1) := by decide +kernel
theorem d_X6_ofLoaf_55 : decode (bc mX6_ofLoaf) 55 = .ok (.iadd, 1) := by decide +kernel
theorem d_X6_ofLoaf_56 : decode (bc mX6_ofLoaf) 56 = .ok (.iaload, 1) := by decide +kernel
theorem d_X6_ofLoaf_57 : decode (bc mX6_ofLoaf) 57 = .ok (.ifCond .le 7, 3) := by decide +kernel
theorem d_X6_ofLoaf_60 : decode (bc mX6_ofLoaf) 60 = .ok (.iconst 1, 1) := by decide +kernel
theorem d_X6_ofLoaf_61 : decode (bc mX6_ofLoaf) 61 = .ok (.goto 4, 3) := by decide +kernel
theorem d_X6_ofLoaf_64 : decode (bc mX6_ofLoaf) 64 = .ok (.iconst 0, 1) := by decide +kernel
theorem d_X6_ofLoaf_65 : decode (bc mX6_ofLoaf) 65 = .ok (.ireturn, 1) := by decide +kernel
theorem d_X6_ofLoaf_66 : decode (bc mX6_ofLoaf) 66 = .ok (.aload_n 0, 1) := by decide +kernel
theorem d_X6_ofLoaf_67 : decode (bc mX6_ofLoaf) 67 = .ok (.getfield 7, 3) := by decide +kernel
theorem d_X6_ofLoaf_70 : decode (bc mX6_ofLoaf) 70 = .ok (.iload_n 1, 1) := by decide +kernel
theorem d_X6_ofLoaf_71 : decode (bc mX6_ofLoaf) 71 = .ok (.iconst 0, 1) := by decide +kernel
theorem d_X6_ofLoaf_72 : decode (bc mX6_ofLoaf) 72 = .ok (.invokestatic 245, 3) := by decide +kernel
theorem d_X6_ofLoaf_75 : decode (bc mX6_ofLoaf) 75 = .ok (.ireturn, 1) := by decide +kernel
theorem d_X6_ofLoaf_76 : decode (bc mX6_ofLoaf) 76 = .ok (.aload_n 0, 1) := by decide +kernel
theorem d_X6_ofLoaf_77 : decode (bc mX6_ofLoaf) 77 = .ok (.getfield 7, 3) := by decide +kernel
theorem d_X6_ofLoaf_80 : decode (bc mX6_ofLoaf) 80 = .ok (.iload_n 1, 1) := by decide +kernel
theorem d_X6_ofLoaf_81 : decode (bc mX6_ofLoaf) 81 = .ok (.iconst 1, 1) := by decide +kernel
theorem d_X6_ofLoaf_82 : decode (bc mX6_ofLoaf) 82 = .ok (.invokestatic 245, 3) := by decide +kernel
theorem d_X6_ofLoaf_85 : decode (bc mX6_ofLoaf) 85 = .ok (.ireturn, 1) := by decide +kernel
theorem d_X6_ofLoaf_86 : decode (bc mX6_ofLoaf) 86 = .ok (.aload_n 0, 1) := by decide +kernel
theorem d_X6_ofLoaf_87 : decode (bc mX6_ofLoaf) 87 = .ok (.getfield 7, 3) := by decide +kernel
theorem d_X6_ofLoaf_90 : decode (bc mX6_ofLoaf) 90 = .ok (.sipush 800, 3) := by decide +kernel
theorem d_X6_ofLoaf_93 : decode (bc mX6_ofLoaf) 93 = .ok (.iload_n 1, 1) := by decide +kernel
theorem d_X6_ofLoaf_94 : decode (bc mX6_ofLoaf) 94 = .ok (.iadd, 1) := by decide +kernel
theorem d_X6_ofLoaf_95 : decode (bc mX6_ofLoaf) 95 = .ok (.iaload, 1) := by decide +kernel
theorem d_X6_ofLoaf_96 : decode (bc mX6_ofLoaf) 96 = .ok (.ireturn, 1) := by decide +kernel
theorem d_X6_ofLoaf_97 : decode (bc mX6_ofLoaf) 97 = .ok (.aload_n 0, 1) := by decide +kernel
theorem d_X6_ofLoaf_98 : decode (bc mX6_ofLoaf) 98 = .ok (.getfield 7, 3) := by decide +kernel
theorem d_X6_ofLoaf_101 : decode (bc mX6_ofLoaf) 101 = .ok (.sipush 806, 3) := by decide +kernel
theorem d_X6_ofLoaf_104 : decode (bc mX6_ofLoaf) 104 = .ok (.iload_n 1, 1) := by decide +kernel
theorem d_X6_ofLoaf_105 : decode (bc mX6_ofLoaf) 105 = .ok (.iadd, 1) := by decide +kernel
theorem d_X6_ofLoaf_106 : decode (bc mX6_ofLoaf) 106 = .ok (.iaload, 1) := by decide +kernel
theorem d_X6_ofLoaf_107 : decode (bc mX6_ofLoaf) 107 = .ok (.ireturn, 1) := by decide +kernel
theorem d_X6_ofLoaf_108 : decode (bc mX6_ofLoaf) 108 = .ok (.iconst 0, 1) := by decide +kernel
theorem d_X6_ofLoaf_109 : decode (bc mX6_ofLoaf) 109 = .ok (.istore_n 3, 1) := by decide +kernel
theorem d_X6_ofLoaf_110 : decode (bc mX6_ofLoaf) 110 = .ok (.iconst 0, 1) := by decide +kernel
theorem d_X6_ofLoaf_111 : decode (bc mX6_ofLoaf) 111 = .ok (.istore 4, 2) := by decide +kernel
theorem d_X6_ofLoaf_113 : decode (bc mX6_ofLoaf) 113 = .ok (.iload 4, 2) := by decide +kernel
theorem d_X6_ofLoaf_115 : decode (bc mX6_ofLoaf) 115 = .ok (.aload_n 0, 1) := by decide +kernel
theorem d_X6_ofLoaf_116 : decode (bc mX6_ofLoaf) 116 = .ok (.getfield 7, 3) := by decide +kernel
theorem d_X6_ofLoaf_119 : decode (bc mX6_ofLoaf) 119 = .ok (.sipush 814, 3) := by decide +kernel
theorem d_X6_ofLoaf_122 : decode (bc mX6_ofLoaf) 122 = .ok (.iaload, 1) := by decide +kernel
theorem d_X6_ofLoaf_123 : decode (bc mX6_ofLoaf) 123 = .ok (.if_icmp .ge 33, 3) := by decide +kernel
theorem d_X6_ofLoaf_126 : decode (bc mX6_ofLoaf) 126 = .ok (.iload_n 3, 1) := by decide +kernel
theorem d_X6_ofLoaf_127 : decode (bc mX6_ofLoaf) 127 = .ok (.aload_n 0, 1) := by decide +kernel
theorem d_X6_ofLoaf_128 : decode (bc mX6_ofLoaf) 128 = .ok (.getfield 7, 3) := by decide +kernel
theorem d_X6_ofLoaf_131 : decode (bc mX6_ofLoaf) 131 = .ok (.iload 4, 2) := by decide +kernel
theorem d_X6_ofLoaf_133 : decode (bc mX6_ofLoaf) 133 = .ok (.invokestatic 147, 3) := by decide +kernel
theorem d_X6_ofLoaf_136 : decode (bc mX6_ofLoaf) 136 = .ok (.iconst 1, 1) := by decide +kernel
theorem d_X6_ofLoaf_137 : decode (bc mX6_ofLoaf) 137 = .ok (.iadd, 1) := by decide +kernel
theorem d_X6_ofLoaf_138 : decode (bc mX6_ofLoaf) 138 = .ok (.iaload, 1) := by decide +kernel
theorem d_X6_ofLoaf_139 : decode (bc mX6_ofLoaf) 139 = .ok (.iload_n 1, 1) := by decide +kernel
theorem d_X6_ofLoaf_140 : decode (bc mX6_ofLoaf) 140 = .ok (.if_icmp .ne 7, 3) := by decide +kernel
theorem d_X6_ofLoaf_143 : decode (bc mX6_ofLoaf) 143 = .ok (.iconst 1, 1) := by decide +kernel
theorem d_X6_ofLoaf_144 : decode (bc mX6_ofLoaf) 144 = .ok (.goto 4, 3) := by decide +kernel
theorem d_X6_ofLoaf_147 : decode (bc mX6_ofLoaf) 147 = .ok (.iconst 0, 1) := by decide +kernel
theorem d_X6_ofLoaf_148 : decode (bc mX6_ofLoaf) 148 = .ok (.iadd, 1) := by decide +kernel
theorem d_X6_ofLoaf_149 : decode (bc mX6_ofLoaf) 149 = .ok (.istore_n 3, 1) := by decide +kernel
theorem d_X6_ofLoaf_150 : decode (bc mX6_ofLoaf) 150 = .ok (.iinc 4 1, 3) := by decide +kernel
theorem d_X6_ofLoaf_153 : decode (bc mX6_ofLoaf) 153 = .ok (.goto (-40), 3) := by decide +kernel
theorem d_X6_ofLoaf_156 : decode (bc mX6_ofLoaf) 156 = .ok (.iload_n 3, 1) := by decide +kernel
theorem d_X6_ofLoaf_157 : decode (bc mX6_ofLoaf) 157 = .ok (.ireturn, 1) := by decide +kernel
theorem d_X6_ofLoaf_158 : decode (bc mX6_ofLoaf) 158 = .ok (.bipush (-2), 2) := by decide +kernel
theorem d_X6_ofLoaf_160 : decode (bc mX6_ofLoaf) 160 = .ok (.ireturn, 1) := by decide +kernel
theorem d_X6_ofMemory_0 : decode (bc mX6_ofMemory) 0 = .ok (.iload_n 1, 1) := by decide +kernel
theorem d_X6_ofMemory_1 : decode (bc mX6_ofMemory) 1 = .ok (.i2l, 1) := by decide +kernel
theorem d_X6_ofMemory_2 : decode (bc mX6_ofMemory) 2 = .ok (.lconst 0, 1) := by decide +kernel
theorem d_X6_ofMemory_3 : decode (bc mX6_ofMemory) 3 = .ok (.aload_n 0, 1) := by decide +kernel
theorem d_X6_ofMemory_4 : decode (bc mX6_ofMemory) 4 = .ok (.getfield 7, 3) := by decide +kernel
theorem d_X6_ofMemory_7 : decode (bc mX6_ofMemory) 7 = .ok (.sipush 814, 3) := by decide +kernel
theorem d_X6_ofMemory_10 : decode (bc mX6_ofMemory) 10 = .ok (.iaload, 1) := by decide +kernel
theorem d_X6_ofMemory_11 : decode (bc mX6_ofMemory) 11 = .ok (.iconst 1, 1) := by decide +kernel
theorem d_X6_ofMemory_12 : decode (bc mX6_ofMemory) 12 = .ok (.isub, 1) := by decide +kernel
theorem d_X6_ofMemory_13 : decode (bc mX6_ofMemory) 13 = .ok (.i2l, 1) := by decide +kernel
theorem d_X6_ofMemory_14 : decode (bc mX6_ofMemory) 14 = .ok (.invokestatic 91, 3) := by decide +kernel
theorem d_X6_ofMemory_17 : decode (bc mX6_ofMemory) 17 = .ok (.ifCond .ne 5, 3) := by decide +kernel
theorem d_X6_ofMemory_20 : decode (bc mX6_ofMemory) 20 = .ok (.iconst (-1), 1) := by decide +kernel
theorem d_X6_ofMemory_21 : decode (bc mX6_ofMemory) 21 = .ok (.ireturn, 1) := by decide +kernel
theorem d_X6_ofMemory_22 : decode (bc mX6_ofMemory) 22 = .ok (.iload_n 2, 1) := by decide +kernel
theorem d_X6_ofMemory_23 : decode (bc mX6_ofMemory) 23 = .ok (.i2l, 1) := by decide +kernel
theorem d_X6_ofMemory_24 : decode (bc mX6_ofMemory) 24 = .ok (.lconst 0, 1) := by decide +kernel
theorem d_X6_ofMemory_25 : decode (bc mX6_ofMemory) 25 = .ok (.ldc2_w 249, 3) := by decide +kernel
theorem d_X6_ofMemory_28 : decode (bc mX6_ofMemory) 28 = .ok (.invokestatic 91, 3) := by decide +kernel
theorem d_X6_ofMemory_31 : decode (bc mX6_ofMemory) 31 = .ok (.ifCond .eq 19, 3) := by decide +kernel
theorem d_X6_ofMemory_34 : decode (bc mX6_ofMemory) 34 = .ok (.aload_n 0, 1) := by decide +kernel
theorem d_X6_ofMemory_35 : decode (bc mX6_ofMemory) 35 = .ok (.getfield 7, 3) := by decide +kernel
theorem d_X6_ofMemory_38 : decode (bc mX6_ofMemory) 38 = .ok (.iload_n 1, 1) := by decide +kernel
theorem d_X6_ofMemory_39 : decode (bc mX6_ofMemory) 39 = .ok (.invokestatic 147, 3) := by decide +kernel
theorem d_X6_ofMemory_42 : decode (bc mX6_ofMemory) 42 = .ok (.iconst 1, 1) := by decide +kernel
theorem d_X6_ofMemory_43 : decode (bc mX6_ofMemory) 43 = .ok (.iadd, 1) := by decide +kernel
theorem d_X6_ofMemory_44 : decode (bc mX6_ofMemory) 44 = .ok (.iload_n 2, 1) := by decide +kernel
theorem d_X6_ofMemory_45 : decode (bc mX6_ofMemory) 45 = .ok (.iadd, 1) := by decide +kernel
theorem d_X6_ofMemory_46 : decode (bc mX6_ofMemory) 46 = .ok (.iaload, 1) := by decide +kernel
theorem d_X6_ofMemory_47 : decode (bc mX6_ofMemory) 47 = .ok (.goto 5, 3) := by decide +kernel
theorem d_X6_ofMemory_50 : decode (bc mX6_ofMemory) 50 = .ok (.bipush (-2), 2) := by decide +kernel
theorem d_X6_ofMemory_52 : decode (bc mX6_ofMemory) 52 = .ok (.ireturn, 1) := by decide +kernel
theorem d_X6_look_0 : decode (bc mX6_look) 0 = .ok (.iload_n 1, 1) := by decide +kernel
theorem d_X6_look_1 : decode (bc mX6_look) 1 = .ok (.i2l, 1) := by decide +kernel
theorem d_X6_look_2 : decode (bc mX6_look) 2 = .ok (.lconst 0, 1) := by decide +kernel
theorem d_X6_look_3 : decode (bc mX6_look) 3 = .ok (.aload_n 0, 1) := by decide +kernel
theorem d_X6_look_4 : decode (bc mX6_look) 4 = .ok (.getfield 7, 3) := by decide +kernel
theorem d_X6_look_7 : decode (bc mX6_look) 7 = .ok (.sipush 814, 3) := by decide +kernel
theorem d_X6_look_10 : decode (bc mX6_look) 10 = .ok (.iaload, 1) := by decide +kernel
theorem d_X6_look_11 : decode (bc mX6_look) 11 = .ok (.iconst 1, 1) := by decide +kernel
theorem d_X6_look_12 : decode (bc mX6_look) 12 = .ok (.isub, 1) := by decide +kernel
theorem d_X6_look_13 : decode (bc mX6_look) 13 = .ok (.i2l, 1) := by decide +kernel
theorem d_X6_look_14 : decode (bc mX6_look) 14 = .ok (.invokestatic 91, 3) := by decide +kernel
theorem d_X6_look_17 : decode (bc mX6_look) 17 = .ok (.ifCond .eq 26, 3) := by decide +kernel
theorem d_X6_look_20 : decode (bc mX6_look) 20 = .ok (.iload_n 2, 1) := by decide +kernel
theorem d_X6_look_21 : decode (bc mX6_look) 21 = .ok (.i2l, 1) := by decide +kernel
theorem d_X6_look_22 : decode (bc mX6_look) 22 = .ok (.lconst 0, 1) := by decide +kernel
theorem d_X6_look_23 : decode (bc mX6_look) 23 = .ok (.aload_n 0, 1) := by decide +kernel
theorem d_X6_look_24 : decode (bc mX6_look) 24 = .ok (.getfield 7, 3) := by decide +kernel
theorem d_X6_look_27 : decode (bc mX6_look) 27 = .ok (.iload_n 1, 1) := by decide +kernel
theorem d_X6_look_28 : decode (bc mX6_look) 28 = .ok (.invokestatic 147, 3) := by decide +kernel
theorem d_X6_look_31 : decode (bc mX6_look) 31 = .ok (.iconst 3, 1) := by decide +kernel
theorem d_X6_look_32 : decode (bc mX6_look) 32 = .ok (.iadd, 1) := by decide +kernel
theorem d_X6_look_33 : decode (bc mX6_look) 33 = .ok (.iaload, 1) := by decide +kernel
theorem d_X6_look_34 : decode (bc mX6_look) 34 = .ok (.iconst 1, 1) := by decide +kernel
theorem d_X6_look_35 : decode (bc mX6_look) 35 = .ok (.isub, 1) := by decide +kernel
theorem d_X6_look_36 : decode (bc mX6_look) 36 = .ok (.i2l, 1) := by decide +kernel
theorem d_X6_look_37 : decode (bc mX6_look) 37 = .ok (.invokestatic 91, 3) := by decide +kernel
theorem d_X6_look_40 : decode (bc mX6_look) 40 = .ok (.ifCond .ne 5, 3) := by decide +kernel
theorem d_X6_look_43 : decode (bc mX6_look) 43 = .ok (.iconst (-1), 1) := by decide +kernel
theorem d_X6_look_44 : decode (bc mX6_look) 44 = .ok (.ireturn, 1) := by decide +kernel
theorem d_X6_look_45 : decode (bc mX6_look) 45 = .ok (.iload_n 3, 1) := by decide +kernel
theorem d_X6_look_46 : decode (bc mX6_look) 46 = .ok (.i2l, 1) := by decide +kernel
theorem d_X6_look_47 : decode (bc mX6_look) 47 = .ok (.lconst 0, 1) := by decide +kernel
theorem d_X6_look_48 : decode (bc mX6_look) 48 = .ok (.lconst 1, 1) := by decide +kernel
theorem d_X6_look_49 : decode (bc mX6_look) 49 = .ok (.invokestatic 91, 3) := by decide +kernel
theorem d_X6_look_52 : decode (bc mX6_look) 52 = .ok (.ifCond .ne 8, 3) := by decide +kernel
theorem d_X6_look_55 : decode (bc mX6_look) 55 = .ok (.bipush (-2), 2) := by decide +kernel
theorem d_X6_look_57 : decode (bc mX6_look) 57 = .ok (.goto 26, 3) := by decide +kernel
theorem d_X6_look_60 : decode (bc mX6_look) 60 = .ok (.aload_n 0, 1) := by decide +kernel
theorem d_X6_look_61 : decode (bc mX6_look) 61 = .ok (.getfield 7, 3) := by decide +kernel
theorem d_X6_look_64 : decode (bc mX6_look) 64 = .ok (.iload_n 1, 1) := by decide +kernel
theorem d_X6_look_65 : decode (bc mX6_look) 65 = .ok (.invokestatic 147, 3) := by decide +kernel
theorem d_X6_look_68 : decode (bc mX6_look) 68 = .ok (.iload_n 3, 1) := by decide +kernel
theorem d_X6_look_69 : decode (bc mX6_look) 69 = .ok (.ifCond .ne 8, 3) := by decide +kernel
theorem d_X6_look_72 : decode (bc mX6_look) 72 = .ok (.bipush 6, 2) := by decide +kernel
theorem d_X6_look_74 : decode (bc mX6_look) 74 = .ok (.goto 5, 3) := by decide +kernel
theorem d_X6_look_77 : decode (bc mX6_look) 77 = .ok (.bipush 23, 2) := by decide +kernel
theorem d_X6_look_79 : decode (bc mX6_look) 79 = .ok (.iadd, 1) := by decide +kernel
theorem d_X6_look_80 : decode (bc mX6_look) 80 = .ok (.iload_n 2, 1) := by decide +kernel
theorem d_X6_look_81 : decode (bc mX6_look) 81 = .ok (.iadd, 1) := by decide +kernel
theorem d_X6_look_82 : decode (bc mX6_look) 82 = .ok (.iaload, 1) := by decide +kernel
theorem d_X6_look_83 : decode (bc mX6_look) 83 = .ok (.ireturn, 1) := by decide +kernel
theorem d_X6_count_0 : decode (bc mX6_count) 0 = .ok (.iload_n 1, 1) := by decide +kernel
theorem d_X6_count_1 : decode (bc mX6_count) 1 = .ok (.tableswitch 138 0 7 #[47, 56, 65, 74, 79, 84, 91, 98], 47) := by decide +kernel
theorem d_X6_count_48 : decode (bc mX6_count) 48 = .ok (.aload_n 0, 1) := by decide +kernel
theorem d_X6_count_49 : decode (bc mX6_count) 49 = .ok (.getfield 7, 3) := by decide +kernel
theorem d_X6_count_52 : decode (bc mX6_count) 52 = .ok (.sipush 814, 3) := by decide +kernel
theorem d_X6_count_55 : decode (bc mX6_count) 55 = .ok (.iaload, 1) := by decide +kernel
theorem d_X6_count_56 : decode (bc mX6_count) 56 = .ok (.ireturn, 1) := by decide +kernel
theorem d_X6_count_57 : decode (bc mX6_count) 57 = .ok (.aload_n 0, 1) := by decide +kernel
theorem d_X6_count_58 : decode (bc mX6_count) 58 = .ok (.getfield 7, 3) := by decide +kernel
theorem d_X6_count_61 : decode (bc mX6_count) 61 = .ok (.sipush 812, 3) := by decide +kernel
theorem d_X6_count_64 : decode (bc mX6_count) 64 = .ok (.iaload, 1) := by decide +kernel
theorem d_X6_count_65 : decode (bc mX6_count) 65 = .ok (.ireturn, 1) := by decide +kernel
theorem d_X6_count_66 : decode (bc mX6_count) 66 = .ok (.aload_n 0, 1) := by decide +kernel
theorem d_X6_count_67 : decode (bc mX6_count) 67 = .ok (.getfield 7, 3) := by decide +kernel
theorem d_X6_count_70 : decode (bc mX6_count) 70 = .ok (.sipush 813, 3) := by decide +kernel
theorem d_X6_count_73 : decode (bc mX6_count) 73 = .ok (.iaload, 1) := by decide +kernel
theorem d_X6_count_74 : decode (bc mX6_count) 74 = .ok (.ireturn, 1) := by decide +kernel
theorem d_X6_count_75 : decode (bc mX6_count) 75 = .ok (.aload_n 0, 1) := by decide +kernel
theorem d_X6_count_76 : decode (bc mX6_count) 76 = .ok (.getfield 101, 3) := by decide +kernel
theorem d_X6_count_79 : decode (bc mX6_count) 79 = .ok (.ireturn, 1) := by decide +kernel
theorem d_X6_count_80 : decode (bc mX6_count) 80 = .ok (.aload_n 0, 1) := by decide +kernel
theorem d_X6_count_81 : decode (bc mX6_count) 81 = .ok (.getfield 216, 3) := by decide +kernel
theorem d_X6_count_84 : decode (bc mX6_count) 84 = .ok (.ireturn, 1) := by decide +kernel
theorem d_X6_count_85 : decode (bc mX6_count) 85 = .ok (.aload_n 0, 1) := by decide +kernel
theorem d_X6_count_86 : decode (bc mX6_count) 86 = .ok (.getfield 7, 3) := by decide +kernel
theorem d_X6_count_89 : decode (bc mX6_count) 89 = .ok (.iconst 0, 1) := by decide +kernel
theorem d_X6_count_90 : decode (bc mX6_count) 90 = .ok (.iaload, 1) := by decide +kernel
theorem d_X6_count_91 : decode (bc mX6_count) 91 = .ok (.ireturn, 1) := by decide +kernel
theorem d_X6_count_92 : decode (bc mX6_count) 92 = .ok (.aload_n 0, 1) := by decide +kernel
theorem d_X6_count_93 : decode (bc mX6_count) 93 = .ok (.getfield 7, 3) := by decide +kernel
theorem d_X6_count_96 : decode (bc mX6_count) 96 = .ok (.iconst 1, 1) := by decide +kernel
theorem d_X6_count_97 : decode (bc mX6_count) 97 = .ok (.iaload, 1) := by decide +kernel
theorem d_X6_count_98 : decode (bc mX6_count) 98 = .ok (.ireturn, 1) := by decide +kernel
theorem d_X6_count_99 : decode (bc mX6_count) 99 = .ok (.iconst 0, 1) := by decide +kernel
theorem d_X6_count_100 : decode (bc mX6_count) 100 = .ok (.istore_n 2, 1) := by decide +kernel
theorem d_X6_count_101 : decode (bc mX6_count) 101 = .ok (.iconst 0, 1) := by decide +kernel
theorem d_X6_count_102 : decode (bc mX6_count) 102 = .ok (.istore_n 3, 1) := by decide +kernel
theorem d_X6_count_103 : decode (bc mX6_count) 103 = .ok (.iload_n 3, 1) := by decide +kernel
theorem d_X6_count_104 : decode (bc mX6_count) 104 = .ok (.bipush 6, 2) := by decide +kernel
theorem d_X6_count_106 : decode (bc mX6_count) 106 = .ok (.if_icmp .ge 31, 3) := by decide +kernel
theorem d_X6_count_109 : decode (bc mX6_count) 109 = .ok (.iload_n 2, 1) := by decide +kernel
theorem d_X6_count_110 : decode (bc mX6_count) 110 = .ok (.aload_n 0, 1) := by decide +kernel
theorem d_X6_count_111 : decode (bc mX6_count) 111 = .ok (.getfield 7, 3) := by decide +kernel
theorem d_X6_count_114 : decode (bc mX6_count) 114 = .ok (.bipush 26, 2) := by decide +kernel
theorem d_X6_count_116 : decode (bc mX6_count) 116 = .ok (.iload_n 3, 1) := by decide +kernel
theorem d_X6_count_117 : decode (bc mX6_count) 117 = .ok (.iadd, 1) := by decide +kernel
theorem d_X6_count_118 : decode (bc mX6_count) 118 = .ok (.iaload, 1) := by decide +kernel
theorem d_X6_count_119 : decode (bc mX6_count) 119 = .ok (.ifCond .le 9, 3) := by decide +kernel
theorem d_X6_count_122 : decode (bc mX6_count) 122 = .ok (.iconst 1, 1) := by decide +kernel
theorem d_X6_count_123 : decode (bc mX6_count) 123 = .ok (.iload_n 3, 1) := by decide +kernel
theorem d_X6_count_124 : decode (bc mX6_count) 124 = .ok (.ishl, 1) := by decide +kernel
theorem d_X6_count_125 : decode (bc mX6_count) 125 = .ok (.goto 4, 3) := by decide +kernel
theorem d_X6_count_128 : decode (bc mX6_count) 128 = .ok (.iconst 0, 1) := by decide +kernel
theorem d_X6_count_129 : decode (bc mX6_count) 129 = .ok (.ior, 1) := by decide +kernel
theorem d_X6_count_130 : decode (bc mX6_count) 130 = .ok (.istore_n 2, 1) := by decide +kernel
theorem d_X6_count_131 : decode (bc mX6_count) 131 = .ok (.iinc 3 1, 3) := by decide +kernel
theorem d_X6_count_134 : decode (bc mX6_count) 134 = .ok (.goto (-31), 3) := by decide +kernel
theorem d_X6_count_137 : decode (bc mX6_count) 137 = .ok (.iload_n 2, 1) := by decide +kernel
theorem d_X6_count_138 : decode (bc mX6_count) 138 = .ok (.ireturn, 1) := by decide +kernel
theorem d_X6_count_139 : decode (bc mX6_count) 139 = .ok (.bipush (-2), 2) := by decide +kernel
theorem d_X6_count_141 : decode (bc mX6_count) 141 = .ok (.ireturn, 1) := by decide +kernel
theorem d_X6_reckonLoaf_0 : decode (bc mX6_reckonLoaf) 0 = .ok (.aload_n 0, 1) := by decide +kernel
theorem d_X6_reckonLoaf_1 : decode (bc mX6_reckonLoaf) 1 = .ok (.getfield 83, 3) := by decide +kernel
theorem d_X6_reckonLoaf_4 : decode (bc mX6_reckonLoaf) 4 = .ok (.iload_n 2, 1) := by decide +kernel
theorem d_X6_reckonLoaf_5 : decode (bc mX6_reckonLoaf) 5 = .ok (.bipush 100, 2) := by decide +kernel
theorem d_X6_reckonLoaf_7 : decode (bc mX6_reckonLoaf) 7 = .ok (.iastore, 1) := by decide +kernel
theorem d_X6_reckonLoaf_8 : decode (bc mX6_reckonLoaf) 8 = .ok (.aload_n 0, 1) := by decide +kernel
theorem d_X6_reckonLoaf_9 : decode (bc mX6_reckonLoaf) 9 = .ok (.getfield 86, 3) := by decide +kernel
theorem d_X6_reckonLoaf_12 : decode (bc mX6_reckonLoaf) 12 = .ok (.iload_n 2, 1) := by decide +kernel
theorem d_X6_reckonLoaf_13 : decode (bc mX6_reckonLoaf) 13 = .ok (.iconst 0, 1) := by decide +kernel
theorem d_X6_reckonLoaf_14 : decode (bc mX6_reckonLoaf) 14 = .ok (.iastore, 1) := by decide +kernel
theorem d_X6_reckonLoaf_15 : decode (bc mX6_reckonLoaf) 15 = .ok (.aload_n 0, 1) := by decide +kernel
theorem d_X6_reckonLoaf_16 : decode (bc mX6_reckonLoaf) 16 = .ok (.getfield 68, 3) := by decide +kernel
theorem d_X6_reckonLoaf_19 : decode (bc mX6_reckonLoaf) 19 = .ok (.iload_n 2, 1) := by decide +kernel
theorem d_X6_reckonLoaf_20 : decode (bc mX6_reckonLoaf) 20 = .ok (.iconst 0, 1) := by decide +kernel
theorem d_X6_reckonLoaf_21 : decode (bc mX6_reckonLoaf) 21 = .ok (.iastore, 1) := by decide +kernel
theorem d_X6_reckonLoaf_22 : decode (bc mX6_reckonLoaf) 22 = .ok (.iconst 0, 1) := by decide +kernel
theorem d_X6_reckonLoaf_23 : decode (bc mX6_reckonLoaf) 23 = .ok (.istore_n 3, 1) := by decide +kernel
theorem d_X6_reckonLoaf_24 : decode (bc mX6_reckonLoaf) 24 = .ok (.iload_n 3, 1) := by decide +kernel
theorem d_X6_reckonLoaf_25 : decode (bc mX6_reckonLoaf) 25 = .ok (.aload_n 1, 1) := by decide +kernel
theorem d_X6_reckonLoaf_26 : decode (bc mX6_reckonLoaf) 26 = .ok (.bipush 26, 2) := by decide +kernel
theorem d_X6_reckonLoaf_28 : decode (bc mX6_reckonLoaf) 28 = .ok (.iload_n 2, 1) := by decide +kernel
theorem d_X6_reckonLoaf_29 : decode (bc mX6_reckonLoaf) 29 = .ok (.iadd, 1) := by decide +kernel
theorem d_X6_reckonLoaf_30 : decode (bc mX6_reckonLoaf) 30 = .ok (.iaload, 1) := by decide +kernel
theorem d_X6_reckonLoaf_31 : decode (bc mX6_reckonLoaf) 31 = .ok (.if_icmp .ge 191, 3) := by decide +kernel
theorem d_X6_reckonLoaf_34 : decode (bc mX6_reckonLoaf) 34 = .ok (.aload_n 1, 1) := by decide +kernel
theorem d_X6_reckonLoaf_35 : decode (bc mX6_reckonLoaf) 35 = .ok (.bipush 32, 2) := by decide +kernel
theorem d_X6_reckonLoaf_37 : decode (bc mX6_reckonLoaf) 37 = .ok (.bipush 64, 2) := by decide +kernel
theorem d_X6_reckonLoaf_39 : decode (bc mX6_reckonLoaf) 39 = .ok (.iload_n 2, 1) := by decide +kernel
theorem d_X6_reckonLoaf_40 : decode (bc mX6_reckonLoaf) 40 = .ok (.imul, 1) := by decide +kernel
theorem d_X6_reckonLoaf_41 : decode (bc mX6_reckonLoaf) 41 = .ok (.iadd, 1) := by decide +kernel
theorem d_X6_reckonLoaf_42 : decode (bc mX6_reckonLoaf) 42 = .ok (.iload_n 3, 1) := by decide +kernel
theorem d_X6_reckonLoaf_43 : decode (bc mX6_reckonLoaf) 43 = .ok (.iadd, 1) := by decide +kernel
theorem d_X6_reckonLoaf_44 : decode (bc mX6_reckonLoaf) 44 = .ok (.iaload, 1) := by decide +kernel
theorem d_X6_reckonLoaf_45 : decode (bc mX6_reckonLoaf) 45 = .ok (.istore 4, 2) := by decide +kernel
theorem d_X6_reckonLoaf_47 : decode (bc mX6_reckonLoaf) 47 = .ok (.aload_n 1, 1) := by decide +kernel
theorem d_X6_reckonLoaf_48 : decode (bc mX6_reckonLoaf) 48 = .ok (.sipush 416, 3) := by decide +kernel
theorem d_X6_reckonLoaf_51 : decode (bc mX6_reckonLoaf) 51 = .ok (.bipush 64, 2) := by decide +kernel
theorem d_X6_reckonLoaf_53 : decode (bc mX6_reckonLoaf) 53 = .ok (.iload_n 2, 1) := by decide +kernel
theorem d_X6_reckonLoaf_54 : decode (bc mX6_reckonLoaf) 54 = .ok (.imul, 1) := by decide +kernel
theorem d_X6_reckonLoaf_55 : decode (bc mX6_reckonLoaf) 55 = .ok (.iadd, 1) := by decide +kernel
theorem d_X6_reckonLoaf_56 : decode (bc mX6_reckonLoaf) 56 = .ok (.iload_n 3, 1) := by decide +kernel
theorem d_X6_reckonLoaf_57 : decode (bc mX6_reckonLoaf) 57 = .ok (.iadd, 1) := by decide +kernel
theorem d_X6_reckonLoaf_58 : decode (bc mX6_reckonLoaf) 58 = .ok (.iaload, 1) := by decide +kernel
theorem d_X6_reckonLoaf_59 : decode (bc mX6_reckonLoaf) 59 = .ok (.istore 5, 2) := by decide +kernel
theorem d_X6_reckonLoaf_61 : decode (bc mX6_reckonLoaf) 61 = .ok (.iinc 3 1, 3) := by decide +kernel
theorem d_X6_reckonLoaf_64 : decode (bc mX6_reckonLoaf) 64 = .ok (.iload 4, 2) := by decide +kernel
theorem d_X6_reckonLoaf_66 : decode (bc mX6_reckonLoaf) 66 = .ok (.bipush 7, 2) := by decide +kernel
theorem d_X6_reckonLoaf_68 : decode (bc mX6_reckonLoaf) 68 = .ok (.if_icmp .eq 18, 3) := by decide +kernel
theorem d_X6_reckonLoaf_71 : decode (bc mX6_reckonLoaf) 71 = .ok (.iload 4, 2) := by decide +kernel
theorem d_X6_reckonLoaf_73 : decode (bc mX6_reckonLoaf) 73 = .ok (.bipush 6, 2) := by decide +kernel
theorem d_X6_reckonLoaf_75 : decode (bc mX6_reckonLoaf) 75 = .ok (.if_icmp .ne 17, 3) := by decide +kernel
theorem d_X6_reckonLoaf_78 : decode (bc mX6_reckonLoaf) 78 = .ok (.aload_n 0, 1) := by decide +kernel
theorem d_X6_reckonLoaf_79 : decode (bc mX6_reckonLoaf) 79 = .ok (.iload_n 2, 1) := by decide +kernel
theorem d_X6_reckonLoaf_80 : decode (bc mX6_reckonLoaf) 80 = .ok (.invokevirtual 189, 3) := by decide +kernel
theorem d_X6_reckonLoaf_83 : decode (bc mX6_reckonLoaf) 83 = .ok (.ifCond .ne 9, 3) := by decide +kernel
theorem d_X6_reckonLoaf_86 : decode (bc mX6_reckonLoaf) 86 = .ok (.iload 5, 2) := by decide +kernel
theorem d_X6_reckonLoaf_88 : decode (bc mX6_reckonLoaf) 88 = .ok (.istore_n 3, 1) := by decide +kernel
theorem d_X6_reckonLoaf_89 : decode (bc mX6_reckonLoaf) 89 = .ok (.goto 130, 3) := by decide +kernel
theorem d_X6_reckonLoaf_92 : decode (bc mX6_reckonLoaf) 92 = .ok (.iload 4, 2) := by decide +kernel
theorem d_X6_reckonLoaf_94 : decode (bc mX6_reckonLoaf) 94 = .ok (.iconst 2, 1) := by decide +kernel
theorem d_X6_reckonLoaf_95 : decode (bc mX6_reckonLoaf) 95 = .ok (.if_icmp .ne 13, 3) := by decide +kernel
theorem d_X6_reckonLoaf_98 : decode (bc mX6_reckonLoaf) 98 = .ok (.aload_n 0, 1) := by decide +kernel
theorem d_X6_reckonLoaf_99 : decode (bc mX6_reckonLoaf) 99 = .ok (.iload_n 2, 1) := by decide +kernel
theorem d_X6_reckonLoaf_100 : decode (bc mX6_reckonLoaf) 100 = .ok (.iload 5, 2) := by decide +kernel
theorem d_X6_reckonLoaf_102 : decode (bc mX6_reckonLoaf) 102 = .ok (.invokevirtual 186, 3) := by decide +kernel
theorem d_X6_reckonLoaf_105 : decode (bc mX6_reckonLoaf) 105 = .ok (.goto 114, 3) := by decide +kernel
theorem d_X6_reckonLoaf_108 : decode (bc mX6_reckonLoaf) 108 = .ok (.iload 4, 2) := by decide +kernel
theorem d_X6_reckonLoaf_110 : decode (bc mX6_reckonLoaf) 110 = .ok (.ifCond .eq 9, 3) := by decide +kernel
theorem d_X6_reckonLoaf_113 : decode (bc mX6_reckonLoaf) 113 = .ok (.iload 4, 2) := by decide +kernel
theorem d_X6_reckonLoaf_115 : decode (bc mX6_reckonLoaf) 115 = .ok (.iconst 1, 1) := by decide +kernel
theorem d_X6_reckonLoaf_116 : decode (bc mX6_reckonLoaf) 116 = .ok (.if_icmp .ne 72, 3) := by decide +kernel
theorem d_X6_reckonLoaf_119 : decode (bc mX6_reckonLoaf) 119 = .ok (.aload_n 0, 1) := by decide +kernel
theorem d_X6_reckonLoaf_120 : decode (bc mX6_reckonLoaf) 120 = .ok (.getfield 86, 3) := by decide +kernel
theorem d_X6_reckonLoaf_123 : decode (bc mX6_reckonLoaf) 123 = .ok (.iload_n 2, 1) := by decide +kernel
theorem d_X6_reckonLoaf_124 : decode (bc mX6_reckonLoaf) 124 = .ok (.dup2, 1) := by decide +kernel
theorem d_X6_reckonLoaf_125 : decode (bc mX6_reckonLoaf) 125 = .ok (.iaload, 1) := by decide +kernel
theorem d_X6_reckonLoaf_126 : decode (bc mX6_reckonLoaf) 126 = .ok (.iload 4, 2) := by decide +kernel
theorem d_X6_reckonLoaf_128 : decode (bc mX6_reckonLoaf) 128 = .ok (.ifCond .ne 10, 3) := by decide +kernel
theorem d_X6_reckonLoaf_131 : decode (bc mX6_reckonLoaf) 131 = .ok (.iconst 1, 1) := by decide +kernel
theorem d_X6_reckonLoaf_132 : decode (bc mX6_reckonLoaf) 132 = .ok (.iload 5, 2) := by decide +kernel
theorem d_X6_reckonLoaf_134 : decode (bc mX6_reckonLoaf) 134 = .ok (.ishl, 1) := by decide +kernel
theorem d_X6_reckonLoaf_135 : decode (bc mX6_reckonLoaf) 135 = .ok (.goto 10, 3) := by decide +kernel
theorem d_X6_reckonLoaf_138 : decode (bc mX6_reckonLoaf) 138 = .ok (.aload_n 0, 1) := by decide +kernel
theorem d_X6_reckonLoaf_139 : decode (bc mX6_reckonLoaf) 139 = .ok (.getfield 86, 3) := by decide +kernel
theorem d_X6_reckonLoaf_142 : decode (bc mX6_reckonLoaf) 142 = .ok (.iload 5, 2) := by decide +kernel
theorem d_X6_reckonLoaf_144 : decode (bc mX6_reckonLoaf) 144 = .ok (.iaload, 1) := by decide +kernel
theorem d_X6_reckonLoaf_145 : decode (bc mX6_reckonLoaf) 145 = .ok (.ior, 1) := by decide +kernel
theorem d_X6_reckonLoaf_146 : decode (bc mX6_reckonLoaf) 146 = .ok (.iastore, 1) := by decide +kernel
theorem d_X6_reckonLoaf_147 : decode (bc mX6_reckonLoaf) 147 = .ok (.iload 4, 2) := by decide +kernel
theorem d_X6_reckonLoaf_149 : decode (bc mX6_reckonLoaf) 149 = .ok (.ifCond .ne 12, 3) := by decide +kernel
theorem d_X6_reckonLoaf_152 : decode (bc mX6_reckonLoaf) 152 = .ok (.aload_n 1, 1) := by decide +kernel
theorem d_X6_reckonLoaf_153 : decode (bc mX6_reckonLoaf) 153 = .ok (.iload 5, 2) := by decide +kernel
theorem d_X6_reckonLoaf_155 : decode (bc mX6_reckonLoaf) 155 = .ok (.invokestatic 172, 3) := by decide +kernel
theorem d_X6_reckonLoaf_158 : decode (bc mX6_reckonLoaf) 158 = .ok (.goto 10, 3) := by decide +kernel
theorem d_X6_reckonLoaf_161 : decode (bc mX6_reckonLoaf) 161 = .ok (.aload_n 0, 1) := by decide +kernel
theorem d_X6_reckonLoaf_162 : decode (bc mX6_reckonLoaf) 162 = .ok (.getfield 83, 3) := by decide +kernel
theorem d_X6_reckonLoaf_165 : decode (bc mX6_reckonLoaf) 165 = .ok (.iload 5, 2) := by decide +kernel
theorem d_X6_reckonLoaf_167 : decode (bc mX6_reckonLoaf) 167 = .ok (.iaload, 1) := by decide +kernel
theorem d_X6_reckonLoaf_168 : decode (bc mX6_reckonLoaf) 168 = .ok (.istore 6, 2) := by decide +kernel
theorem d_X6_reckonLoaf_170 : decode (bc mX6_reckonLoaf) 170 = .ok (.iload 6, 2) := by decide +kernel
theorem d_X6_reckonLoaf_172 : decode (bc mX6_reckonLoaf) 172 = .ok (.bipush 100, 2) := by decide +kernel
theorem d_X6_reckonLoaf_174 : decode (bc mX6_reckonLoaf) 174 = .ok (.if_icmp .ne 4, 3) := by decide +kernel
theorem d_X6_reckonLoaf_177 : decode (bc mX6_reckonLoaf) 177 = .ok (.return_, 1) := by decide +kernel
theorem d_X6_reckonLoaf_178 : decode (bc mX6_reckonLoaf) 178 = .ok (.aload_n 0, 1) := by decide +kernel
theorem d_X6_reckonLoaf_179 : decode (bc mX6_reckonLoaf) 179 = .ok (.iload_n 2, 1) := by decide +kernel
theorem d_X6_reckonLoaf_180 : decode (bc mX6_reckonLoaf) 180 = .ok (.iload 6, 2) := by decide +kernel
theorem d_X6_reckonLoaf_182 : decode (bc mX6_reckonLoaf) 182 = .ok (.invokevirtual 186, 3) := by decide +kernel
theorem d_X6_reckonLoaf_185 : decode (bc mX6_reckonLoaf) 185 = .ok (.goto 34, 3) := by decide +kernel
theorem d_X6_reckonLoaf_188 : decode (bc mX6_reckonLoaf) 188 = .ok (.iload 4, 2) := by decide +kernel
theorem d_X6_reckonLoaf_190 : decode (bc mX6_reckonLoaf) 190 = .ok (.bipush 6, 2) := by decide +kernel
theorem d_X6_reckonLoaf_192 : decode (bc mX6_reckonLoaf) 192 = .ok (.if_icmp .eq 27, 3) := by decide +kernel
theorem d_X6_reckonLoaf_195 : decode (bc mX6_reckonLoaf) 195 = .ok (.aload_n 0, 1) := by decide +kernel
theorem d_X6_reckonLoaf_196 : decode (bc mX6_reckonLoaf) 196 = .ok (.iload_n 2, 1) := by decide +kernel
theorem d_X6_reckonLoaf_197 : decode (bc mX6_reckonLoaf) 197 = .ok (.invokevirtual 189, 3) := by decide +kernel
theorem d_X6_reckonLoaf_200 : decode (bc mX6_reckonLoaf) 200 = .ok (.istore 6, 2) := by decide +kernel
theorem d_X6_reckonLoaf_202 : decode (bc mX6_reckonLoaf) 202 = .ok (.aload_n 0, 1) := by decide +kernel
theorem d_X6_reckonLoaf_203 : decode (bc mX6_reckonLoaf) 203 = .ok (.iload_n 2, 1) := by decide +kernel
theorem d_X6_reckonLoaf_204 : decode (bc mX6_reckonLoaf) 204 = .ok (.iload 4, 2) := by decide +kernel
theorem d_X6_reckonLoaf_206 : decode (bc mX6_reckonLoaf) 206 = .ok (.aload_n 0, 1) := by decide +kernel
theorem d_X6_reckonLoaf_207 : decode (bc mX6_reckonLoaf) 207 = .ok (.iload_n 2, 1) := by decide +kernel
theorem d_X6_reckonLoaf_208 : decode (bc mX6_reckonLoaf) 208 = .ok (.invokevirtual 189, 3) := by decide +kernel
theorem d_X6_reckonLoaf_211 : decode (bc mX6_reckonLoaf) 211 = .ok (.iload 6, 2) := by decide +kernel
theorem d_X6_reckonLoaf_213 : decode (bc mX6_reckonLoaf) 213 = .ok (.invokestatic 200, 3) := by decide +kernel
theorem d_X6_reckonLoaf_216 : decode (bc mX6_reckonLoaf) 216 = .ok (.invokevirtual 186, 3) := by decide +kernel
theorem d_X6_reckonLoaf_219 : decode (bc mX6_reckonLoaf) 219 = .ok (.goto (-195), 3) := by decide +kernel
theorem d_X6_reckonLoaf_222 : decode (bc mX6_reckonLoaf) 222 = .ok (.aload_n 0, 1) := by decide +kernel
theorem d_X6_reckonLoaf_223 : decode (bc mX6_reckonLoaf) 223 = .ok (.getfield 83, 3) := by decide +kernel
theorem d_X6_reckonLoaf_226 : decode (bc mX6_reckonLoaf) 226 = .ok (.iload_n 2, 1) := by decide +kernel
theorem d_X6_reckonLoaf_227 : decode (bc mX6_reckonLoaf) 227 = .ok (.aload_n 1, 1) := by decide +kernel
theorem d_X6_reckonLoaf_228 : decode (bc mX6_reckonLoaf) 228 = .ok (.bipush 26, 2) := by decide +kernel
theorem d_X6_reckonLoaf_230 : decode (bc mX6_reckonLoaf) 230 = .ok (.iload_n 2, 1) := by decide +kernel
theorem d_X6_reckonLoaf_231 : decode (bc mX6_reckonLoaf) 231 = .ok (.iadd, 1) := by decide +kernel
theorem d_X6_reckonLoaf_232 : decode (bc mX6_reckonLoaf) 232 = .ok (.iaload, 1) := by decide +kernel
theorem d_X6_reckonLoaf_233 : decode (bc mX6_reckonLoaf) 233 = .ok (.ifCond .ne 8, 3) := by decide +kernel
theorem d_X6_reckonLoaf_236 : decode (bc mX6_reckonLoaf) 236 = .ok (.bipush 100, 2) := by decide +kernel
theorem d_X6_reckonLoaf_238 : decode (bc mX6_reckonLoaf) 238 = .ok (.goto 8, 3) := by decide +kernel
theorem d_X6_reckonLoaf_241 : decode (bc mX6_reckonLoaf) 241 = .ok (.aload_n 0, 1) := by decide +kernel
theorem d_X6_reckonLoaf_242 : decode (bc mX6_reckonLoaf) 242 = .ok (.iload_n 2, 1) := by decide +kernel
theorem d_X6_reckonLoaf_243 : decode (bc mX6_reckonLoaf) 243 = .ok (.invokevirtual 189, 3) := by decide +kernel
theorem d_X6_reckonLoaf_246 : decode (bc mX6_reckonLoaf) 246 = .ok (.iastore, 1) := by decide +kernel
theorem d_X6_reckonLoaf_247 : decode (bc mX6_reckonLoaf) 247 = .ok (.return_, 1) := by decide +kernel
theorem d_X6_reckonAll_0 : decode (bc mX6_reckonAll) 0 = .ok (.iconst 0, 1) := by decide +kernel
theorem d_X6_reckonAll_1 : decode (bc mX6_reckonAll) 1 = .ok (.istore_n 2, 1) := by decide +kernel
theorem d_X6_reckonAll_2 : decode (bc mX6_reckonAll) 2 = .ok (.iload_n 2, 1) := by decide +kernel
theorem d_X6_reckonAll_3 : decode (bc mX6_reckonAll) 3 = .ok (.bipush 6, 2) := by decide +kernel
theorem d_X6_reckonAll_5 : decode (bc mX6_reckonAll) 5 = .ok (.if_icmp .ge 15, 3) := by decide +kernel
theorem d_X6_reckonAll_8 : decode (bc mX6_reckonAll) 8 = .ok (.aload_n 0, 1) := by decide +kernel
theorem d_X6_reckonAll_9 : decode (bc mX6_reckonAll) 9 = .ok (.aload_n 1, 1) := by decide +kernel
theorem d_X6_reckonAll_10 : decode (bc mX6_reckonAll) 10 = .ok (.iload_n 2, 1) := by decide +kernel
theorem d_X6_reckonAll_11 : decode (bc mX6_reckonAll) 11 = .ok (.invokevirtual 251, 3) := by decide +kernel
theorem d_X6_reckonAll_14 : decode (bc mX6_reckonAll) 14 = .ok (.iinc 2 1, 3) := by decide +kernel
theorem d_X6_reckonAll_17 : decode (bc mX6_reckonAll) 17 = .ok (.goto (-15), 3) := by decide +kernel
theorem d_X6_reckonAll_20 : decode (bc mX6_reckonAll) 20 = .ok (.return_, 1) := by decide +kernel
theorem d_X6_fresh_0 : decode (bc mX6_fresh) 0 = .ok (.iload_n 1, 1) := by decide +kernel
theorem d_X6_fresh_1 : decode (bc mX6_fresh) 1 = .ok (.invokestatic 234, 3) := by decide +kernel
theorem d_X6_fresh_4 : decode (bc mX6_fresh) 4 = .ok (.ifCond .ne 5, 3) := by decide +kernel
theorem d_X6_fresh_7 : decode (bc mX6_fresh) 7 = .ok (.iconst (-1), 1) := by decide +kernel
theorem d_X6_fresh_8 : decode (bc mX6_fresh) 8 = .ok (.ireturn, 1) := by decide +kernel
theorem d_X6_fresh_9 : decode (bc mX6_fresh) 9 = .ok (.aload_n 0, 1) := by decide +kernel
theorem d_X6_fresh_10 : decode (bc mX6_fresh) 10 = .ok (.aload_n 0, 1) := by decide +kernel
theorem d_X6_fresh_11 : decode (bc mX6_fresh) 11 = .ok (.getfield 7, 3) := by decide +kernel
theorem d_X6_fresh_14 : decode (bc mX6_fresh) 14 = .ok (.invokevirtual 254, 3) := by decide +kernel
theorem d_X6_fresh_17 : decode (bc mX6_fresh) 17 = .ok (.aload_n 0, 1) := by decide +kernel
theorem d_X6_fresh_18 : decode (bc mX6_fresh) 18 = .ok (.getfield 83, 3) := by decide +kernel
theorem d_X6_fresh_21 : decode (bc mX6_fresh) 21 = .ok (.iload_n 1, 1) := by decide +kernel
theorem d_X6_fresh_22 : decode (bc mX6_fresh) 22 = .ok (.iaload, 1) := by decide +kernel
theorem d_X6_fresh_23 : decode (bc mX6_fresh) 23 = .ok (.ireturn, 1) := by decide +kernel
theorem d_X6_allAlike_0 : decode (bc mX6_allAlike) 0 = .ok (.iconst 1, 1) := by decide +kernel
theorem d_X6_allAlike_1 : decode (bc mX6_allAlike) 1 = .ok (.istore_n 2, 1) := by decide +kernel
theorem d_X6_allAlike_2 : decode (bc mX6_allAlike) 2 = .ok (.iconst 0, 1) := by decide +kernel
theorem d_X6_allAlike_3 : decode (bc mX6_allAlike) 3 = .ok (.istore_n 3, 1) := by decide +kernel
theorem d_X6_allAlike_4 : decode (bc mX6_allAlike) 4 = .ok (.iload_n 3, 1) := by decide +kernel
theorem d_X6_allAlike_5 : decode (bc mX6_allAlike) 5 = .ok (.aload_n 0, 1) := by decide +kernel
theorem d_X6_allAlike_6 : decode (bc mX6_allAlike) 6 = .ok (.getfield 7, 3) := by decide +kernel
theorem d_X6_allAlike_9 : decode (bc mX6_allAlike) 9 = .ok (.iload_n 1, 1) := by decide +kernel
theorem d_X6_allAlike_10 : decode (bc mX6_allAlike) 10 = .ok (.invokestatic 147, 3) := by decide +kernel
theorem d_X6_allAlike_13 : decode (bc mX6_allAlike) 13 = .ok (.iconst 3, 1) := by decide +kernel
theorem d_X6_allAlike_14 : decode (bc mX6_allAlike) 14 = .ok (.iadd, 1) := by decide +kernel
theorem d_X6_allAlike_15 : decode (bc mX6_allAlike) 15 = .ok (.iaload, 1) := by decide +kernel
theorem d_X6_allAlike_16 : decode (bc mX6_allAlike) 16 = .ok (.if_icmp .ge 85, 3) := by decide +kernel
theorem d_X6_allAlike_19 : decode (bc mX6_allAlike) 19 = .ok (.iload_n 2, 1) := by decide +kernel
theorem d_X6_allAlike_20 : decode (bc mX6_allAlike) 20 = .ok (.ifCond .eq 81, 3) := by decide +kernel
theorem d_X6_allAlike_23 : decode (bc mX6_allAlike) 23 = .ok (.aload_n 0, 1) := by decide +kernel
theorem d_X6_allAlike_24 : decode (bc mX6_allAlike) 24 = .ok (.getfield 7, 3) := by decide +kernel
theorem d_X6_allAlike_27 : decode (bc mX6_allAlike) 27 = .ok (.iload_n 1, 1) := by decide +kernel
theorem d_X6_allAlike_28 : decode (bc mX6_allAlike) 28 = .ok (.invokestatic 147, 3) := by decide +kernel
theorem d_X6_allAlike_31 : decode (bc mX6_allAlike) 31 = .ok (.bipush 6, 2) := by decide +kernel
theorem d_X6_allAlike_33 : decode (bc mX6_allAlike) 33 = .ok (.iadd, 1) := by decide +kernel
theorem d_X6_allAlike_34 : decode (bc mX6_allAlike) 34 = .ok (.iload_n 3, 1) := by decide +kernel
theorem d_X6_allAlike_35 : decode (bc mX6_allAlike) 35 = .ok (.iadd, 1) := by decide +kernel
theorem d_X6_allAlike_36 : decode (bc mX6_allAlike) 36 = .ok (.iaload, 1) := by decide +kernel
theorem d_X6_allAlike_37 : decode (bc mX6_allAlike) 37 = .ok (.istore 4, 2) := by decide +kernel
theorem d_X6_allAlike_39 : decode (bc mX6_allAlike) 39 = .ok (.iload 4, 2) := by decide +kernel
theorem d_X6_allAlike_41 : decode (bc mX6_allAlike) 41 = .ok (.bipush 20, 2) := by decide +kernel
theorem d_X6_allAlike_43 : decode (bc mX6_allAlike) 43 = .ok (.if_icmp .lt 16, 3) := by decide +kernel
theorem d_X6_allAlike_46 : decode (bc mX6_allAlike) 46 = .ok (.aload_n 0, 1) := by decide +kernel
theorem d_X6_allAlike_47 : decode (bc mX6_allAlike) 47 = .ok (.getfield 83, 3) := by decide +kernel
theorem d_X6_allAlike_50 : decode (bc mX6_allAlike) 50 = .ok (.iload 4, 2) := by decide +kernel
theorem d_X6_allAlike_52 : decode (bc mX6_allAlike) 52 = .ok (.bipush 20, 2) := by decide +kernel
theorem d_X6_allAlike_54 : decode (bc mX6_allAlike) 54 = .ok (.isub, 1) := by decide +kernel
theorem d_X6_allAlike_55 : decode (bc mX6_allAlike) 55 = .ok (.iaload, 1) := by decide +kernel
theorem d_X6_allAlike_56 : decode (bc mX6_allAlike) 56 = .ok (.goto 12, 3) := by decide +kernel
theorem d_X6_allAlike_59 : decode (bc mX6_allAlike) 59 = .ok (.aload_n 0, 1) := by decide +kernel
theorem d_X6_allAlike_60 : decode (bc mX6_allAlike) 60 = .ok (.getfield 7, 3) := by decide +kernel
theorem d_X6_allAlike_63 : decode (bc mX6_allAlike) 63 = .ok (.iload 4, 2) := by decide +kernel
theorem d_X6_allAlike_65 : decode (bc mX6_allAlike) 65 = .ok (.invokestatic 172, 3) := by decide +kernel
theorem d_X6_allAlike_68 : decode (bc mX6_allAlike) 68 = .ok (.istore 5, 2) := by decide +kernel
theorem d_X6_allAlike_70 : decode (bc mX6_allAlike) 70 = .ok (.iload 5, 2) := by decide +kernel
theorem d_X6_allAlike_72 : decode (bc mX6_allAlike) 72 = .ok (.aload_n 0, 1) := by decide +kernel
theorem d_X6_allAlike_73 : decode (bc mX6_allAlike) 73 = .ok (.getfield 7, 3) := by decide +kernel
theorem d_X6_allAlike_76 : decode (bc mX6_allAlike) 76 = .ok (.iload_n 1, 1) := by decide +kernel
theorem d_X6_allAlike_77 : decode (bc mX6_allAlike) 77 = .ok (.invokestatic 147, 3) := by decide +kernel
theorem d_X6_allAlike_80 : decode (bc mX6_allAlike) 80 = .ok (.bipush 23, 2) := by decide +kernel
theorem d_X6_allAlike_82 : decode (bc mX6_allAlike) 82 = .ok (.iadd, 1) := by decide +kernel
theorem d_X6_allAlike_83 : decode (bc mX6_allAlike) 83 = .ok (.iload_n 3, 1) := by decide +kernel
theorem d_X6_allAlike_84 : decode (bc mX6_allAlike) 84 = .ok (.iadd, 1) := by decide +kernel
theorem d_X6_allAlike_85 : decode (bc mX6_allAlike) 85 = .ok (.iaload, 1) := by decide +kernel
theorem d_X6_allAlike_86 : decode (bc mX6_allAlike) 86 = .ok (.if_icmp .ne 7, 3) := by decide +kernel
theorem d_X6_allAlike_89 : decode (bc mX6_allAlike) 89 = .ok (.iconst 1, 1) := by decide +kernel
theorem d_X6_allAlike_90 : decode (bc mX6_allAlike) 90 = .ok (.goto 4, 3) := by decide +kernel
theorem d_X6_allAlike_93 : decode (bc mX6_allAlike) 93 = .ok (.iconst 0, 1) := by decide +kernel
theorem d_X6_allAlike_94 : decode (bc mX6_allAlike) 94 = .ok (.istore_n 2, 1) := by decide +kernel
theorem d_X6_allAlike_95 : decode (bc mX6_allAlike) 95 = .ok (.iinc 3 1, 3) := by decide +kernel
theorem d_X6_allAlike_98 : decode (bc mX6_allAlike) 98 = .ok (.goto (-94), 3) := by decide +kernel
theorem d_X6_allAlike_101 : decode (bc mX6_allAlike) 101 = .ok (.iload_n 2, 1) := by decide +kernel
theorem d_X6_allAlike_102 : decode (bc mX6_allAlike) 102 = .ok (.ireturn, 1) := by decide +kernel
theorem d_X6_fits_0 : decode (bc mX6_fits) 0 = .ok (.iload_n 1, 1) := by decide +kernel
theorem d_X6_fits_1 : decode (bc mX6_fits) 1 = .ok (.invokestatic 234, 3) := by decide +kernel
theorem d_X6_fits_4 : decode (bc mX6_fits) 4 = .ok (.ifCond .ne 5, 3) := by decide +kernel
theorem d_X6_fits_7 : decode (bc mX6_fits) 7 = .ok (.iconst (-1), 1) := by decide +kernel
theorem d_X6_fits_8 : decode (bc mX6_fits) 8 = .ok (.ireturn, 1) := by decide +kernel
theorem d_X6_fits_9 : decode (bc mX6_fits) 9 = .ok (.aload_n 0, 1) := by decide +kernel
theorem d_X6_fits_10 : decode (bc mX6_fits) 10 = .ok (.aload_n 0, 1) := by decide +kernel
theorem d_X6_fits_11 : decode (bc mX6_fits) 11 = .ok (.getfield 7, 3) := by decide +kernel
theorem d_X6_fits_14 : decode (bc mX6_fits) 14 = .ok (.invokevirtual 254, 3) := by decide +kernel
theorem d_X6_fits_17 : decode (bc mX6_fits) 17 = .ok (.iconst 0, 1) := by decide +kernel
theorem d_X6_fits_18 : decode (bc mX6_fits) 18 = .ok (.istore_n 2, 1) := by decide +kernel
theorem d_X6_fits_19 : decode (bc mX6_fits) 19 = .ok (.iload_n 2, 1) := by decide +kernel
theorem d_X6_fits_20 : decode (bc mX6_fits) 20 = .ok (.aload_n 0, 1) := by decide +kernel
theorem d_X6_fits_21 : decode (bc mX6_fits) 21 = .ok (.getfield 7, 3) := by decide +kernel
theorem d_X6_fits_24 : decode (bc mX6_fits) 24 = .ok (.sipush 814, 3) := by decide +kernel
theorem d_X6_fits_27 : decode (bc mX6_fits) 27 = .ok (.iaload, 1) := by decide +kernel
theorem d_X6_fits_28 : decode (bc mX6_fits) 28 = .ok (.if_icmp .ge 34, 3) := by decide +kernel
theorem d_X6_fits_31 : decode (bc mX6_fits) 31 = .ok (.aload_n 0, 1) := by decide +kernel
theorem d_X6_fits_32 : decode (bc mX6_fits) 32 = .ok (.getfield 7, 3) := by decide +kernel
theorem d_X6_fits_35 : decode (bc mX6_fits) 35 = .ok (.iload_n 2, 1) := by decide +kernel
theorem d_X6_fits_36 : decode (bc mX6_fits) 36 = .ok (.invokestatic 147, 3) := by decide +kernel
theorem d_X6_fits_39 : decode (bc mX6_fits) 39 = .ok (.iconst 1, 1) := by decide +kernel
theorem d_X6_fits_40 : decode (bc mX6_fits) 40 = .ok (.iadd, 1) := by decide +kernel
theorem d_X6_fits_41 : decode (bc mX6_fits) 41 = .ok (.iaload, 1) := by decide +kernel
theorem d_X6_fits_42 : decode (bc mX6_fits) 42 = .ok (.iload_n 1, 1) := by decide +kernel
theorem d_X6_fits_43 : decode (bc mX6_fits) 43 = .ok (.if_icmp .ne 13, 3) := by decide +kernel
theorem d_X6_fits_46 : decode (bc mX6_fits) 46 = .ok (.aload_n 0, 1) := by decide +kernel
theorem d_X6_fits_47 : decode (bc mX6_fits) 47 = .ok (.iload_n 2, 1) := by decide +kernel
theorem d_X6_fits_48 : decode (bc mX6_fits) 48 = .ok (.invokevirtual 257, 3) := by decide +kernel
theorem d_X6_fits_51 : decode (bc mX6_fits) 51 = .ok (.ifCond .eq 5, 3) := by decide +kernel
theorem d_X6_fits_54 : decode (bc mX6_fits) 54 = .ok (.iload_n 2, 1) := by decide +kernel
theorem d_X6_fits_55 : decode (bc mX6_fits) 55 = .ok (.ireturn, 1) := by decide +kernel
theorem d_X6_fits_56 : decode (bc mX6_fits) 56 = .ok (.iinc 2 1, 3) := by decide +kernel
theorem d_X6_fits_59 : decode (bc mX6_fits) 59 = .ok (.goto (-40), 3) := by decide +kernel
theorem d_X6_fits_62 : decode (bc mX6_fits) 62 = .ok (.bipush (-6), 2) := by decide +kernel
theorem d_X6_fits_64 : decode (bc mX6_fits) 64 = .ok (.ireturn, 1) := by decide +kernel
theorem d_X6_looksAt_0 : decode (bc mX6_looksAt) 0 = .ok (.iload_n 1, 1) := by decide +kernel
theorem d_X6_looksAt_1 : decode (bc mX6_looksAt) 1 = .ok (.invokestatic 234, 3) := by decide +kernel
theorem d_X6_looksAt_4 : decode (bc mX6_looksAt) 4 = .ok (.ifCond .ne 5, 3) := by decide +kernel
theorem d_X6_looksAt_7 : decode (bc mX6_looksAt) 7 = .ok (.iconst (-1), 1) := by decide +kernel
theorem d_X6_looksAt_8 : decode (bc mX6_looksAt) 8 = .ok (.ireturn, 1) := by decide +kernel
theorem d_X6_looksAt_9 : decode (bc mX6_looksAt) 9 = .ok (.aload_n 0, 1) := by decide +kernel
theorem d_X6_looksAt_10 : decode (bc mX6_looksAt) 10 = .ok (.aload_n 0, 1) := by decide +kernel
theorem d_X6_looksAt_11 : decode (bc mX6_looksAt) 11 = .ok (.getfield 7, 3) := by decide +kernel
theorem d_X6_looksAt_14 : decode (bc mX6_looksAt) 14 = .ok (.invokevirtual 254, 3) := by decide +kernel
theorem d_X6_looksAt_17 : decode (bc mX6_looksAt) 17 = .ok (.aload_n 0, 1) := by decide +kernel
theorem d_X6_looksAt_18 : decode (bc mX6_looksAt) 18 = .ok (.getfield 86, 3) := by decide +kernel
theorem d_X6_looksAt_21 : decode (bc mX6_looksAt) 21 = .ok (.iload_n 1, 1) := by decide +kernel
theorem d_X6_looksAt_22 : decode (bc mX6_looksAt) 22 = .ok (.iaload, 1) := by decide +kernel
theorem d_X6_looksAt_23 : decode (bc mX6_looksAt) 23 = .ok (.ireturn, 1) := by decide +kernel
theorem d_X6_changes_0 : decode (bc mX6_changes) 0 = .ok (.iload_n 1, 1) := by decide +kernel
theorem d_X6_changes_1 : decode (bc mX6_changes) 1 = .ok (.invokestatic 228, 3) := by decide +kernel
theorem d_X6_changes_4 : decode (bc mX6_changes) 4 = .ok (.ifCond .ne 5, 3) := by decide +kernel
theorem d_X6_changes_7 : decode (bc mX6_changes) 7 = .ok (.iconst (-1), 1) := by decide +kernel
theorem d_X6_changes_8 : decode (bc mX6_changes) 8 = .ok (.ireturn, 1) := by decide +kernel
theorem d_X6_changes_9 : decode (bc mX6_changes) 9 = .ok (.iload_n 2, 1) := by decide +kernel
theorem d_X6_changes_10 : decode (bc mX6_changes) 10 = .ok (.i2l, 1) := by decide +kernel
theorem d_X6_changes_11 : decode (bc mX6_changes) 11 = .ok (.lconst 0, 1) := by decide +kernel
theorem d_X6_changes_12 : decode (bc mX6_changes) 12 = .ok (.ldc2_w 232, 3) := by decide +kernel
theorem d_X6_changes_15 : decode (bc mX6_changes) 15 = .ok (.invokestatic 91, 3) := by decide +kernel
theorem d_X6_changes_18 : decode (bc mX6_changes) 18 = .ok (.ifCond .ne 6, 3) := by decide +kernel
theorem d_X6_changes_21 : decode (bc mX6_changes) 21 = .ok (.bipush (-2), 2) := by decide +kernel
theorem d_X6_changes_23 : decode (bc mX6_changes) 23 = .ok (.ireturn, 1) := by decide +kernel
theorem d_X6_changes_24 : decode (bc mX6_changes) 24 = .ok (.aload_n 0, 1) := by decide +kernel
theorem d_X6_changes_25 : decode (bc mX6_changes) 25 = .ok (.getfield 7, 3) := by decide +kernel
theorem d_X6_changes_28 : decode (bc mX6_changes) 28 = .ok (.iconst 0, 1) := by decide +kernel
theorem d_X6_changes_29 : decode (bc mX6_changes) 29 = .ok (.aload_n 0, 1) := by decide +kernel
theorem d_X6_changes_30 : decode (bc mX6_changes) 30 = .ok (.getfield 13, 3) := by decide +kernel
theorem d_X6_changes_33 : decode (bc mX6_changes) 33 = .ok (.iconst 0, 1) := by decide +kernel
theorem d_X6_changes_34 : decode (bc mX6_changes) 34 = .ok (.invokestatic 219, 3) := by decide +kernel
theorem d_X6_changes_37 : decode (bc mX6_changes) 37 = .ok (.aload_n 0, 1) := by decide +kernel
theorem d_X6_changes_38 : decode (bc mX6_changes) 38 = .ok (.getfield 13, 3) := by decide +kernel
theorem d_X6_changes_41 : decode (bc mX6_changes) 41 = .ok (.iconst 2, 1) := by decide +kernel
theorem d_X6_changes_42 : decode (bc mX6_changes) 42 = .ok (.iload_n 1, 1) := by decide +kernel
theorem d_X6_changes_43 : decode (bc mX6_changes) 43 = .ok (.iadd, 1) := by decide +kernel
theorem d_X6_changes_44 : decode (bc mX6_changes) 44 = .ok (.iload_n 2, 1) := by decide +kernel
theorem d_X6_changes_45 : decode (bc mX6_changes) 45 = .ok (.iastore, 1) := by decide +kernel
theorem d_X6_changes_46 : decode (bc mX6_changes) 46 = .ok (.iconst 0, 1) := by decide +kernel
theorem d_X6_changes_47 : decode (bc mX6_changes) 47 = .ok (.istore_n 3, 1) := by decide +kernel
theorem d_X6_changes_48 : decode (bc mX6_changes) 48 = .ok (.iconst 0, 1) := by decide +kernel
theorem d_X6_changes_49 : decode (bc mX6_changes) 49 = .ok (.istore 4, 2) := by decide +kernel
theorem d_X6_changes_51 : decode (bc mX6_changes) 51 = .ok (.iload 4, 2) := by decide +kernel
theorem d_X6_changes_53 : decode (bc mX6_changes) 53 = .ok (.bipush 6, 2) := by decide +kernel
theorem d_X6_changes_55 : decode (bc mX6_changes) 55 = .ok (.if_icmp .ge 57, 3) := by decide +kernel
theorem d_X6_changes_58 : decode (bc mX6_changes) 58 = .ok (.aload_n 0, 1) := by decide +kernel
theorem d_X6_changes_59 : decode (bc mX6_changes) 59 = .ok (.aload_n 0, 1) := by decide +kernel
theorem d_X6_changes_60 : decode (bc mX6_changes) 60 = .ok (.getfield 7, 3) := by decide +kernel
theorem d_X6_changes_63 : decode (bc mX6_changes) 63 = .ok (.invokevirtual 254, 3) := by decide +kernel
theorem d_X6_changes_66 : decode (bc mX6_changes) 66 = .ok (.aload_n 0, 1) := by decide +kernel
theorem d_X6_changes_67 : decode (bc mX6_changes) 67 = .ok (.getfield 83, 3) := by decide +kernel
theorem d_X6_changes_70 : decode (bc mX6_changes) 70 = .ok (.iload 4, 2) := by decide +kernel
theorem d_X6_changes_72 : decode (bc mX6_changes) 72 = .ok (.iaload, 1) := by decide +kernel
theorem d_X6_changes_73 : decode (bc mX6_changes) 73 = .ok (.istore 5, 2) := by decide +kernel
theorem d_X6_changes_75 : decode (bc mX6_changes) 75 = .ok (.aload_n 0, 1) := by decide +kernel
theorem d_X6_changes_76 : decode (bc mX6_changes) 76 = .ok (.aload_n 0, 1) := by decide +kernel
theorem d_X6_changes_77 : decode (bc mX6_changes) 77 = .ok (.getfield 13, 3) := by decide +kernel
theorem d_X6_changes_80 : decode (bc mX6_changes) 80 = .ok (.invokevirtual 254, 3) := by decide +kernel
theorem d_X6_changes_83 : decode (bc mX6_changes) 83 = .ok (.iload_n 3, 1) := by decide +kernel
theorem d_X6_changes_84 : decode (bc mX6_changes) 84 = .ok (.aload_n 0, 1) := by decide +kernel
theorem d_X6_changes_85 : decode (bc mX6_changes) 85 = .ok (.getfield 83, 3) := by decide +kernel
theorem d_X6_changes_88 : decode (bc mX6_changes) 88 = .ok (.iload 4, 2) := by decide +kernel
theorem d_X6_changes_90 : decode (bc mX6_changes) 90 = .ok (.iaload, 1) := by decide +kernel
theorem d_X6_changes_91 : decode (bc mX6_changes) 91 = .ok (.iload 5, 2) := by decide +kernel
theorem d_X6_changes_93 : decode (bc mX6_changes) 93 = .ok (.if_icmp .eq 10, 3) := by decide +kernel
theorem d_X6_changes_96 : decode (bc mX6_changes) 96 = .ok (.iconst 1, 1) := by decide +kernel
theorem d_X6_changes_97 : decode (bc mX6_changes) 97 = .ok (.iload 4, 2) := by decide +kernel
theorem d_X6_changes_99 : decode (bc mX6_changes) 99 = .ok (.ishl, 1) := by decide +kernel
theorem d_X6_changes_100 : decode (bc mX6_changes) 100 = .ok (.goto 4, 3) := by decide +kernel
theorem d_X6_changes_103 : decode (bc mX6_changes) 103 = .ok (.iconst 0, 1) := by decide +kernel
theorem d_X6_changes_104 : decode (bc mX6_changes) 104 = .ok (.ior, 1) := by decide +kernel
theorem d_X6_changes_105 : decode (bc mX6_changes) 105 = .ok (.istore_n 3, 1) := by decide +kernel
theorem d_X6_changes_106 : decode (bc mX6_changes) 106 = .ok (.iinc 4 1, 3) := by decide +kernel
theorem d_X6_changes_109 : decode (bc mX6_changes) 109 = .ok (.goto (-58), 3) := by decide +kernel
theorem d_X6_changes_112 : decode (bc mX6_changes) 112 = .ok (.iload_n 3, 1) := by decide +kernel
theorem d_X6_changes_113 : decode (bc mX6_changes) 113 = .ok (.ireturn, 1) := by decide +kernel
theorem d_X6_numberFor_0 : decode (bc mX6_numberFor) 0 = .ok (.iload_n 1, 1) := by decide +kernel
theorem d_X6_numberFor_1 : decode (bc mX6_numberFor) 1 = .ok (.invokestatic 228, 3) := by decide +kernel
theorem d_X6_numberFor_4 : decode (bc mX6_numberFor) 4 = .ok (.ifCond .eq 10, 3) := by decide +kernel
theorem d_X6_numberFor_7 : decode (bc mX6_numberFor) 7 = .ok (.iload_n 2, 1) := by decide +kernel
theorem d_X6_numberFor_8 : decode (bc mX6_numberFor) 8 = .ok (.invokestatic 234, 3) := by decide +kernel
theorem d_X6_numberFor_11 : decode (bc mX6_numberFor) 11 = .ok (.ifCond .ne 5, 3) := by decide +kernel
theorem d_X6_numberFor_14 : decode (bc mX6_numberFor) 14 = .ok (.iconst (-1), 1) := by decide +kernel
theorem d_X6_numberFor_15 : decode (bc mX6_numberFor) 15 = .ok (.ireturn, 1) := by decide +kernel
theorem d_X6_numberFor_16 : decode (bc mX6_numberFor) 16 = .ok (.iload_n 3, 1) := by decide +kernel
theorem d_X6_numberFor_17 : decode (bc mX6_numberFor) 17 = .ok (.i2l, 1) := by decide +kernel
theorem d_X6_numberFor_18 : decode (bc mX6_numberFor) 18 = .ok (.lconst 0, 1) := by decide +kernel
theorem d_X6_numberFor_19 : decode (bc mX6_numberFor) 19 = .ok (.ldc2_w 260, 3) := by decide +kernel
theorem d_X6_numberFor_22 : decode (bc mX6_numberFor) 22 = .ok (.invokestatic 91, 3) := by decide +kernel
theorem d_X6_numberFor_25 : decode (bc mX6_numberFor) 25 = .ok (.ifCond .ne 6, 3) := by decide +kernel
theorem d_X6_numberFor_28 : decode (bc mX6_numberFor) 28 = .ok (.bipush (-2), 2) := by decide +kernel
theorem d_X6_numberFor_30 : decode (bc mX6_numberFor) 30 = .ok (.ireturn, 1) := by decide +kernel
theorem d_X6_numberFor_31 : decode (bc mX6_numberFor) 31 = .ok (.aload_n 0, 1) := by decide +kernel
theorem d_X6_numberFor_32 : decode (bc mX6_numberFor) 32 = .ok (.getfield 7, 3) := by decide +kernel
theorem d_X6_numberFor_35 : decode (bc mX6_numberFor) 35 = .ok (.iconst 0, 1) := by decide +kernel
theorem d_X6_numberFor_36 : decode (bc mX6_numberFor) 36 = .ok (.aload_n 0, 1) := by decide +kernel
theorem d_X6_numberFor_37 : decode (bc mX6_numberFor) 37 = .ok (.getfield 13, 3) := by decide +kernel
theorem d_X6_numberFor_40 : decode (bc mX6_numberFor) 40 = .ok (.iconst 0, 1) := by decide +kernel
theorem d_X6_numberFor_41 : decode (bc mX6_numberFor) 41 = .ok (.invokestatic 219, 3) := by decide +kernel
theorem d_X6_numberFor_44 : decode (bc mX6_numberFor) 44 = .ok (.iconst 0, 1) := by decide +kernel
theorem d_X6_numberFor_45 : decode (bc mX6_numberFor) 45 = .ok (.istore 4, 2) := by decide +kernel
theorem d_X6_numberFor_47 : decode (bc mX6_numberFor) 47 = .ok (.iload 4, 2) := by decide +kernel
theorem d_X6_numberFor_49 : decode (bc mX6_numberFor) 49 = .ok (.bipush 99, 2) := by decide +kernel
theorem d_X6_numberFor_51 : decode (bc mX6_numberFor) 51 = .ok (.if_icmp .gt 40, 3) := by decide +kernel
theorem d_X6_numberFor_54 : decode (bc mX6_numberFor) 54 = .ok (.aload_n 0, 1) := by decide +kernel
theorem d_X6_numberFor_55 : decode (bc mX6_numberFor) 55 = .ok (.getfield 13, 3) := by decide +kernel
theorem d_X6_numberFor_58 : decode (bc mX6_numberFor) 58 = .ok (.iconst 2, 1) := by decide +kernel
theorem d_X6_numberFor_59 : decode (bc mX6_numberFor) 59 = .ok (.iload_n 1, 1) := by decide +kernel
theorem d_X6_numberFor_60 : decode (bc mX6_numberFor) 60 = .ok (.iadd, 1) := by decide +kernel
theorem d_X6_numberFor_61 : decode (bc mX6_numberFor) 61 = .ok (.iload 4, 2) := by decide +kernel
theorem d_X6_numberFor_63 : decode (bc mX6_numberFor) 63 = .ok (.iastore, 1) := by decide +kernel
theorem d_X6_numberFor_64 : decode (bc mX6_numberFor) 64 = .ok (.aload_n 0, 1) := by decide +kernel
theorem d_X6_numberFor_65 : decode (bc mX6_numberFor) 65 = .ok (.aload_n 0, 1) := by decide +kernel
theorem d_X6_numberFor_66 : decode (bc mX6_numberFor) 66 = .ok (.getfield 13, 3) := by decide +kernel
theorem d_X6_numberFor_69 : decode (bc mX6_numberFor) 69 = .ok (.invokevirtual 254, 3) := by decide +kernel
theorem d_X6_numberFor_72 : decode (bc mX6_numberFor) 72 = .ok (.aload_n 0, 1) := by decide +kernel
theorem d_X6_numberFor_73 : decode (bc mX6_numberFor) 73 = .ok (.getfield 83, 3) := by decide +kernel
theorem d_X6_numberFor_76 : decode (bc mX6_numberFor) 76 = .ok (.iload_n 2, 1) := by decide +kernel
theorem d_X6_numberFor_77 : decode (bc mX6_numberFor) 77 = .ok (.iaload, 1) := by decide +kernel
theorem d_X6_numberFor_78 : decode (bc mX6_numberFor) 78 = .ok (.iload_n 3, 1) := by decide +kernel
theorem d_X6_numberFor_79 : decode (bc mX6_numberFor) 79 = .ok (.if_icmp .ne 6, 3) := by decide +kernel
theorem d_X6_numberFor_82 : decode (bc mX6_numberFor) 82 = .ok (.iload 4, 2) := by decide +kernel
theorem d_X6_numberFor_84 : decode (bc mX6_numberFor) 84 = .ok (.ireturn, 1) := by decide +kernel
theorem d_X6_numberFor_85 : decode (bc mX6_numberFor) 85 = .ok (.iinc 4 1, 3) := by decide +kernel
theorem d_X6_numberFor_88 : decode (bc mX6_numberFor) 88 = .ok (.goto (-41), 3) := by decide +kernel
theorem d_X6_numberFor_91 : decode (bc mX6_numberFor) 91 = .ok (.bipush (-6), 2) := by decide +kernel
theorem d_X6_numberFor_93 : decode (bc mX6_numberFor) 93 = .ok (.ireturn, 1) := by decide +kernel
theorem d_X6_stepsFor_0 : decode (bc mX6_stepsFor) 0 = .ok (.iload_n 1, 1) := by decide +kernel
theorem d_X6_stepsFor_1 : decode (bc mX6_stepsFor) 1 = .ok (.invokestatic 234, 3) := by decide +kernel
theorem d_X6_stepsFor_4 : decode (bc mX6_stepsFor) 4 = .ok (.ifCond .ne 5, 3) := by decide +kernel
theorem d_X6_stepsFor_7 : decode (bc mX6_stepsFor) 7 = .ok (.iconst (-1), 1) := by decide +kernel
theorem d_X6_stepsFor_8 : decode (bc mX6_stepsFor) 8 = .ok (.ireturn, 1) := by decide +kernel
theorem d_X6_stepsFor_9 : decode (bc mX6_stepsFor) 9 = .ok (.aload_n 0, 1) := by decide +kernel
theorem d_X6_stepsFor_10 : decode (bc mX6_stepsFor) 10 = .ok (.getfield 7, 3) := by decide +kernel
theorem d_X6_stepsFor_13 : decode (bc mX6_stepsFor) 13 = .ok (.iconst 0, 1) := by decide +kernel
theorem d_X6_stepsFor_14 : decode (bc mX6_stepsFor) 14 = .ok (.aload_n 0, 1) := by decide +kernel
theorem d_X6_stepsFor_15 : decode (bc mX6_stepsFor) 15 = .ok (.getfield 13, 3) := by decide +kernel
theorem d_X6_stepsFor_18 : decode (bc mX6_stepsFor) 18 = .ok (.iconst 0, 1) := by decide +kernel
theorem d_X6_stepsFor_19 : decode (bc mX6_stepsFor) 19 = .ok (.invokestatic 219, 3) := by decide +kernel
theorem d_X6_stepsFor_22 : decode (bc mX6_stepsFor) 22 = .ok (.aload_n 0, 1) := by decide +kernel
theorem d_X6_stepsFor_23 : decode (bc mX6_stepsFor) 23 = .ok (.aload_n 0, 1) := by decide +kernel
theorem d_X6_stepsFor_24 : decode (bc mX6_stepsFor) 24 = .ok (.getfield 13, 3) := by decide +kernel
theorem d_X6_stepsFor_27 : decode (bc mX6_stepsFor) 27 = .ok (.iload_n 1, 1) := by decide +kernel
theorem d_X6_stepsFor_28 : decode (bc mX6_stepsFor) 28 = .ok (.invokevirtual 237, 3) := by decide +kernel
theorem d_X6_stepsFor_31 : decode (bc mX6_stepsFor) 31 = .ok (.pop, 1) := by decide +kernel
theorem d_X6_stepsFor_32 : decode (bc mX6_stepsFor) 32 = .ok (.aload_n 0, 1) := by decide +kernel
theorem d_X6_stepsFor_33 : decode (bc mX6_stepsFor) 33 = .ok (.getfield 13, 3) := by decide +kernel
theorem d_X6_stepsFor_36 : decode (bc mX6_stepsFor) 36 = .ok (.sipush 812, 3) := by decide +kernel
theorem d_X6_stepsFor_39 : decode (bc mX6_stepsFor) 39 = .ok (.iaload, 1) := by decide +kernel
theorem d_X6_stepsFor_40 : decode (bc mX6_stepsFor) 40 = .ok (.aload_n 0, 1) := by decide +kernel
theorem d_X6_stepsFor_41 : decode (bc mX6_stepsFor) 41 = .ok (.getfield 7, 3) := by decide +kernel
theorem d_X6_stepsFor_44 : decode (bc mX6_stepsFor) 44 = .ok (.sipush 812, 3) := by decide +kernel
theorem d_X6_stepsFor_47 : decode (bc mX6_stepsFor) 47 = .ok (.iaload, 1) := by decide +kernel
theorem d_X6_stepsFor_48 : decode (bc mX6_stepsFor) 48 = .ok (.isub, 1) := by decide +kernel
theorem d_X6_stepsFor_49 : decode (bc mX6_stepsFor) 49 = .ok (.ireturn, 1) := by decide +kernel
theorem d_X6_undo_0 : decode (bc mX6_undo) 0 = .ok (.aload_n 0, 1) := by decide +kernel
theorem d_X6_undo_1 : decode (bc mX6_undo) 1 = .ok (.getfield 216, 3) := by decide +kernel
theorem d_X6_undo_4 : decode (bc mX6_undo) 4 = .ok (.ifCond .ne 6, 3) := by decide +kernel
theorem d_X6_undo_7 : decode (bc mX6_undo) 7 = .ok (.bipush (-5), 2) := by decide +kernel
theorem d_X6_undo_9 : decode (bc mX6_undo) 9 = .ok (.ireturn, 1) := by decide +kernel
theorem d_X6_undo_10 : decode (bc mX6_undo) 10 = .ok (.aload_n 0, 1) := by decide +kernel
theorem d_X6_undo_11 : decode (bc mX6_undo) 11 = .ok (.dup, 1) := by decide +kernel
theorem d_X6_undo_12 : decode (bc mX6_undo) 12 = .ok (.getfield 216, 3) := by decide +kernel
theorem d_X6_undo_15 : decode (bc mX6_undo) 15 = .ok (.iconst 1, 1) := by decide +kernel
theorem d_X6_undo_16 : decode (bc mX6_undo) 16 = .ok (.isub, 1) := by decide +kernel
theorem d_X6_undo_17 : decode (bc mX6_undo) 17 = .ok (.putfield 216, 3) := by decide +kernel
theorem d_X6_undo_20 : decode (bc mX6_undo) 20 = .ok (.aload_n 0, 1) := by decide +kernel
theorem d_X6_undo_21 : decode (bc mX6_undo) 21 = .ok (.getfield 16, 3) := by decide +kernel
theorem d_X6_undo_24 : decode (bc mX6_undo) 24 = .ok (.sipush 1496, 3) := by decide +kernel
theorem d_X6_undo_27 : decode (bc mX6_undo) 27 = .ok (.aload_n 0, 1) := by decide +kernel
theorem d_X6_undo_28 : decode (bc mX6_undo) 28 = .ok (.getfield 216, 3) := by decide +kernel
theorem d_X6_undo_31 : decode (bc mX6_undo) 31 = .ok (.imul, 1) := by decide +kernel
theorem d_X6_undo_32 : decode (bc mX6_undo) 32 = .ok (.aload_n 0, 1) := by decide +kernel
theorem d_X6_undo_33 : decode (bc mX6_undo) 33 = .ok (.getfield 7, 3) := by decide +kernel
theorem d_X6_undo_36 : decode (bc mX6_undo) 36 = .ok (.iconst 0, 1) := by decide +kernel
theorem d_X6_undo_37 : decode (bc mX6_undo) 37 = .ok (.invokestatic 219, 3) := by decide +kernel
theorem d_X6_undo_40 : decode (bc mX6_undo) 40 = .ok (.aload_n 0, 1) := by decide +kernel
theorem d_X6_undo_41 : decode (bc mX6_undo) 41 = .ok (.getfield 216, 3) := by decide +kernel
theorem d_X6_undo_44 : decode (bc mX6_undo) 44 = .ok (.ireturn, 1) := by decide +kernel
theorem d_X6_save_0 : decode (bc mX6_save) 0 = .ok (.iload_n 1, 1) := by decide +kernel
theorem d_X6_save_1 : decode (bc mX6_save) 1 = .ok (.i2l, 1) := by decide +kernel
theorem d_X6_save_2 : decode (bc mX6_save) 2 = .ok (.lconst 0, 1) := by decide +kernel
theorem d_X6_save_3 : decode (bc mX6_save) 3 = .ok (.lconst 1, 1) := by decide +kernel
theorem d_X6_save_4 : decode (bc mX6_save) 4 = .ok (.invokestatic 91, 3) := by decide +kernel
theorem d_X6_save_7 : decode (bc mX6_save) 7 = .ok (.ifCond .ne 6, 3) := by decide +kernel
theorem d_X6_save_10 : decode (bc mX6_save) 10 = .ok (.bipush (-2), 2) := by decide +kernel
theorem d_X6_save_12 : decode (bc mX6_save) 12 = .ok (.ireturn, 1) := by decide +kernel
theorem d_X6_save_13 : decode (bc mX6_save) 13 = .ok (.aload_n 0, 1) := by decide +kernel
theorem d_X6_save_14 : decode (bc mX6_save) 14 = .ok (.getfield 7, 3) := by decide +kernel
theorem d_X6_save_17 : decode (bc mX6_save) 17 = .ok (.iconst 0, 1) := by decide +kernel
theorem d_X6_save_18 : decode (bc mX6_save) 18 = .ok (.aload_n 0, 1) := by decide +kernel
theorem d_X6_save_19 : decode (bc mX6_save) 19 = .ok (.getfield 19, 3) := by decide +kernel
theorem d_X6_save_22 : decode (bc mX6_save) 22 = .ok (.sipush 1496, 3) := by decide +kernel
theorem d_X6_save_25 : decode (bc mX6_save) 25 = .ok (.iload_n 1, 1) := by decide +kernel
theorem d_X6_save_26 : decode (bc mX6_save) 26 = .ok (.imul, 1) := by decide +kernel
theorem d_X6_save_27 : decode (bc mX6_save) 27 = .ok (.invokestatic 219, 3) := by decide +kernel
theorem d_X6_save_30 : decode (bc mX6_save) 30 = .ok (.aload_n 0, 1) := by decide +kernel
theorem d_X6_save_31 : decode (bc mX6_save) 31 = .ok (.getfield 22, 3) := by decide +kernel
theorem d_X6_save_34 : decode (bc mX6_save) 34 = .ok (.iload_n 1, 1) := by decide +kernel
theorem d_X6_save_35 : decode (bc mX6_save) 35 = .ok (.iconst 1, 1) := by decide +kernel
theorem d_X6_save_36 : decode (bc mX6_save) 36 = .ok (.bastore, 1) := by decide +kernel
theorem d_X6_save_37 : decode (bc mX6_save) 37 = .ok (.aload_n 0, 1) := by decide +kernel
theorem d_X6_save_38 : decode (bc mX6_save) 38 = .ok (.getfield 7, 3) := by decide +kernel
theorem d_X6_save_41 : decode (bc mX6_save) 41 = .ok (.sipush 814, 3) := by decide +kernel
theorem d_X6_save_44 : decode (bc mX6_save) 44 = .ok (.iaload, 1) := by decide +kernel
theorem d_X6_save_45 : decode (bc mX6_save) 45 = .ok (.ireturn, 1) := by decide +kernel
theorem d_X6_restore_0 : decode (bc mX6_restore) 0 = .ok (.iload_n 1, 1) := by decide +kernel
theorem d_X6_restore_1 : decode (bc mX6_restore) 1 = .ok (.i2l, 1) := by decide +kernel
theorem d_X6_restore_2 : decode (bc mX6_restore) 2 = .ok (.lconst 0, 1) := by decide +kernel
theorem d_X6_restore_3 : decode (bc mX6_restore) 3 = .ok (.lconst 1, 1) := by decide +kernel
theorem d_X6_restore_4 : decode (bc mX6_restore) 4 = .ok (.invokestatic 91, 3) := by decide +kernel
theorem d_X6_restore_7 : decode (bc mX6_restore) 7 = .ok (.ifCond .ne 6, 3) := by decide +kernel
theorem d_X6_restore_10 : decode (bc mX6_restore) 10 = .ok (.bipush (-2), 2) := by decide +kernel
theorem d_X6_restore_12 : decode (bc mX6_restore) 12 = .ok (.ireturn, 1) := by decide +kernel
theorem d_X6_restore_13 : decode (bc mX6_restore) 13 = .ok (.aload_n 0, 1) := by decide +kernel
theorem d_X6_restore_14 : decode (bc mX6_restore) 14 = .ok (.getfield 22, 3) := by decide +kernel
theorem d_X6_restore_17 : decode (bc mX6_restore) 17 = .ok (.iload_n 1, 1) := by decide +kernel
theorem d_X6_restore_18 : decode (bc mX6_restore) 18 = .ok (.baload, 1) := by decide +kernel
theorem d_X6_restore_19 : decode (bc mX6_restore) 19 = .ok (.ifCond .ne 6, 3) := by decide +kernel
theorem d_X6_restore_22 : decode (bc mX6_restore) 22 = .ok (.bipush (-5), 2) := by decide +kernel
theorem d_X6_restore_24 : decode (bc mX6_restore) 24 = .ok (.ireturn, 1) := by decide +kernel
theorem d_X6_restore_25 : decode (bc mX6_restore) 25 = .ok (.aload_n 0, 1) := by decide +kernel
theorem d_X6_restore_26 : decode (bc mX6_restore) 26 = .ok (.invokevirtual 225, 3) := by decide +kernel
theorem d_X6_restore_29 : decode (bc mX6_restore) 29 = .ok (.aload_n 0, 1) := by decide +kernel
theorem d_X6_restore_30 : decode (bc mX6_restore) 30 = .ok (.getfield 19, 3) := by decide +kernel
theorem d_X6_restore_33 : decode (bc mX6_restore) 33 = .ok (.sipush 1496, 3) := by decide +kernel
theorem d_X6_restore_36 : decode (bc mX6_restore) 36 = .ok (.iload_n 1, 1) := by decide +kernel
theorem d_X6_restore_37 : decode (bc mX6_restore) 37 = .ok (.imul, 1) := by decide +kernel
theorem d_X6_restore_38 : decode (bc mX6_restore) 38 = .ok (.aload_n 0, 1) := by decide +kernel
theorem d_X6_restore_39 : decode (bc mX6_restore) 39 = .ok (.getfield 7, 3) := by decide +kernel
theorem d_X6_restore_42 : decode (bc mX6_restore) 42 = .ok (.iconst 0, 1) := by decide +kernel
theorem d_X6_restore_43 : decode (bc mX6_restore) 43 = .ok (.invokestatic 219, 3) := by decide +kernel
theorem d_X6_restore_46 : decode (bc mX6_restore) 46 = .ok (.aload_n 0, 1) := by decide +kernel
theorem d_X6_restore_47 : decode (bc mX6_restore) 47 = .ok (.getfield 7, 3) := by decide +kernel
theorem d_X6_restore_50 : decode (bc mX6_restore) 50 = .ok (.sipush 814, 3) := by decide +kernel
theorem d_X6_restore_53 : decode (bc mX6_restore) 53 = .ok (.iaload, 1) := by decide +kernel
theorem d_X6_restore_54 : decode (bc mX6_restore) 54 = .ok (.ireturn, 1) := by decide +kernel
theorem d_J7_fill_53178_0 : decode (bc mJ7_fill_53178) 0 = .ok (.iconst 0, 1) := by decide +kernel
theorem d_J7_fill_53178_1 : decode (bc mJ7_fill_53178) 1 = .ok (.istore_n 2, 1) := by decide +kernel
theorem d_J7_fill_53178_2 : decode (bc mJ7_fill_53178) 2 = .ok (.aload_n 0, 1) := by decide +kernel
theorem d_J7_fill_53178_3 : decode (bc mJ7_fill_53178) 3 = .ok (.arraylength, 1) := by decide +kernel
theorem d_J7_fill_53178_4 : decode (bc mJ7_fill_53178) 4 = .ok (.istore_n 3, 1) := by decide +kernel
theorem d_J7_fill_53178_5 : decode (bc mJ7_fill_53178) 5 = .ok (.iload_n 2, 1) := by decide +kernel
theorem d_J7_fill_53178_6 : decode (bc mJ7_fill_53178) 6 = .ok (.iload_n 3, 1) := by decide +kernel
theorem d_J7_fill_53178_7 : decode (bc mJ7_fill_53178) 7 = .ok (.if_icmp .ge 13, 3) := by decide +kernel
theorem d_J7_fill_53178_10 : decode (bc mJ7_fill_53178) 10 = .ok (.aload_n 0, 1) := by decide +kernel
theorem d_J7_fill_53178_11 : decode (bc mJ7_fill_53178) 11 = .ok (.iload_n 2, 1) := by decide +kernel
theorem d_J7_fill_53178_12 : decode (bc mJ7_fill_53178) 12 = .ok (.iload_n 1, 1) := by decide +kernel
theorem d_J7_fill_53178_13 : decode (bc mJ7_fill_53178) 13 = .ok (.iastore, 1) := by decide +kernel
theorem d_J7_fill_53178_14 : decode (bc mJ7_fill_53178) 14 = .ok (.iinc 2 1, 3) := by decide +kernel
theorem d_J7_fill_53178_17 : decode (bc mJ7_fill_53178) 17 = .ok (.goto (-12), 3) := by decide +kernel
theorem d_J7_fill_53178_20 : decode (bc mJ7_fill_53178) 20 = .ok (.return_, 1) := by decide +kernel
theorem d_J7_copyOf_59c91_0 : decode (bc mJ7_copyOf_59c91) 0 = .ok (.iload_n 1, 1) := by decide +kernel
theorem d_J7_copyOf_59c91_1 : decode (bc mJ7_copyOf_59c91) 1 = .ok (.aload_n 0, 1) := by decide +kernel
theorem d_J7_copyOf_59c91_2 : decode (bc mJ7_copyOf_59c91) 2 = .ok (.arraylength, 1) := by decide +kernel
theorem d_J7_copyOf_59c91_3 : decode (bc mJ7_copyOf_59c91) 3 = .ok (.if_icmp .ne 11, 3) := by decide +kernel
theorem d_J7_copyOf_59c91_6 : decode (bc mJ7_copyOf_59c91) 6 = .ok (.aload_n 0, 1) := by decide +kernel
theorem d_J7_copyOf_59c91_7 : decode (bc mJ7_copyOf_59c91) 7 = .ok (.invokevirtual 316, 3) := by decide +kernel
theorem d_J7_copyOf_59c91_10 : decode (bc mJ7_copyOf_59c91) 10 = .ok (.checkcast 317, 3) := by decide +kernel
theorem d_J7_copyOf_59c91_13 : decode (bc mJ7_copyOf_59c91) 13 = .ok (.areturn, 1) := by decide +kernel
theorem d_J7_copyOf_59c91_14 : decode (bc mJ7_copyOf_59c91) 14 = .ok (.iload_n 1, 1) := by decide +kernel
theorem d_J7_copyOf_59c91_15 : decode (bc mJ7_copyOf_59c91) 15 = .ok (.newarray .int, 2) := by decide +kernel
theorem d_J7_copyOf_59c91_17 : decode (bc mJ7_copyOf_59c91) 17 = .ok (.astore_n 2, 1) := by decide +kernel
theorem d_J7_copyOf_59c91_18 : decode (bc mJ7_copyOf_59c91) 18 = .ok (.aload_n 0, 1) := by decide +kernel
theorem d_J7_copyOf_59c91_19 : decode (bc mJ7_copyOf_59c91) 19 = .ok (.iconst 0, 1) := by decide +kernel
theorem d_J7_copyOf_59c91_20 : decode (bc mJ7_copyOf_59c91) 20 = .ok (.aload_n 2, 1) := by decide +kernel
theorem d_J7_copyOf_59c91_21 : decode (bc mJ7_copyOf_59c91) 21 = .ok (.iconst 0, 1) := by decide +kernel
theorem d_J7_copyOf_59c91_22 : decode (bc mJ7_copyOf_59c91) 22 = .ok (.aload_n 0, 1) := by decide +kernel
theorem d_J7_copyOf_59c91_23 : decode (bc mJ7_copyOf_59c91) 23 = .ok (.arraylength, 1) := by decide +kernel
theorem d_J7_copyOf_59c91_24 : decode (bc mJ7_copyOf_59c91) 24 = .ok (.iload_n 1, 1) := by decide +kernel
theorem d_J7_copyOf_59c91_25 : decode (bc mJ7_copyOf_59c91) 25 = .ok (.invokestatic 304, 3) := by decide +kernel
theorem d_J7_copyOf_59c91_28 : decode (bc mJ7_copyOf_59c91) 28 = .ok (.invokestatic 150, 3) := by decide +kernel
theorem d_J7_copyOf_59c91_31 : decode (bc mJ7_copyOf_59c91) 31 = .ok (.aload_n 2, 1) := by decide +kernel
theorem d_J7_copyOf_59c91_32 : decode (bc mJ7_copyOf_59c91) 32 = .ok (.areturn, 1) := by decide +kernel
theorem d_L_law_0 : decode (bc mL_law) 0 = .ok (.new 7, 3) := by decide +kernel
theorem d_L_law_3 : decode (bc mL_law) 3 = .ok (.dup, 1) := by decide +kernel
theorem d_L_law_4 : decode (bc mL_law) 4 = .ok (.invokespecial 9, 3) := by decide +kernel
theorem d_L_law_7 : decode (bc mL_law) 7 = .ok (.astore_n 1, 1) := by decide +kernel
theorem d_L_law_8 : decode (bc mL_law) 8 = .ok (.new 10, 3) := by decide +kernel
theorem d_L_law_11 : decode (bc mL_law) 11 = .ok (.dup, 1) := by decide +kernel
theorem d_L_law_12 : decode (bc mL_law) 12 = .ok (.invokespecial 12, 3) := by decide +kernel
theorem d_L_law_15 : decode (bc mL_law) 15 = .ok (.astore_n 2, 1) := by decide +kernel
theorem d_L_law_16 : decode (bc mL_law) 16 = .ok (.iconst 0, 1) := by decide +kernel
theorem d_L_law_17 : decode (bc mL_law) 17 = .ok (.istore_n 3, 1) := by decide +kernel
theorem d_L_law_18 : decode (bc mL_law) 18 = .ok (.iload_n 3, 1) := by decide +kernel
theorem d_L_law_19 : decode (bc mL_law) 19 = .ok (.aload_n 0, 1) := by decide +kernel
theorem d_L_law_20 : decode (bc mL_law) 20 = .ok (.arraylength, 1) := by decide +kernel
theorem d_L_law_21 : decode (bc mL_law) 21 = .ok (.iconst 4, 1) := by decide +kernel
theorem d_L_law_22 : decode (bc mL_law) 22 = .ok (.isub, 1) := by decide +kernel
theorem d_L_law_23 : decode (bc mL_law) 23 = .ok (.if_icmp .gt 762, 3) := by decide +kernel
theorem d_L_law_26 : decode (bc mL_law) 26 = .ok (.aload_n 0, 1) := by decide +kernel
theorem d_L_law_27 : decode (bc mL_law) 27 = .ok (.iload_n 3, 1) := by decide +kernel
theorem d_L_law_28 : decode (bc mL_law) 28 = .ok (.iaload, 1) := by decide +kernel
theorem d_L_law_29 : decode (bc mL_law) 29 = .ok (.bipush 31, 2) := by decide +kernel
theorem d_L_law_31 : decode (bc mL_law) 31 = .ok (.iand, 1) := by decide +kernel
theorem d_L_law_32 : decode (bc mL_law) 32 = .ok (.tableswitch 747 0 22 #[108, 141, 174, 207, 230, 253, 306, 319, 332, 355, 388, 421, 454, 497, 520, 543, 566, 589, 622, 665, 688, 701, 724], 108) := by decide +kernel
theorem d_L_law_140 : decode (bc mL_law) 140 = .ok (.aload_n 1, 1) := by decide +kernel
theorem d_L_law_141 : decode (bc mL_law) 141 = .ok (.aload_n 0, 1) := by decide +kernel
theorem d_L_law_142 : decode (bc mL_law) 142 = .ok (.iload_n 3, 1) := by decide +kernel
theorem d_L_law_143 : decode (bc mL_law) 143 = .ok (.iconst 1, 1) := by decide +kernel
theorem d_L_law_144 : decode (bc mL_law) 144 = .ok (.iadd, 1) := by decide +kernel
theorem d_L_law_145 : decode (bc mL_law) 145 = .ok (.iaload, 1) := by decide +kernel
theorem d_L_law_146 : decode (bc mL_law) 146 = .ok (.aload_n 0, 1) := by decide +kernel
theorem d_L_law_147 : decode (bc mL_law) 147 = .ok (.iload_n 3, 1) := by decide +kernel
theorem d_L_law_148 : decode (bc mL_law) 148 = .ok (.iconst 2, 1) := by decide +kernel
theorem d_L_law_149 : decode (bc mL_law) 149 = .ok (.iadd, 1) := by decide +kernel
theorem d_L_law_150 : decode (bc mL_law) 150 = .ok (.iaload, 1) := by decide +kernel
theorem d_L_law_151 : decode (bc mL_law) 151 = .ok (.invokevirtual 13, 3) := by decide +kernel
theorem d_L_law_154 : decode (bc mL_law) 154 = .ok (.aload_n 2, 1) := by decide +kernel
theorem d_L_law_155 : decode (bc mL_law) 155 = .ok (.aload_n 0, 1) := by decide +kernel
theorem d_L_law_156 : decode (bc mL_law) 156 = .ok (.iload_n 3, 1) := by decide +kernel
theorem d_L_law_157 : decode (bc mL_law) 157 = .ok (.iconst 1, 1) := by decide +kernel
theorem d_L_law_158 : decode (bc mL_law) 158 = .ok (.iadd, 1) := by decide +kernel
theorem d_L_law_159 : decode (bc mL_law) 159 = .ok (.iaload, 1) := by decide +kernel
theorem d_L_law_160 : decode (bc mL_law) 160 = .ok (.aload_n 0, 1) := by decide +kernel
theorem d_L_law_161 : decode (bc mL_law) 161 = .ok (.iload_n 3, 1) := by decide +kernel
theorem d_L_law_162 : decode (bc mL_law) 162 = .ok (.iconst 2, 1) := by decide +kernel
theorem d_L_law_163 : decode (bc mL_law) 163 = .ok (.iadd, 1) := by decide +kernel
theorem d_L_law_164 : decode (bc mL_law) 164 = .ok (.iaload, 1) := by decide +kernel
theorem d_L_law_165 : decode (bc mL_law) 165 = .ok (.invokevirtual 17, 3) := by decide +kernel
theorem d_L_law_168 : decode (bc mL_law) 168 = .ok (.if_icmp .eq 611, 3) := by decide +kernel
theorem d_L_law_171 : decode (bc mL_law) 171 = .ok (.iconst 0, 1) := by decide +kernel
theorem d_L_law_172 : decode (bc mL_law) 172 = .ok (.ireturn, 1) := by decide +kernel
theorem d_L_law_173 : decode (bc mL_law) 173 = .ok (.aload_n 1, 1) := by decide +kernel
theorem d_L_law_174 : decode (bc mL_law) 174 = .ok (.aload_n 0, 1) := by decide +kernel
theorem d_L_law_175 : decode (bc mL_law) 175 = .ok (.iload_n 3, 1) := by decide +kernel
theorem d_L_law_176 : decode (bc mL_law) 176 = .ok (.iconst 1, 1) := by decide +kernel
theorem d_L_law_177 : decode (bc mL_law) 177 = .ok (.iadd, 1) := by decide +kernel
theorem d_L_law_178 : decode (bc mL_law) 178 = .ok (.iaload, 1) := by decide +kernel
theorem d_L_law_179 : decode (bc mL_law) 179 = .ok (.aload_n 0, 1) := by decide +kernel
theorem d_L_law_180 : decode (bc mL_law) 180 = .ok (.iload_n 3, 1) := by decide +kernel
theorem d_L_law_181 : decode (bc mL_law) 181 = .ok (.iconst 2, 1) := by decide +kernel
theorem d_L_law_182 : decode (bc mL_law) 182 = .ok (.iadd, 1) := by decide +kernel
theorem d_L_law_183 : decode (bc mL_law) 183 = .ok (.iaload, 1) := by decide +kernel
theorem d_L_law_184 : decode (bc mL_law) 184 = .ok (.invokevirtual 18, 3) := by decide +kernel
theorem d_L_law_187 : decode (bc mL_law) 187 = .ok (.aload_n 2, 1) := by decide +kernel
theorem d_L_law_188 : decode (bc mL_law) 188 = .ok (.aload_n 0, 1) := by decide +kernel
theorem d_L_law_189 : decode (bc mL_law) 189 = .ok (.iload_n 3, 1) := by decide +kernel
theorem d_L_law_190 : decode (bc mL_law) 190 = .ok (.iconst 1, 1) := by decide +kernel
theorem d_L_law_191 : decode (bc mL_law) 191 = .ok (.iadd, 1) := by decide +kernel
theorem d_L_law_192 : decode (bc mL_law) 192 = .ok (.iaload, 1) := by decide +kernel
theorem d_L_law_193 : decode (bc mL_law) 193 = .ok (.aload_n 0, 1) := by decide +kernel
theorem d_L_law_194 : decode (bc mL_law) 194 = .ok (.iload_n 3, 1) := by decide +kernel
theorem d_L_law_195 : decode (bc mL_law) 195 = .ok (.iconst 2, 1) := by decide +kernel
theorem d_L_law_196 : decode (bc mL_law) 196 = .ok (.iadd, 1) := by decide +kernel
theorem d_L_law_197 : decode (bc mL_law) 197 = .ok (.iaload, 1) := by decide +kernel
theorem d_L_law_198 : decode (bc mL_law) 198 = .ok (.invokevirtual 21, 3) := by decide +kernel
theorem d_L_law_201 : decode (bc mL_law) 201 = .ok (.if_icmp .eq 578, 3) := by decide +kernel
theorem d_L_law_204 : decode (bc mL_law) 204 = .ok (.iconst 0, 1) := by decide +kernel
theorem d_L_law_205 : decode (bc mL_law) 205 = .ok (.ireturn, 1) := by decide +kernel
theorem d_L_law_206 : decode (bc mL_law) 206 = .ok (.aload_n 1, 1) := by decide +kernel
theorem d_L_law_207 : decode (bc mL_law) 207 = .ok (.aload_n 0, 1) := by decide +kernel
theorem d_L_law_208 : decode (bc mL_law) 208 = .ok (.iload_n 3, 1) := by decide +kernel
theorem d_L_law_209 : decode (bc mL_law) 209 = .ok (.iconst 1, 1) := by decide +kernel
theorem d_L_law_210 : decode (bc mL_law) 210 = .ok (.iadd, 1) := by decide +kernel
theorem d_L_law_211 : decode (bc mL_law) 211 = .ok (.iaload, 1) := by decide +kernel
theorem d_L_law_212 : decode (bc mL_law) 212 = .ok (.aload_n 0, 1) := by decide +kernel
theorem d_L_law_213 : decode (bc mL_law) 213 = .ok (.iload_n 3, 1) := by decide +kernel
theorem d_L_law_214 : decode (bc mL_law) 214 = .ok (.iconst 2, 1) := by decide +kernel
theorem d_L_law_215 : decode (bc mL_law) 215 = .ok (.iadd, 1) := by decide +kernel
theorem d_L_law_216 : decode (bc mL_law) 216 = .ok (.iaload, 1) := by decide +kernel
theorem d_L_law_217 : decode (bc mL_law) 217 = .ok (.invokevirtual 22, 3) := by decide +kernel
theorem d_L_law_220 : decode (bc mL_law) 220 = .ok (.aload_n 2, 1) := by decide +kernel
theorem d_L_law_221 : decode (bc mL_law) 221 = .ok (.aload_n 0, 1) := by decide +kernel
theorem d_L_law_222 : decode (bc mL_law) 222 = .ok (.iload_n 3, 1) := by decide +kernel
theorem d_L_law_223 : decode (bc mL_law) 223 = .ok (.iconst 1, 1) := by decide +kernel
theorem d_L_law_224 : decode (bc mL_law) 224 = .ok (.iadd, 1) := by decide +kernel
theorem d_L_law_225 : decode (bc mL_law) 225 = .ok (.iaload, 1) := by decide +kernel
theorem d_L_law_226 : decode (bc mL_law) 226 = .ok (.aload_n 0, 1) := by decide +kernel
theorem d_L_law_227 : decode (bc mL_law) 227 = .ok (.iload_n 3, 1) := by decide +kernel
theorem d_L_law_228 : decode (bc mL_law) 228 = .ok (.iconst 2, 1) := by decide +kernel
theorem d_L_law_229 : decode (bc mL_law) 229 = .ok (.iadd, 1) := by decide +kernel
theorem d_L_law_230 : decode (bc mL_law) 230 = .ok (.iaload, 1) := by decide +kernel
theorem d_L_law_231 : decode (bc mL_law) 231 = .ok (.invokevirtual 25, 3) := by decide +kernel
theorem d_L_law_234 : decode (bc mL_law) 234 = .ok (.if_icmp .eq 545, 3) := by decide +kernel
theorem d_L_law_237 : decode (bc mL_law) 237 = .ok (.iconst 0, 1) := by decide +kernel
theorem d_L_law_238 : decode (bc mL_law) 238 = .ok (.ireturn, 1) := by decide +kernel
theorem d_L_law_239 : decode (bc mL_law) 239 = .ok (.aload_n 1, 1) := by decide +kernel
theorem d_L_law_240 : decode (bc mL_law) 240 = .ok (.aload_n 0, 1) := by decide +kernel
theorem d_L_law_241 : decode (bc mL_law) 241 = .ok (.iload_n 3, 1) := by decide +kernel
theorem d_L_law_242 : decode (bc mL_law) 242 = .ok (.iconst 1, 1) := by decide +kernel
theorem d_L_law_243 : decode (bc mL_law) 243 = .ok (.iadd, 1) := by decide +kernel
theorem d_L_law_244 : decode (bc mL_law) 244 = .ok (.iaload, 1) := by decide +kernel
theorem d_L_law_245 : decode (bc mL_law) 245 = .ok (.invokevirtual 26, 3) := by decide +kernel
theorem d_L_law_248 : decode (bc mL_law) 248 = .ok (.aload_n 2, 1) := by decide +kernel
theorem d_L_law_249 : decode (bc mL_law) 249 = .ok (.aload_n 0, 1) := by decide +kernel
theorem d_L_law_250 : decode (bc mL_law) 250 = .ok (.iload_n 3, 1) := by decide +kernel
theorem d_L_law_251 : decode (bc mL_law) 251 = .ok (.iconst 1, 1) := by decide +kernel
theorem d_L_law_252 : decode (bc mL_law) 252 = .ok (.iadd, 1) := by decide +kernel
theorem d_L_law_253 : decode (bc mL_law) 253 = .ok (.iaload, 1) := by decide +kernel
theorem d_L_law_254 : decode (bc mL_law) 254 = .ok (.invokevirtual 30, 3) := by decide +kernel
theorem d_L_law_257 : decode (bc mL_law) 257 = .ok (.if_icmp .eq 522, 3) := by decide +kernel
theorem d_L_law_260 : decode (bc mL_law) 260 = .ok (.iconst 0, 1) := by decide +kernel
theorem d_L_law_261 : decode (bc mL_law) 261 = .ok (.ireturn, 1) := by decide +kernel
theorem d_L_law_262 : decode (bc mL_law) 262 = .ok (.aload_n 1, 1) := by decide +kernel
theorem d_L_law_263 : decode (bc mL_law) 263 = .ok (.aload_n 0, 1) := by decide +kernel
theorem d_L_law_264 : decode (bc mL_law) 264 = .ok (.iload_n 3, 1) := by decide +kernel
theorem d_L_law_265 : decode (bc mL_law) 265 = .ok (.iconst 1, 1) := by decide +kernel
theorem d_L_law_266 : decode (bc mL_law) 266 = .ok (.iadd, 1) := by decide +kernel
theorem d_L_law_267 : decode (bc mL_law) 267 = .ok (.iaload, 1) := by decide +kernel
theorem d_L_law_268 : decode (bc mL_law) 268 = .ok (.invokevirtual 31, 3) := by decide +kernel
theorem d_L_law_271 : decode (bc mL_law) 271 = .ok (.aload_n 2, 1) := by decide +kernel
theorem d_L_law_272 : decode (bc mL_law) 272 = .ok (.aload_n 0, 1) := by decide +kernel
theorem d_L_law_273 : decode (bc mL_law) 273 = .ok (.iload_n 3, 1) := by decide +kernel
theorem d_L_law_274 : decode (bc mL_law) 274 = .ok (.iconst 1, 1) := by decide +kernel
theorem d_L_law_275 : decode (bc mL_law) 275 = .ok (.iadd, 1) := by decide +kernel
theorem d_L_law_276 : decode (bc mL_law) 276 = .ok (.iaload, 1) := by decide +kernel
theorem d_L_law_277 : decode (bc mL_law) 277 = .ok (.invokevirtual 34, 3) := by decide +kernel
theorem d_L_law_280 : decode (bc mL_law) 280 = .ok (.if_icmp .eq 499, 3) := by decide +kernel
theorem d_L_law_283 : decode (bc mL_law) 283 = .ok (.iconst 0, 1) := by decide +kernel
theorem d_L_law_284 : decode (bc mL_law) 284 = .ok (.ireturn, 1) := by decide +kernel
theorem d_L_law_285 : decode (bc mL_law) 285 = .ok (.aload_n 1, 1) := by decide +kernel
theorem d_L_law_286 : decode (bc mL_law) 286 = .ok (.aload_n 0, 1) := by decide +kernel
theorem d_L_law_287 : decode (bc mL_law) 287 = .ok (.iload_n 3, 1) := by decide +kernel
theorem d_L_law_288 : decode (bc mL_law) 288 = .ok (.iconst 1, 1) := by decide +kernel
theorem d_L_law_289 : decode (bc mL_law) 289 = .ok (.iadd, 1) := by decide +kernel
theorem d_L_law_290 : decode (bc mL_law) 290 = .ok (.iaload, 1) := by decide +kernel
theorem d_L_law_291 : decode (bc mL_law) 291 = .ok (.i2l, 1) := by decide +kernel
theorem d_L_law_292 : decode (bc mL_law) 292 = .ok (.bipush 32, 2) := by decide +kernel
theorem d_L_law_294 : decode (bc mL_law) 294 = .ok (.lshl, 1) := by decide +kernel
theorem d_L_law_295 : decode (bc mL_law) 295 = .ok (.aload_n 0, 1) := by decide +kernel
theorem d_L_law_296 : decode (bc mL_law) 296 = .ok (.iload_n 3, 1) := by decide +kernel
theorem d_L_law_297 : decode (bc mL_law) 297 = .ok (.iconst 2, 1) := by decide +kernel
theorem d_L_law_298 : decode (bc mL_law) 298 = .ok (.iadd, 1) := by decide +kernel
theorem d_L_law_299 : decode (bc mL_law) 299 = .ok (.iaload, 1) := by decide +kernel
theorem d_L_law_300 : decode (bc mL_law) 300 = .ok (.i2l, 1) := by decide +kernel
theorem d_L_law_301 : decode (bc mL_law) 301 = .ok (.ldc2_w 35, 3) := by decide +kernel
theorem d_L_law_304 : decode (bc mL_law) 304 = .ok (.land, 1) := by decide +kernel
theorem d_L_law_305 : decode (bc mL_law) 305 = .ok (.lor, 1) := by decide +kernel
theorem d_L_law_306 : decode (bc mL_law) 306 = .ok (.invokevirtual 37, 3) := by decide +kernel
theorem d_L_law_309 : decode (bc mL_law) 309 = .ok (.aload_n 2, 1) := by decide +kernel
theorem d_L_law_310 : decode (bc mL_law) 310 = .ok (.aload_n 0, 1) := by decide +kernel
theorem d_L_law_311 : decode (bc mL_law) 311 = .ok (.iload_n 3, 1) := by decide +kernel
theorem d_L_law_312 : decode (bc mL_law) 312 = .ok (.iconst 1, 1) := by decide +kernel
theorem d_L_law_313 : decode (bc mL_law) 313 = .ok (.iadd, 1) := by decide +kernel
theorem d_L_law_314 : decode (bc mL_law) 314 = .ok (.iaload, 1) := by decide +kernel
theorem d_L_law_315 : decode (bc mL_law) 315 = .ok (.i2l, 1) := by decide +kernel
theorem d_L_law_316 : decode (bc mL_law) 316 = .ok (.bipush 32, 2) := by decide +kernel
theorem d_L_law_318 : decode (bc mL_law) 318 = .ok (.lshl, 1) := by decide +kernel
theorem d_L_law_319 : decode (bc mL_law) 319 = .ok (.aload_n 0, 1) := by decide +kernel
theorem d_L_law_320 : decode (bc mL_law) 320 = .ok (.iload_n 3, 1) := by decide +kernel
theorem d_L_law_321 : decode (bc mL_law) 321 = .ok (.iconst 2, 1) := by decide +kernel
theorem d_L_law_322 : decode (bc mL_law) 322 = .ok (.iadd, 1) := by decide +kernel
theorem d_L_law_323 : decode (bc mL_law) 323 = .ok (.iaload, 1) := by decide +kernel
theorem d_L_law_324 : decode (bc mL_law) 324 = .ok (.i2l, 1) := by decide +kernel
theorem d_L_law_325 : decode (bc mL_law) 325 = .ok (.ldc2_w 35, 3) := by decide +kernel
theorem d_L_law_328 : decode (bc mL_law) 328 = .ok (.land, 1) := by decide +kernel
theorem d_L_law_329 : decode (bc mL_law) 329 = .ok (.lor, 1) := by decide +kernel
theorem d_L_law_330 : decode (bc mL_law) 330 = .ok (.invokevirtual 41, 3) := by decide +kernel
theorem d_L_law_333 : decode (bc mL_law) 333 = .ok (.if_icmp .eq 446, 3) := by decide +kernel
theorem d_L_law_336 : decode (bc mL_law) 336 = .ok (.iconst 0, 1) := by decide +kernel
theorem d_L_law_337 : decode (bc mL_law) 337 = .ok (.ireturn, 1) := by decide +kernel
theorem d_L_law_338 : decode (bc mL_law) 338 = .ok (.aload_n 1, 1) := by decide +kernel
theorem d_L_law_339 : decode (bc mL_law) 339 = .ok (.invokevirtual 42, 3) := by decide +kernel
theorem d_L_law_342 : decode (bc mL_law) 342 = .ok (.aload_n 2, 1) := by decide +kernel
theorem d_L_law_343 : decode (bc mL_law) 343 = .ok (.invokevirtual 46, 3) := by decide +kernel
theorem d_L_law_346 : decode (bc mL_law) 346 = .ok (.if_icmp .eq 433, 3) := by decide +kernel
theorem d_L_law_349 : decode (bc mL_law) 349 = .ok (.iconst 0, 1) := by decide +kernel
theorem d_L_law_350 : decode (bc mL_law) 350 = .ok (.ireturn, 1) := by decide +kernel
theorem d_L_law_351 : decode (bc mL_law) 351 = .ok (.aload_n 1, 1) := by decide +kernel
theorem d_L_law_352 : decode (bc mL_law) 352 = .ok (.invokevirtual 47, 3) := by decide +kernel
theorem d_L_law_355 : decode (bc mL_law) 355 = .ok (.aload_n 2, 1) := by decide +kernel
theorem d_L_law_356 : decode (bc mL_law) 356 = .ok (.invokevirtual 50, 3) := by decide +kernel
theorem d_L_law_359 : decode (bc mL_law) 359 = .ok (.if_icmp .eq 420, 3) := by decide +kernel
theorem d_L_law_362 : decode (bc mL_law) 362 = .ok (.iconst 0, 1) := by decide +kernel
theorem d_L_law_363 : decode (bc mL_law) 363 = .ok (.ireturn, 1) := by decide +kernel
theorem d_L_law_364 : decode (bc mL_law) 364 = .ok (.aload_n 1, 1) := by decide +kernel
theorem d_L_law_365 : decode (bc mL_law) 365 = .ok (.aload_n 0, 1) := by decide +kernel
theorem d_L_law_366 : decode (bc mL_law) 366 = .ok (.iload_n 3, 1) := by decide +kernel
theorem d_L_law_367 : decode (bc mL_law) 367 = .ok (.iconst 1, 1) := by decide +kernel
theorem d_L_law_368 : decode (bc mL_law) 368 = .ok (.iadd, 1) := by decide +kernel
theorem d_L_law_369 : decode (bc mL_law) 369 = .ok (.iaload, 1) := by decide +kernel
theorem d_L_law_370 : decode (bc mL_law) 370 = .ok (.invokevirtual 51, 3) := by decide +kernel
theorem d_L_law_373 : decode (bc mL_law) 373 = .ok (.aload_n 2, 1) := by decide +kernel
theorem d_L_law_374 : decode (bc mL_law) 374 = .ok (.aload_n 0, 1) := by decide +kernel
theorem d_L_law_375 : decode (bc mL_law) 375 = .ok (.iload_n 3, 1) := by decide +kernel
theorem d_L_law_376 : decode (bc mL_law) 376 = .ok (.iconst 1, 1) := by decide +kernel
theorem d_L_law_377 : decode (bc mL_law) 377 = .ok (.iadd, 1) := by decide +kernel
theorem d_L_law_378 : decode (bc mL_law) 378 = .ok (.iaload, 1) := by decide +kernel
theorem d_L_law_379 : decode (bc mL_law) 379 = .ok (.invokevirtual 54, 3) := by decide +kernel
theorem d_L_law_382 : decode (bc mL_law) 382 = .ok (.if_icmp .eq 397, 3) := by decide +kernel
theorem d_L_law_385 : decode (bc mL_law) 385 = .ok (.iconst 0, 1) := by decide +kernel
theorem d_L_law_386 : decode (bc mL_law) 386 = .ok (.ireturn, 1) := by decide +kernel
theorem d_L_law_387 : decode (bc mL_law) 387 = .ok (.aload_n 1, 1) := by decide +kernel
theorem d_L_law_388 : decode (bc mL_law) 388 = .ok (.aload_n 0, 1) := by decide +kernel
theorem d_L_law_389 : decode (bc mL_law) 389 = .ok (.iload_n 3, 1) := by decide +kernel
theorem d_L_law_390 : decode (bc mL_law) 390 = .ok (.iconst 1, 1) := by decide +kernel
theorem d_L_law_391 : decode (bc mL_law) 391 = .ok (.iadd, 1) := by decide +kernel
theorem d_L_law_392 : decode (bc mL_law) 392 = .ok (.iaload, 1) := by decide +kernel
theorem d_L_law_393 : decode (bc mL_law) 393 = .ok (.aload_n 0, 1) := by decide +kernel
theorem d_L_law_394 : decode (bc mL_law) 394 = .ok (.iload_n 3, 1) := by decide +kernel
theorem d_L_law_395 : decode (bc mL_law) 395 = .ok (.iconst 2, 1) := by decide +kernel
theorem d_L_law_396 : decode (bc mL_law) 396 = .ok (.iadd, 1) := by decide +kernel
theorem d_L_law_397 : decode (bc mL_law) 397 = .ok (.iaload, 1) := by decide +kernel
theorem d_L_law_398 : decode (bc mL_law) 398 = .ok (.invokevirtual 55, 3) := by decide +kernel
theorem d_L_law_401 : decode (bc mL_law) 401 = .ok (.aload_n 2, 1) := by decide +kernel
theorem d_L_law_402 : decode (bc mL_law) 402 = .ok (.aload_n 0, 1) := by decide +kernel
theorem d_L_law_403 : decode (bc mL_law) 403 = .ok (.iload_n 3, 1) := by decide +kernel
theorem d_L_law_404 : decode (bc mL_law) 404 = .ok (.iconst 1, 1) := by decide +kernel
theorem d_L_law_405 : decode (bc mL_law) 405 = .ok (.iadd, 1) := by decide +kernel
theorem d_L_law_406 : decode (bc mL_law) 406 = .ok (.iaload, 1) := by decide +kernel
theorem d_L_law_407 : decode (bc mL_law) 407 = .ok (.aload_n 0, 1) := by decide +kernel
theorem d_L_law_408 : decode (bc mL_law) 408 = .ok (.iload_n 3, 1) := by decide +kernel
theorem d_L_law_409 : decode (bc mL_law) 409 = .ok (.iconst 2, 1) := by decide +kernel
theorem d_L_law_410 : decode (bc mL_law) 410 = .ok (.iadd, 1) := by decide +kernel
theorem d_L_law_411 : decode (bc mL_law) 411 = .ok (.iaload, 1) := by decide +kernel
theorem d_L_law_412 : decode (bc mL_law) 412 = .ok (.invokevirtual 58, 3) := by decide +kernel
theorem d_L_law_415 : decode (bc mL_law) 415 = .ok (.if_icmp .eq 364, 3) := by decide +kernel
theorem d_L_law_418 : decode (bc mL_law) 418 = .ok (.iconst 0, 1) := by decide +kernel
theorem d_L_law_419 : decode (bc mL_law) 419 = .ok (.ireturn, 1) := by decide +kernel
theorem d_L_law_420 : decode (bc mL_law) 420 = .ok (.aload_n 1, 1) := by decide +kernel
theorem d_L_law_421 : decode (bc mL_law) 421 = .ok (.aload_n 0, 1) := by decide +kernel
theorem d_L_law_422 : decode (bc mL_law) 422 = .ok (.iload_n 3, 1) := by decide +kernel
theorem d_L_law_423 : decode (bc mL_law) 423 = .ok (.iconst 1, 1) := by decide +kernel
theorem d_L_law_424 : decode (bc mL_law) 424 = .ok (.iadd, 1) := by decide +kernel
theorem d_L_law_425 : decode (bc mL_law) 425 = .ok (.iaload, 1) := by decide +kernel
theorem d_L_law_426 : decode (bc mL_law) 426 = .ok (.aload_n 0, 1) := by decide +kernel
theorem d_L_law_427 : decode (bc mL_law) 427 = .ok (.iload_n 3, 1) := by decide +kernel
theorem d_L_law_428 : decode (bc mL_law) 428 = .ok (.iconst 2, 1) := by decide +kernel
theorem d_L_law_429 : decode (bc mL_law) 429 = .ok (.iadd, 1) := by decide +kernel
theorem d_L_law_430 : decode (bc mL_law) 430 = .ok (.iaload, 1) := by decide +kernel
theorem d_L_law_431 : decode (bc mL_law) 431 = .ok (.invokevirtual 59, 3) := by decide +kernel
theorem d_L_law_434 : decode (bc mL_law) 434 = .ok (.aload_n 2, 1) := by decide +kernel
theorem d_L_law_435 : decode (bc mL_law) 435 = .ok (.aload_n 0, 1) := by decide +kernel
theorem d_L_law_436 : decode (bc mL_law) 436 = .ok (.iload_n 3, 1) := by decide +kernel
theorem d_L_law_437 : decode (bc mL_law) 437 = .ok (.iconst 1, 1) := by decide +kernel
theorem d_L_law_438 : decode (bc mL_law) 438 = .ok (.iadd, 1) := by decide +kernel
theorem d_L_law_439 : decode (bc mL_law) 439 = .ok (.iaload, 1) := by decide +kernel
theorem d_L_law_440 : decode (bc mL_law) 440 = .ok (.aload_n 0, 1) := by decide +kernel
theorem d_L_law_441 : decode (bc mL_law) 441 = .ok (.iload_n 3, 1) := by decide +kernel
theorem d_L_law_442 : decode (bc mL_law) 442 = .ok (.iconst 2, 1) := by decide +kernel
theorem d_L_law_443 : decode (bc mL_law) 443 = .ok (.iadd, 1) := by decide +kernel
theorem d_L_law_444 : decode (bc mL_law) 444 = .ok (.iaload, 1) := by decide +kernel
theorem d_L_law_445 : decode (bc mL_law) 445 = .ok (.invokevirtual 62, 3) := by decide +kernel
theorem d_L_law_448 : decode (bc mL_law) 448 = .ok (.if_icmp .eq 331, 3) := by decide +kernel
theorem d_L_law_451 : decode (bc mL_law) 451 = .ok (.iconst 0, 1) := by decide +kernel
theorem d_L_law_452 : decode (bc mL_law) 452 = .ok (.ireturn, 1) := by decide +kernel
theorem d_L_law_453 : decode (bc mL_law) 453 = .ok (.aload_n 1, 1) := by decide +kernel
theorem d_L_law_454 : decode (bc mL_law) 454 = .ok (.aload_n 0, 1) := by decide +kernel
theorem d_L_law_455 : decode (bc mL_law) 455 = .ok (.iload_n 3, 1) := by decide +kernel
theorem d_L_law_456 : decode (bc mL_law) 456 = .ok (.iconst 1, 1) := by decide +kernel
theorem d_L_law_457 : decode (bc mL_law) 457 = .ok (.iadd, 1) := by decide +kernel
theorem d_L_law_458 : decode (bc mL_law) 458 = .ok (.iaload, 1) := by decide +kernel
theorem d_L_law_459 : decode (bc mL_law) 459 = .ok (.aload_n 0, 1) := by decide +kernel
theorem d_L_law_460 : decode (bc mL_law) 460 = .ok (.iload_n 3, 1) := by decide +kernel
theorem d_L_law_461 : decode (bc mL_law) 461 = .ok (.iconst 2, 1) := by decide +kernel
theorem d_L_law_462 : decode (bc mL_law) 462 = .ok (.iadd, 1) := by decide +kernel
theorem d_L_law_463 : decode (bc mL_law) 463 = .ok (.iaload, 1) := by decide +kernel
theorem d_L_law_464 : decode (bc mL_law) 464 = .ok (.invokevirtual 63, 3) := by decide +kernel
theorem d_L_law_467 : decode (bc mL_law) 467 = .ok (.aload_n 2, 1) := by decide +kernel
theorem d_L_law_468 : decode (bc mL_law) 468 = .ok (.aload_n 0, 1) := by decide +kernel
theorem d_L_law_469 : decode (bc mL_law) 469 = .ok (.iload_n 3, 1) := by decide +kernel
theorem d_L_law_470 : decode (bc mL_law) 470 = .ok (.iconst 1, 1) := by decide +kernel
theorem d_L_law_471 : decode (bc mL_law) 471 = .ok (.iadd, 1) := by decide +kernel
theorem d_L_law_472 : decode (bc mL_law) 472 = .ok (.iaload, 1) := by decide +kernel
theorem d_L_law_473 : decode (bc mL_law) 473 = .ok (.aload_n 0, 1) := by decide +kernel
theorem d_L_law_474 : decode (bc mL_law) 474 = .ok (.iload_n 3, 1) := by decide +kernel
theorem d_L_law_475 : decode (bc mL_law) 475 = .ok (.iconst 2, 1) := by decide +kernel
theorem d_L_law_476 : decode (bc mL_law) 476 = .ok (.iadd, 1) := by decide +kernel
theorem d_L_law_477 : decode (bc mL_law) 477 = .ok (.iaload, 1) := by decide +kernel
theorem d_L_law_478 : decode (bc mL_law) 478 = .ok (.invokevirtual 66, 3) := by decide +kernel
theorem d_L_law_481 : decode (bc mL_law) 481 = .ok (.if_icmp .eq 298, 3) := by decide +kernel
theorem d_L_law_484 : decode (bc mL_law) 484 = .ok (.iconst 0, 1) := by decide +kernel
theorem d_L_law_485 : decode (bc mL_law) 485 = .ok (.ireturn, 1) := by decide +kernel
theorem d_L_law_486 : decode (bc mL_law) 486 = .ok (.aload_n 1, 1) := by decide +kernel
theorem d_L_law_487 : decode (bc mL_law) 487 = .ok (.aload_n 0, 1) := by decide +kernel
theorem d_L_law_488 : decode (bc mL_law) 488 = .ok (.iload_n 3, 1) := by decide +kernel
theorem d_L_law_489 : decode (bc mL_law) 489 = .ok (.iconst 1, 1) := by decide +kernel
theorem d_L_law_490 : decode (bc mL_law) 490 = .ok (.iadd, 1) := by decide +kernel
theorem d_L_law_491 : decode (bc mL_law) 491 = .ok (.iaload, 1) := by decide +kernel
theorem d_L_law_492 : decode (bc mL_law) 492 = .ok (.aload_n 0, 1) := by decide +kernel
theorem d_L_law_493 : decode (bc mL_law) 493 = .ok (.iload_n 3, 1) := by decide +kernel
theorem d_L_law_494 : decode (bc mL_law) 494 = .ok (.iconst 2, 1) := by decide +kernel
theorem d_L_law_495 : decode (bc mL_law) 495 = .ok (.iadd, 1) := by decide +kernel
theorem d_L_law_496 : decode (bc mL_law) 496 = .ok (.iaload, 1) := by decide +kernel
theorem d_L_law_497 : decode (bc mL_law) 497 = .ok (.aload_n 0, 1) := by decide +kernel
theorem d_L_law_498 : decode (bc mL_law) 498 = .ok (.iload_n 3, 1) := by decide +kernel
theorem d_L_law_499 : decode (bc mL_law) 499 = .ok (.iconst 3, 1) := by decide +kernel
theorem d_L_law_500 : decode (bc mL_law) 500 = .ok (.iadd, 1) := by decide +kernel
theorem d_L_law_501 : decode (bc mL_law) 501 = .ok (.iaload, 1) := by decide +kernel
theorem d_L_law_502 : decode (bc mL_law) 502 = .ok (.invokevirtual 67, 3) := by decide +kernel
theorem d_L_law_505 : decode (bc mL_law) 505 = .ok (.aload_n 2, 1) := by decide +kernel
theorem d_L_law_506 : decode (bc mL_law) 506 = .ok (.aload_n 0, 1) := by decide +kernel
theorem d_L_law_507 : decode (bc mL_law) 507 = .ok (.iload_n 3, 1) := by decide +kernel
theorem d_L_law_508 : decode (bc mL_law) 508 = .ok (.iconst 1, 1) := by decide +kernel
theorem d_L_law_509 : decode (bc mL_law) 509 = .ok (.iadd, 1) := by decide +kernel
theorem d_L_law_510 : decode (bc mL_law) 510 = .ok (.iaload, 1) := by decide +kernel
theorem d_L_law_511 : decode (bc mL_law) 511 = .ok (.aload_n 0, 1) := by decide +kernel
theorem d_L_law_512 : decode (bc mL_law) 512 = .ok (.iload_n 3, 1) := by decide +kernel
theorem d_L_law_513 : decode (bc mL_law) 513 = .ok (.iconst 2, 1) := by decide +kernel
theorem d_L_law_514 : decode (bc mL_law) 514 = .ok (.iadd, 1) := by decide +kernel
theorem d_L_law_515 : decode (bc mL_law) 515 = .ok (.iaload, 1) := by decide +kernel
theorem d_L_law_516 : decode (bc mL_law) 516 = .ok (.aload_n 0, 1) := by decide +kernel
theorem d_L_law_517 : decode (bc mL_law) 517 = .ok (.iload_n 3, 1) := by decide +kernel
theorem d_L_law_518 : decode (bc mL_law) 518 = .ok (.iconst 3, 1) := by decide +kernel
theorem d_L_law_519 : decode (bc mL_law) 519 = .ok (.iadd, 1) := by decide +kernel
theorem d_L_law_520 : decode (bc mL_law) 520 = .ok (.iaload, 1) := by decide +kernel
theorem d_L_law_521 : decode (bc mL_law) 521 = .ok (.invokevirtual 71, 3) := by decide +kernel
theorem d_L_law_524 : decode (bc mL_law) 524 = .ok (.if_icmp .eq 255, 3) := by decide +kernel
theorem d_L_law_527 : decode (bc mL_law) 527 = .ok (.iconst 0, 1) := by decide +kernel
theorem d_L_law_528 : decode (bc mL_law) 528 = .ok (.ireturn, 1) := by decide +kernel
theorem d_L_law_529 : decode (bc mL_law) 529 = .ok (.aload_n 1, 1) := by decide +kernel
theorem d_L_law_530 : decode (bc mL_law) 530 = .ok (.aload_n 0, 1) := by decide +kernel
theorem d_L_law_531 : decode (bc mL_law) 531 = .ok (.iload_n 3, 1) := by decide +kernel
theorem d_L_law_532 : decode (bc mL_law) 532 = .ok (.iconst 1, 1) := by decide +kernel
theorem d_L_law_533 : decode (bc mL_law) 533 = .ok (.iadd, 1) := by decide +kernel
theorem d_L_law_534 : decode (bc mL_law) 534 = .ok (.iaload, 1) := by decide +kernel
theorem d_L_law_535 : decode (bc mL_law) 535 = .ok (.invokevirtual 72, 3) := by decide +kernel
theorem d_L_law_538 : decode (bc mL_law) 538 = .ok (.aload_n 2, 1) := by decide +kernel
theorem d_L_law_539 : decode (bc mL_law) 539 = .ok (.aload_n 0, 1) := by decide +kernel
theorem d_L_law_540 : decode (bc mL_law) 540 = .ok (.iload_n 3, 1) := by decide +kernel
theorem d_L_law_541 : decode (bc mL_law) 541 = .ok (.iconst 1, 1) := by decide +kernel
theorem d_L_law_542 : decode (bc mL_law) 542 = .ok (.iadd, 1) := by decide +kernel
theorem d_L_law_543 : decode (bc mL_law) 543 = .ok (.iaload, 1) := by decide +kernel
theorem d_L_law_544 : decode (bc mL_law) 544 = .ok (.invokevirtual 75, 3) := by decide +kernel
theorem d_L_law_547 : decode (bc mL_law) 547 = .ok (.if_icmp .eq 232, 3) := by decide +kernel
theorem d_L_law_550 : decode (bc mL_law) 550 = .ok (.iconst 0, 1) := by decide +kernel
theorem d_L_law_551 : decode (bc mL_law) 551 = .ok (.ireturn, 1) := by decide +kernel
theorem d_L_law_552 : decode (bc mL_law) 552 = .ok (.aload_n 1, 1) := by decide +kernel
theorem d_L_law_553 : decode (bc mL_law) 553 = .ok (.aload_n 0, 1) := by decide +kernel
theorem d_L_law_554 : decode (bc mL_law) 554 = .ok (.iload_n 3, 1) := by decide +kernel
theorem d_L_law_555 : decode (bc mL_law) 555 = .ok (.iconst 1, 1) := by decide +kernel
theorem d_L_law_556 : decode (bc mL_law) 556 = .ok (.iadd, 1) := by decide +kernel
theorem d_L_law_557 : decode (bc mL_law) 557 = .ok (.iaload, 1) := by decide +kernel
theorem d_L_law_558 : decode (bc mL_law) 558 = .ok (.invokevirtual 76, 3) := by decide +kernel
theorem d_L_law_561 : decode (bc mL_law) 561 = .ok (.aload_n 2, 1) := by decide +kernel
theorem d_L_law_562 : decode (bc mL_law) 562 = .ok (.aload_n 0, 1) := by decide +kernel
theorem d_L_law_563 : decode (bc mL_law) 563 = .ok (.iload_n 3, 1) := by decide +kernel
theorem d_L_law_564 : decode (bc mL_law) 564 = .ok (.iconst 1, 1) := by decide +kernel
theorem d_L_law_565 : decode (bc mL_law) 565 = .ok (.iadd, 1) := by decide +kernel
theorem d_L_law_566 : decode (bc mL_law) 566 = .ok (.iaload, 1) := by decide +kernel
theorem d_L_law_567 : decode (bc mL_law) 567 = .ok (.invokevirtual 79, 3) := by decide +kernel
theorem d_L_law_570 : decode (bc mL_law) 570 = .ok (.if_icmp .eq 209, 3) := by decide +kernel
theorem d_L_law_573 : decode (bc mL_law) 573 = .ok (.iconst 0, 1) := by decide +kernel
theorem d_L_law_574 : decode (bc mL_law) 574 = .ok (.ireturn, 1) := by decide +kernel
theorem d_L_law_575 : decode (bc mL_law) 575 = .ok (.aload_n 1, 1) := by decide +kernel
theorem d_L_law_576 : decode (bc mL_law) 576 = .ok (.aload_n 0, 1) := by decide +kernel
theorem d_L_law_577 : decode (bc mL_law) 577 = .ok (.iload_n 3, 1) := by decide +kernel
theorem d_L_law_578 : decode (bc mL_law) 578 = .ok (.iconst 1, 1) := by decide +kernel
theorem d_L_law_579 : decode (bc mL_law) 579 = .ok (.iadd, 1) := by decide +kernel
theorem d_L_law_580 : decode (bc mL_law) 580 = .ok (.iaload, 1) := by decide +kernel
theorem d_L_law_581 : decode (bc mL_law) 581 = .ok (.invokevirtual 80, 3) := by decide +kernel
theorem d_L_law_584 : decode (bc mL_law) 584 = .ok (.aload_n 2, 1) := by decide +kernel
theorem d_L_law_585 : decode (bc mL_law) 585 = .ok (.aload_n 0, 1) := by decide +kernel
theorem d_L_law_586 : decode (bc mL_law) 586 = .ok (.iload_n 3, 1) := by decide +kernel
theorem d_L_law_587 : decode (bc mL_law) 587 = .ok (.iconst 1, 1) := by decide +kernel
theorem d_L_law_588 : decode (bc mL_law) 588 = .ok (.iadd, 1) := by decide +kernel
theorem d_L_law_589 : decode (bc mL_law) 589 = .ok (.iaload, 1) := by decide +kernel
theorem d_L_law_590 : decode (bc mL_law) 590 = .ok (.invokevirtual 83, 3) := by decide +kernel
theorem d_L_law_593 : decode (bc mL_law) 593 = .ok (.if_icmp .eq 186, 3) := by decide +kernel
theorem d_L_law_596 : decode (bc mL_law) 596 = .ok (.iconst 0, 1) := by decide +kernel
theorem d_L_law_597 : decode (bc mL_law) 597 = .ok (.ireturn, 1) := by decide +kernel
theorem d_L_law_598 : decode (bc mL_law) 598 = .ok (.aload_n 1, 1) := by decide +kernel
theorem d_L_law_599 : decode (bc mL_law) 599 = .ok (.aload_n 0, 1) := by decide +kernel
theorem d_L_law_600 : decode (bc mL_law) 600 = .ok (.iload_n 3, 1) := by decide +kernel
theorem d_L_law_601 : decode (bc mL_law) 601 = .ok (.iconst 1, 1) := by decide +kernel
theorem d_L_law_602 : decode (bc mL_law) 602 = .ok (.iadd, 1) := by decide +kernel
theorem d_L_law_603 : decode (bc mL_law) 603 = .ok (.iaload, 1) := by decide +kernel
theorem d_L_law_604 : decode (bc mL_law) 604 = .ok (.invokevirtual 84, 3) := by decide +kernel
theorem d_L_law_607 : decode (bc mL_law) 607 = .ok (.aload_n 2, 1) := by decide +kernel
theorem d_L_law_608 : decode (bc mL_law) 608 = .ok (.aload_n 0, 1) := by decide +kernel
theorem d_L_law_609 : decode (bc mL_law) 609 = .ok (.iload_n 3, 1) := by decide +kernel
theorem d_L_law_610 : decode (bc mL_law) 610 = .ok (.iconst 1, 1) := by decide +kernel
theorem d_L_law_611 : decode (bc mL_law) 611 = .ok (.iadd, 1) := by decide +kernel
theorem d_L_law_612 : decode (bc mL_law) 612 = .ok (.iaload, 1) := by decide +kernel
theorem d_L_law_613 : decode (bc mL_law) 613 = .ok (.invokevirtual 87, 3) := by decide +kernel
theorem d_L_law_616 : decode (bc mL_law) 616 = .ok (.if_icmp .eq 163, 3) := by decide +kernel
theorem d_L_law_619 : decode (bc mL_law) 619 = .ok (.iconst 0, 1) := by decide +kernel
theorem d_L_law_620 : decode (bc mL_law) 620 = .ok (.ireturn, 1) := by decide +kernel
theorem d_L_law_621 : decode (bc mL_law) 621 = .ok (.aload_n 1, 1) := by decide +kernel
theorem d_L_law_622 : decode (bc mL_law) 622 = .ok (.aload_n 0, 1) := by decide +kernel
theorem d_L_law_623 : decode (bc mL_law) 623 = .ok (.iload_n 3, 1) := by decide +kernel
theorem d_L_law_624 : decode (bc mL_law) 624 = .ok (.iconst 1, 1) := by decide +kernel
theorem d_L_law_625 : decode (bc mL_law) 625 = .ok (.iadd, 1) := by decide +kernel
theorem d_L_law_626 : decode (bc mL_law) 626 = .ok (.iaload, 1) := by decide +kernel
theorem d_L_law_627 : decode (bc mL_law) 627 = .ok (.aload_n 0, 1) := by decide +kernel
theorem d_L_law_628 : decode (bc mL_law) 628 = .ok (.iload_n 3, 1) := by decide +kernel
theorem d_L_law_629 : decode (bc mL_law) 629 = .ok (.iconst 2, 1) := by decide +kernel
theorem d_L_law_630 : decode (bc mL_law) 630 = .ok (.iadd, 1) := by decide +kernel
theorem d_L_law_631 : decode (bc mL_law) 631 = .ok (.iaload, 1) := by decide +kernel
theorem d_L_law_632 : decode (bc mL_law) 632 = .ok (.invokevirtual 88, 3) := by decide +kernel
theorem d_L_law_635 : decode (bc mL_law) 635 = .ok (.aload_n 2, 1) := by decide +kernel
theorem d_L_law_636 : decode (bc mL_law) 636 = .ok (.aload_n 0, 1) := by decide +kernel
theorem d_L_law_637 : decode (bc mL_law) 637 = .ok (.iload_n 3, 1) := by decide +kernel
theorem d_L_law_638 : decode (bc mL_law) 638 = .ok (.iconst 1, 1) := by decide +kernel
theorem d_L_law_639 : decode (bc mL_law) 639 = .ok (.iadd, 1) := by decide +kernel
theorem d_L_law_640 : decode (bc mL_law) 640 = .ok (.iaload, 1) := by decide +kernel
theorem d_L_law_641 : decode (bc mL_law) 641 = .ok (.aload_n 0, 1) := by decide +kernel
theorem d_L_law_642 : decode (bc mL_law) 642 = .ok (.iload_n 3, 1) := by decide +kernel
theorem d_L_law_643 : decode (bc mL_law) 643 = .ok (.iconst 2, 1) := by decide +kernel
theorem d_L_law_644 : decode (bc mL_law) 644 = .ok (.iadd, 1) := by decide +kernel
theorem d_L_law_645 : decode (bc mL_law) 645 = .ok (.iaload, 1) := by decide +kernel
theorem d_L_law_646 : decode (bc mL_law) 646 = .ok (.invokevirtual 91, 3) := by decide +kernel
theorem d_L_law_649 : decode (bc mL_law) 649 = .ok (.if_icmp .eq 130, 3) := by decide +kernel
theorem d_L_law_652 : decode (bc mL_law) 652 = .ok (.iconst 0, 1) := by decide +kernel
theorem d_L_law_653 : decode (bc mL_law) 653 = .ok (.ireturn, 1) := by decide +kernel
theorem d_L_law_654 : decode (bc mL_law) 654 = .ok (.aload_n 1, 1) := by decide +kernel
theorem d_L_law_655 : decode (bc mL_law) 655 = .ok (.aload_n 0, 1) := by decide +kernel
theorem d_L_law_656 : decode (bc mL_law) 656 = .ok (.iload_n 3, 1) := by decide +kernel
theorem d_L_law_657 : decode (bc mL_law) 657 = .ok (.iconst 1, 1) := by decide +kernel
theorem d_L_law_658 : decode (bc mL_law) 658 = .ok (.iadd, 1) := by decide +kernel
theorem d_L_law_659 : decode (bc mL_law) 659 = .ok (.iaload, 1) := by decide +kernel
theorem d_L_law_660 : decode (bc mL_law) 660 = .ok (.aload_n 0, 1) := by decide +kernel
theorem d_L_law_661 : decode (bc mL_law) 661 = .ok (.iload_n 3, 1) := by decide +kernel
theorem d_L_law_662 : decode (bc mL_law) 662 = .ok (.iconst 2, 1) := by decide +kernel
theorem d_L_law_663 : decode (bc mL_law) 663 = .ok (.iadd, 1) := by decide +kernel
theorem d_L_law_664 : decode (bc mL_law) 664 = .ok (.iaload, 1) := by decide +kernel
theorem d_L_law_665 : decode (bc mL_law) 665 = .ok (.aload_n 0, 1) := by decide +kernel
theorem d_L_law_666 : decode (bc mL_law) 666 = .ok (.iload_n 3, 1) := by decide +kernel
theorem d_L_law_667 : decode (bc mL_law) 667 = .ok (.iconst 3, 1) := by decide +kernel
theorem d_L_law_668 : decode (bc mL_law) 668 = .ok (.iadd, 1) := by decide +kernel
theorem d_L_law_669 : decode (bc mL_law) 669 = .ok (.iaload, 1) := by decide +kernel
theorem d_L_law_670 : decode (bc mL_law) 670 = .ok (.invokevirtual 92, 3) := by decide +kernel
theorem d_L_law_673 : decode (bc mL_law) 673 = .ok (.aload_n 2, 1) := by decide +kernel
theorem d_L_law_674 : decode (bc mL_law) 674 = .ok (.aload_n 0, 1) := by decide +kernel
theorem d_L_law_675 : decode (bc mL_law) 675 = .ok (.iload_n 3, 1) := by decide +kernel
theorem d_L_law_676 : decode (bc mL_law) 676 = .ok (.iconst 1, 1) := by decide +kernel
theorem d_L_law_677 : decode (bc mL_law) 677 = .ok (.iadd, 1) := by decide +kernel
theorem d_L_law_678 : decode (bc mL_law) 678 = .ok (.iaload, 1) := by decide +kernel
theorem d_L_law_679 : decode (bc mL_law) 679 = .ok (.aload_n 0, 1) := by decide +kernel
theorem d_L_law_680 : decode (bc mL_law) 680 = .ok (.iload_n 3, 1) := by decide +kernel
theorem d_L_law_681 : decode (bc mL_law) 681 = .ok (.iconst 2, 1) := by decide +kernel
theorem d_L_law_682 : decode (bc mL_law) 682 = .ok (.iadd, 1) := by decide +kernel
theorem d_L_law_683 : decode (bc mL_law) 683 = .ok (.iaload, 1) := by decide +kernel
theorem d_L_law_684 : decode (bc mL_law) 684 = .ok (.aload_n 0, 1) := by decide +kernel
theorem d_L_law_685 : decode (bc mL_law) 685 = .ok (.iload_n 3, 1) := by decide +kernel
theorem d_L_law_686 : decode (bc mL_law) 686 = .ok (.iconst 3, 1) := by decide +kernel
theorem d_L_law_687 : decode (bc mL_law) 687 = .ok (.iadd, 1) := by decide +kernel
theorem d_L_law_688 : decode (bc mL_law) 688 = .ok (.iaload, 1) := by decide +kernel
theorem d_L_law_689 : decode (bc mL_law) 689 = .ok (.invokevirtual 95, 3) := by decide +kernel
theorem d_L_law_692 : decode (bc mL_law) 692 = .ok (.if_icmp .eq 87, 3) := by decide +kernel
theorem d_L_law_695 : decode (bc mL_law) 695 = .ok (.iconst 0, 1) := by decide +kernel
theorem d_L_law_696 : decode (bc mL_law) 696 = .ok (.ireturn, 1) := by decide +kernel
theorem d_L_law_697 : decode (bc mL_law) 697 = .ok (.aload_n 1, 1) := by decide +kernel
theorem d_L_law_698 : decode (bc mL_law) 698 = .ok (.aload_n 0, 1) := by decide +kernel
theorem d_L_law_699 : decode (bc mL_law) 699 = .ok (.iload_n 3, 1) := by decide +kernel
theorem d_L_law_700 : decode (bc mL_law) 700 = .ok (.iconst 1, 1) := by decide +kernel
theorem d_L_law_701 : decode (bc mL_law) 701 = .ok (.iadd, 1) := by decide +kernel
theorem d_L_law_702 : decode (bc mL_law) 702 = .ok (.iaload, 1) := by decide +kernel
theorem d_L_law_703 : decode (bc mL_law) 703 = .ok (.invokevirtual 96, 3) := by decide +kernel
theorem d_L_law_706 : decode (bc mL_law) 706 = .ok (.aload_n 2, 1) := by decide +kernel
theorem d_L_law_707 : decode (bc mL_law) 707 = .ok (.aload_n 0, 1) := by decide +kernel
theorem d_L_law_708 : decode (bc mL_law) 708 = .ok (.iload_n 3, 1) := by decide +kernel
theorem d_L_law_709 : decode (bc mL_law) 709 = .ok (.iconst 1, 1) := by decide +kernel
theorem d_L_law_710 : decode (bc mL_law) 710 = .ok (.iadd, 1) := by decide +kernel
theorem d_L_law_711 : decode (bc mL_law) 711 = .ok (.iaload, 1) := by decide +kernel
theorem d_L_law_712 : decode (bc mL_law) 712 = .ok (.invokevirtual 99, 3) := by decide +kernel
theorem d_L_law_715 : decode (bc mL_law) 715 = .ok (.if_icmp .eq 64, 3) := by decide +kernel
theorem d_L_law_718 : decode (bc mL_law) 718 = .ok (.iconst 0, 1) := by decide +kernel
theorem d_L_law_719 : decode (bc mL_law) 719 = .ok (.ireturn, 1) := by decide +kernel
theorem d_L_law_720 : decode (bc mL_law) 720 = .ok (.aload_n 1, 1) := by decide +kernel
theorem d_L_law_721 : decode (bc mL_law) 721 = .ok (.invokevirtual 100, 3) := by decide +kernel
theorem d_L_law_724 : decode (bc mL_law) 724 = .ok (.aload_n 2, 1) := by decide +kernel
theorem d_L_law_725 : decode (bc mL_law) 725 = .ok (.invokevirtual 103, 3) := by decide +kernel
theorem d_L_law_728 : decode (bc mL_law) 728 = .ok (.if_icmp .eq 51, 3) := by decide +kernel
theorem d_L_law_731 : decode (bc mL_law) 731 = .ok (.iconst 0, 1) := by decide +kernel
theorem d_L_law_732 : decode (bc mL_law) 732 = .ok (.ireturn, 1) := by decide +kernel
theorem d_L_law_733 : decode (bc mL_law) 733 = .ok (.aload_n 1, 1) := by decide +kernel
theorem d_L_law_734 : decode (bc mL_law) 734 = .ok (.aload_n 0, 1) := by decide +kernel
theorem d_L_law_735 : decode (bc mL_law) 735 = .ok (.iload_n 3, 1) := by decide +kernel
theorem d_L_law_736 : decode (bc mL_law) 736 = .ok (.iconst 1, 1) := by decide +kernel
theorem d_L_law_737 : decode (bc mL_law) 737 = .ok (.iadd, 1) := by decide +kernel
theorem d_L_law_738 : decode (bc mL_law) 738 = .ok (.iaload, 1) := by decide +kernel
theorem d_L_law_739 : decode (bc mL_law) 739 = .ok (.invokevirtual 104, 3) := by decide +kernel
theorem d_L_law_742 : decode (bc mL_law) 742 = .ok (.aload_n 2, 1) := by decide +kernel
theorem d_L_law_743 : decode (bc mL_law) 743 = .ok (.aload_n 0, 1) := by decide +kernel
theorem d_L_law_744 : decode (bc mL_law) 744 = .ok (.iload_n 3, 1) := by decide +kernel
theorem d_L_law_745 : decode (bc mL_law) 745 = .ok (.iconst 1, 1) := by decide +kernel
theorem d_L_law_746 : decode (bc mL_law) 746 = .ok (.iadd, 1) := by decide +kernel
theorem d_L_law_747 : decode (bc mL_law) 747 = .ok (.iaload, 1) := by decide +kernel
theorem d_L_law_748 : decode (bc mL_law) 748 = .ok (.invokevirtual 107, 3) := by decide +kernel
theorem d_L_law_751 : decode (bc mL_law) 751 = .ok (.if_icmp .eq 28, 3) := by decide +kernel
theorem d_L_law_754 : decode (bc mL_law) 754 = .ok (.iconst 0, 1) := by decide +kernel
theorem d_L_law_755 : decode (bc mL_law) 755 = .ok (.ireturn, 1) := by decide +kernel
theorem d_L_law_756 : decode (bc mL_law) 756 = .ok (.aload_n 1, 1) := by decide +kernel
theorem d_L_law_757 : decode (bc mL_law) 757 = .ok (.aload_n 0, 1) := by decide +kernel
theorem d_L_law_758 : decode (bc mL_law) 758 = .ok (.iload_n 3, 1) := by decide +kernel
theorem d_L_law_759 : decode (bc mL_law) 759 = .ok (.iconst 1, 1) := by decide +kernel
theorem d_L_law_760 : decode (bc mL_law) 760 = .ok (.iadd, 1) := by decide +kernel
theorem d_L_law_761 : decode (bc mL_law) 761 = .ok (.iaload, 1) := by decide +kernel
theorem d_L_law_762 : decode (bc mL_law) 762 = .ok (.invokevirtual 108, 3) := by decide +kernel
theorem d_L_law_765 : decode (bc mL_law) 765 = .ok (.aload_n 2, 1) := by decide +kernel
theorem d_L_law_766 : decode (bc mL_law) 766 = .ok (.aload_n 0, 1) := by decide +kernel
theorem d_L_law_767 : decode (bc mL_law) 767 = .ok (.iload_n 3, 1) := by decide +kernel
theorem d_L_law_768 : decode (bc mL_law) 768 = .ok (.iconst 1, 1) := by decide +kernel
theorem d_L_law_769 : decode (bc mL_law) 769 = .ok (.iadd, 1) := by decide +kernel
theorem d_L_law_770 : decode (bc mL_law) 770 = .ok (.iaload, 1) := by decide +kernel
theorem d_L_law_771 : decode (bc mL_law) 771 = .ok (.invokevirtual 111, 3) := by decide +kernel
theorem d_L_law_774 : decode (bc mL_law) 774 = .ok (.if_icmp .eq 5, 3) := by decide +kernel
theorem d_L_law_777 : decode (bc mL_law) 777 = .ok (.iconst 0, 1) := by decide +kernel
theorem d_L_law_778 : decode (bc mL_law) 778 = .ok (.ireturn, 1) := by decide +kernel
theorem d_L_law_779 : decode (bc mL_law) 779 = .ok (.iinc 3 4, 3) := by decide +kernel
theorem d_L_law_782 : decode (bc mL_law) 782 = .ok (.goto (-764), 3) := by decide +kernel
theorem d_L_law_785 : decode (bc mL_law) 785 = .ok (.iconst 1, 1) := by decide +kernel
theorem d_L_law_786 : decode (bc mL_law) 786 = .ok (.ireturn, 1) := by decide +kernel
