theorem dX12_prove_43 : decode cX12_prove 43 = .ok (.ireturn, 1) := by decide +kernel
theorem dX12_prove_44 : decode cX12_prove 44 = .ok (.aload_n 0, 1) := by decide +kernel
theorem dX12_prove_45 : decode cX12_prove 45 = .ok (.getfield 97, 3) := by decide +kernel
theorem dX12_prove_48 : decode cX12_prove 48 = .ok (.iload_n 1, 1) := by decide +kernel
theorem dX12_prove_49 : decode cX12_prove 49 = .ok (.iconst 1, 1) := by decide +kernel
theorem dX12_prove_50 : decode cX12_prove 50 = .ok (.iastore, 1) := by decide +kernel
theorem dX12_prove_51 : decode cX12_prove 51 = .ok (.aload_n 0, 1) := by decide +kernel
theorem dX12_prove_52 : decode cX12_prove 52 = .ok (.getfield 100, 3) := by decide +kernel
theorem dX12_prove_55 : decode cX12_prove 55 = .ok (.iload_n 1, 1) := by decide +kernel
theorem dX12_prove_56 : decode cX12_prove 56 = .ok (.aload_n 0, 1) := by decide +kernel
theorem dX12_prove_57 : decode cX12_prove 57 = .ok (.getfield 259, 3) := by decide +kernel
theorem dX12_prove_60 : decode cX12_prove 60 = .ok (.iastore, 1) := by decide +kernel
theorem dX12_prove_61 : decode cX12_prove 61 = .ok (.iconst 0, 1) := by decide +kernel
theorem dX12_prove_62 : decode cX12_prove 62 = .ok (.istore_n 3, 1) := by decide +kernel
theorem dX12_prove_63 : decode cX12_prove 63 = .ok (.iload_n 3, 1) := by decide +kernel
theorem dX12_prove_64 : decode cX12_prove 64 = .ok (.bipush 60, 2) := by decide +kernel
theorem dX12_prove_66 : decode cX12_prove 66 = .ok (.if_icmp .ge 38, 3) := by decide +kernel
theorem dX12_prove_69 : decode cX12_prove 69 = .ok (.aload_n 0, 1) := by decide +kernel
theorem dX12_prove_70 : decode cX12_prove 70 = .ok (.getfield 103, 3) := by decide +kernel
theorem dX12_prove_73 : decode cX12_prove 73 = .ok (.bipush 60, 2) := by decide +kernel
theorem dX12_prove_75 : decode cX12_prove 75 = .ok (.iload_n 1, 1) := by decide +kernel
theorem dX12_prove_76 : decode cX12_prove 76 = .ok (.imul, 1) := by decide +kernel
theorem dX12_prove_77 : decode cX12_prove 77 = .ok (.iload_n 3, 1) := by decide +kernel
theorem dX12_prove_78 : decode cX12_prove 78 = .ok (.iadd, 1) := by decide +kernel
theorem dX12_prove_79 : decode cX12_prove 79 = .ok (.iload_n 3, 1) := by decide +kernel
theorem dX12_prove_80 : decode cX12_prove 80 = .ok (.aload_n 0, 1) := by decide +kernel
theorem dX12_prove_81 : decode cX12_prove 81 = .ok (.getfield 259, 3) := by decide +kernel
theorem dX12_prove_84 : decode cX12_prove 84 = .ok (.if_icmp .ge 12, 3) := by decide +kernel
theorem dX12_prove_87 : decode cX12_prove 87 = .ok (.aload_n 0, 1) := by decide +kernel
theorem dX12_prove_88 : decode cX12_prove 88 = .ok (.getfield 44, 3) := by decide +kernel
theorem dX12_prove_91 : decode cX12_prove 91 = .ok (.iload_n 3, 1) := by decide +kernel
theorem dX12_prove_92 : decode cX12_prove 92 = .ok (.iaload, 1) := by decide +kernel
theorem dX12_prove_93 : decode cX12_prove 93 = .ok (.goto 4, 3) := by decide +kernel
theorem dX12_prove_96 : decode cX12_prove 96 = .ok (.iconst 0, 1) := by decide +kernel
theorem dX12_prove_97 : decode cX12_prove 97 = .ok (.iastore, 1) := by decide +kernel
theorem dX12_prove_98 : decode cX12_prove 98 = .ok (.iinc 3 1, 3) := by decide +kernel
theorem dX12_prove_101 : decode cX12_prove 101 = .ok (.goto (-38), 3) := by decide +kernel
theorem dX12_prove_104 : decode cX12_prove 104 = .ok (.aload_n 0, 1) := by decide +kernel
theorem dX12_prove_105 : decode cX12_prove 105 = .ok (.getfield 259, 3) := by decide +kernel
theorem dX12_prove_108 : decode cX12_prove 108 = .ok (.ireturn, 1) := by decide +kernel
theorem dX12_isTold_0 : decode cX12_isTold 0 = .ok (.aload_n 0, 1) := by decide +kernel
theorem dX12_isTold_1 : decode cX12_isTold 1 = .ok (.getfield 280, 3) := by decide +kernel
theorem dX12_isTold_4 : decode cX12_isTold 4 = .ok (.aload_n 0, 1) := by decide +kernel
theorem dX12_isTold_5 : decode cX12_isTold 5 = .ok (.getfield 100, 3) := by decide +kernel
theorem dX12_isTold_8 : decode cX12_isTold 8 = .ok (.iload_n 1, 1) := by decide +kernel
theorem dX12_isTold_9 : decode cX12_isTold 9 = .ok (.iaload, 1) := by decide +kernel
theorem dX12_isTold_10 : decode cX12_isTold 10 = .ok (.if_icmp .lt 5, 3) := by decide +kernel
theorem dX12_isTold_13 : decode cX12_isTold 13 = .ok (.iconst 0, 1) := by decide +kernel
theorem dX12_isTold_14 : decode cX12_isTold 14 = .ok (.ireturn, 1) := by decide +kernel
theorem dX12_isTold_15 : decode cX12_isTold 15 = .ok (.aload_n 0, 1) := by decide +kernel
theorem dX12_isTold_16 : decode cX12_isTold 16 = .ok (.getfield 103, 3) := by decide +kernel
theorem dX12_isTold_19 : decode cX12_isTold 19 = .ok (.bipush 60, 2) := by decide +kernel
theorem dX12_isTold_21 : decode cX12_isTold 21 = .ok (.iload_n 1, 1) := by decide +kernel
theorem dX12_isTold_22 : decode cX12_isTold 22 = .ok (.imul, 1) := by decide +kernel
theorem dX12_isTold_23 : decode cX12_isTold 23 = .ok (.aload_n 0, 1) := by decide +kernel
theorem dX12_isTold_24 : decode cX12_isTold 24 = .ok (.getfield 280, 3) := by decide +kernel
theorem dX12_isTold_27 : decode cX12_isTold 27 = .ok (.iadd, 1) := by decide +kernel
theorem dX12_isTold_28 : decode cX12_isTold 28 = .ok (.iaload, 1) := by decide +kernel
theorem dX12_isTold_29 : decode cX12_isTold 29 = .ok (.istore 5, 2) := by decide +kernel
theorem dX12_isTold_31 : decode cX12_isTold 31 = .ok (.iload 5, 2) := by decide +kernel
theorem dX12_isTold_33 : decode cX12_isTold 33 = .ok (.iconst (-1), 1) := by decide +kernel
theorem dX12_isTold_34 : decode cX12_isTold 34 = .ok (.if_icmp .ne 17, 3) := by decide +kernel
theorem dX12_isTold_37 : decode cX12_isTold 37 = .ok (.aload_n 0, 1) := by decide +kernel
theorem dX12_isTold_38 : decode cX12_isTold 38 = .ok (.iload_n 2, 1) := by decide +kernel
theorem dX12_isTold_39 : decode cX12_isTold 39 = .ok (.invokevirtual 203, 3) := by decide +kernel
theorem dX12_isTold_42 : decode cX12_isTold 42 = .ok (.iconst 2, 1) := by decide +kernel
theorem dX12_isTold_43 : decode cX12_isTold 43 = .ok (.iload_n 3, 1) := by decide +kernel
theorem dX12_isTold_44 : decode cX12_isTold 44 = .ok (.imul, 1) := by decide +kernel
theorem dX12_isTold_45 : decode cX12_isTold 45 = .ok (.if_icmp .gt 36, 3) := by decide +kernel
theorem dX12_isTold_48 : decode cX12_isTold 48 = .ok (.goto 31, 3) := by decide +kernel
theorem dX12_isTold_51 : decode cX12_isTold 51 = .ok (.aload_n 0, 1) := by decide +kernel
theorem dX12_isTold_52 : decode cX12_isTold 52 = .ok (.iload 5, 2) := by decide +kernel
theorem dX12_isTold_54 : decode cX12_isTold 54 = .ok (.invokevirtual 145, 3) := by decide +kernel
theorem dX12_isTold_57 : decode cX12_isTold 57 = .ok (.ifCond .eq 22, 3) := by decide +kernel
theorem dX12_isTold_60 : decode cX12_isTold 60 = .ok (.iload_n 2, 1) := by decide +kernel
theorem dX12_isTold_61 : decode cX12_isTold 61 = .ok (.iload 5, 2) := by decide +kernel
theorem dX12_isTold_63 : decode cX12_isTold 63 = .ok (.invokestatic 118, 3) := by decide +kernel
theorem dX12_isTold_66 : decode cX12_isTold 66 = .ok (.ifCond .eq 13, 3) := by decide +kernel
theorem dX12_isTold_69 : decode cX12_isTold 69 = .ok (.aload_n 0, 1) := by decide +kernel
theorem dX12_isTold_70 : decode cX12_isTold 70 = .ok (.iload 5, 2) := by decide +kernel
theorem dX12_isTold_72 : decode cX12_isTold 72 = .ok (.iload_n 2, 1) := by decide +kernel
theorem dX12_isTold_73 : decode cX12_isTold 73 = .ok (.invokevirtual 228, 3) := by decide +kernel
theorem dX12_isTold_76 : decode cX12_isTold 76 = .ok (.ifCond .ne 5, 3) := by decide +kernel
theorem dX12_isTold_79 : decode cX12_isTold 79 = .ok (.iconst 0, 1) := by decide +kernel
theorem dX12_isTold_80 : decode cX12_isTold 80 = .ok (.ireturn, 1) := by decide +kernel
theorem dX12_isTold_81 : decode cX12_isTold 81 = .ok (.aload_n 0, 1) := by decide +kernel
theorem dX12_isTold_82 : decode cX12_isTold 82 = .ok (.dup, 1) := by decide +kernel
theorem dX12_isTold_83 : decode cX12_isTold 83 = .ok (.getfield 280, 3) := by decide +kernel
theorem dX12_isTold_86 : decode cX12_isTold 86 = .ok (.iconst 1, 1) := by decide +kernel
theorem dX12_isTold_87 : decode cX12_isTold 87 = .ok (.iadd, 1) := by decide +kernel
theorem dX12_isTold_88 : decode cX12_isTold 88 = .ok (.putfield 280, 3) := by decide +kernel
theorem dX12_isTold_91 : decode cX12_isTold 91 = .ok (.iconst 0, 1) := by decide +kernel
theorem dX12_isTold_92 : decode cX12_isTold 92 = .ok (.istore 6, 2) := by decide +kernel
theorem dX12_isTold_94 : decode cX12_isTold 94 = .ok (.iload 5, 2) := by decide +kernel
theorem dX12_isTold_96 : decode cX12_isTold 96 = .ok (.iconst (-1), 1) := by decide +kernel
theorem dX12_isTold_97 : decode cX12_isTold 97 = .ok (.if_icmp .eq 74, 3) := by decide +kernel
theorem dX12_isTold_100 : decode cX12_isTold 100 = .ok (.iload 6, 2) := by decide +kernel
theorem dX12_isTold_102 : decode cX12_isTold 102 = .ok (.iconst 2, 1) := by decide +kernel
theorem dX12_isTold_103 : decode cX12_isTold 103 = .ok (.if_icmp .ge 68, 3) := by decide +kernel
theorem dX12_isTold_106 : decode cX12_isTold 106 = .ok (.iload 6, 2) := by decide +kernel
theorem dX12_isTold_108 : decode cX12_isTold 108 = .ok (.iload 4, 2) := by decide +kernel
theorem dX12_isTold_110 : decode cX12_isTold 110 = .ok (.iconst 2, 1) := by decide +kernel
theorem dX12_isTold_111 : decode cX12_isTold 111 = .ok (.irem, 1) := by decide +kernel
theorem dX12_isTold_112 : decode cX12_isTold 112 = .ok (.if_icmp .ne 10, 3) := by decide +kernel
theorem dX12_isTold_115 : decode cX12_isTold 115 = .ok (.iconst 1, 1) := by decide +kernel
theorem dX12_isTold_116 : decode cX12_isTold 116 = .ok (.iload 5, 2) := by decide +kernel
theorem dX12_isTold_118 : decode cX12_isTold 118 = .ok (.ishl, 1) := by decide +kernel
theorem dX12_isTold_119 : decode cX12_isTold 119 = .ok (.goto 12, 3) := by decide +kernel
theorem dX12_isTold_122 : decode cX12_isTold 122 = .ok (.aload_n 0, 1) := by decide +kernel
theorem dX12_isTold_123 : decode cX12_isTold 123 = .ok (.getfield 20, 3) := by decide +kernel
theorem dX12_isTold_126 : decode cX12_isTold 126 = .ok (.iload 5, 2) := by decide +kernel
theorem dX12_isTold_128 : decode cX12_isTold 128 = .ok (.iaload, 1) := by decide +kernel
theorem dX12_isTold_129 : decode cX12_isTold 129 = .ok (.iload_n 2, 1) := by decide +kernel
theorem dX12_isTold_130 : decode cX12_isTold 130 = .ok (.iand, 1) := by decide +kernel
theorem dX12_isTold_131 : decode cX12_isTold 131 = .ok (.istore 7, 2) := by decide +kernel
theorem dX12_isTold_133 : decode cX12_isTold 133 = .ok (.aload_n 0, 1) := by decide +kernel
theorem dX12_isTold_134 : decode cX12_isTold 134 = .ok (.iload_n 1, 1) := by decide +kernel
theorem dX12_isTold_135 : decode cX12_isTold 135 = .ok (.iload_n 2, 1) := by decide +kernel
theorem dX12_isTold_136 : decode cX12_isTold 136 = .ok (.iload 7, 2) := by decide +kernel
theorem dX12_isTold_138 : decode cX12_isTold 138 = .ok (.iconst 1, 1) := by decide +kernel
theorem dX12_isTold_139 : decode cX12_isTold 139 = .ok (.iload 5, 2) := by decide +kernel
theorem dX12_isTold_141 : decode cX12_isTold 141 = .ok (.ishl, 1) := by decide +kernel
theorem dX12_isTold_142 : decode cX12_isTold 142 = .ok (.ior, 1) := by decide +kernel
theorem dX12_isTold_143 : decode cX12_isTold 143 = .ok (.iconst (-1), 1) := by decide +kernel
theorem dX12_isTold_144 : decode cX12_isTold 144 = .ok (.ixor, 1) := by decide +kernel
theorem dX12_isTold_145 : decode cX12_isTold 145 = .ok (.iand, 1) := by decide +kernel
theorem dX12_isTold_146 : decode cX12_isTold 146 = .ok (.iload_n 3, 1) := by decide +kernel
theorem dX12_isTold_147 : decode cX12_isTold 147 = .ok (.iload 7, 2) := by decide +kernel
theorem dX12_isTold_149 : decode cX12_isTold 149 = .ok (.invokestatic 133, 3) := by decide +kernel
theorem dX12_isTold_152 : decode cX12_isTold 152 = .ok (.isub, 1) := by decide +kernel
theorem dX12_isTold_153 : decode cX12_isTold 153 = .ok (.iload 4, 2) := by decide +kernel
theorem dX12_isTold_155 : decode cX12_isTold 155 = .ok (.iconst 1, 1) := by decide +kernel
theorem dX12_isTold_156 : decode cX12_isTold 156 = .ok (.iadd, 1) := by decide +kernel
theorem dX12_isTold_157 : decode cX12_isTold 157 = .ok (.invokevirtual 283, 3) := by decide +kernel
theorem dX12_isTold_160 : decode cX12_isTold 160 = .ok (.ifCond .ne 5, 3) := by decide +kernel
theorem dX12_isTold_163 : decode cX12_isTold 163 = .ok (.iconst 0, 1) := by decide +kernel
theorem dX12_isTold_164 : decode cX12_isTold 164 = .ok (.ireturn, 1) := by decide +kernel
theorem dX12_isTold_165 : decode cX12_isTold 165 = .ok (.iinc 6 1, 3) := by decide +kernel
theorem dX12_isTold_168 : decode cX12_isTold 168 = .ok (.goto (-74), 3) := by decide +kernel
theorem dX12_isTold_171 : decode cX12_isTold 171 = .ok (.iconst 1, 1) := by decide +kernel
theorem dX12_isTold_172 : decode cX12_isTold 172 = .ok (.ireturn, 1) := by decide +kernel
theorem dX12_proves_0 : decode cX12_proves 0 = .ok (.iload_n 1, 1) := by decide +kernel
theorem dX12_proves_1 : decode cX12_proves 1 = .ok (.invokestatic 253, 3) := by decide +kernel
theorem dX12_proves_4 : decode cX12_proves 4 = .ok (.ifCond .eq 13, 3) := by decide +kernel
theorem dX12_proves_7 : decode cX12_proves 7 = .ok (.iload_n 2, 1) := by decide +kernel
theorem dX12_proves_8 : decode cX12_proves 8 = .ok (.iconst 0, 1) := by decide +kernel
theorem dX12_proves_9 : decode cX12_proves 9 = .ok (.bipush 12, 2) := by decide +kernel
theorem dX12_proves_11 : decode cX12_proves 11 = .ok (.invokestatic 125, 3) := by decide +kernel
theorem dX12_proves_14 : decode cX12_proves 14 = .ok (.ifCond .ne 6, 3) := by decide +kernel
theorem dX12_proves_17 : decode cX12_proves 17 = .ok (.bipush (-2), 2) := by decide +kernel
theorem dX12_proves_19 : decode cX12_proves 19 = .ok (.ireturn, 1) := by decide +kernel
theorem dX12_proves_20 : decode cX12_proves 20 = .ok (.aload_n 0, 1) := by decide +kernel
theorem dX12_proves_21 : decode cX12_proves 21 = .ok (.getfield 97, 3) := by decide +kernel
theorem dX12_proves_24 : decode cX12_proves 24 = .ok (.iload_n 1, 1) := by decide +kernel
theorem dX12_proves_25 : decode cX12_proves 25 = .ok (.iaload, 1) := by decide +kernel
theorem dX12_proves_26 : decode cX12_proves 26 = .ok (.iconst (-1), 1) := by decide +kernel
theorem dX12_proves_27 : decode cX12_proves 27 = .ok (.if_icmp .ne 6, 3) := by decide +kernel
theorem dX12_proves_30 : decode cX12_proves 30 = .ok (.bipush (-11), 2) := by decide +kernel
theorem dX12_proves_32 : decode cX12_proves 32 = .ok (.ireturn, 1) := by decide +kernel
theorem dX12_proves_33 : decode cX12_proves 33 = .ok (.aload_n 0, 1) := by decide +kernel
theorem dX12_proves_34 : decode cX12_proves 34 = .ok (.iconst 0, 1) := by decide +kernel
theorem dX12_proves_35 : decode cX12_proves 35 = .ok (.putfield 280, 3) := by decide +kernel
theorem dX12_proves_38 : decode cX12_proves 38 = .ok (.aload_n 0, 1) := by decide +kernel
theorem dX12_proves_39 : decode cX12_proves 39 = .ok (.iload_n 1, 1) := by decide +kernel
theorem dX12_proves_40 : decode cX12_proves 40 = .ok (.aload_n 0, 1) := by decide +kernel
theorem dX12_proves_41 : decode cX12_proves 41 = .ok (.invokevirtual 129, 3) := by decide +kernel
theorem dX12_proves_44 : decode cX12_proves 44 = .ok (.iload_n 2, 1) := by decide +kernel
theorem dX12_proves_45 : decode cX12_proves 45 = .ok (.iconst 0, 1) := by decide +kernel
theorem dX12_proves_46 : decode cX12_proves 46 = .ok (.invokevirtual 283, 3) := by decide +kernel
theorem dX12_proves_49 : decode cX12_proves 49 = .ok (.ifCond .eq 20, 3) := by decide +kernel
theorem dX12_proves_52 : decode cX12_proves 52 = .ok (.aload_n 0, 1) := by decide +kernel
theorem dX12_proves_53 : decode cX12_proves 53 = .ok (.getfield 280, 3) := by decide +kernel
theorem dX12_proves_56 : decode cX12_proves 56 = .ok (.aload_n 0, 1) := by decide +kernel
theorem dX12_proves_57 : decode cX12_proves 57 = .ok (.getfield 100, 3) := by decide +kernel
theorem dX12_proves_60 : decode cX12_proves 60 = .ok (.iload_n 1, 1) := by decide +kernel
theorem dX12_proves_61 : decode cX12_proves 61 = .ok (.iaload, 1) := by decide +kernel
theorem dX12_proves_62 : decode cX12_proves 62 = .ok (.if_icmp .ne 7, 3) := by decide +kernel
theorem dX12_proves_65 : decode cX12_proves 65 = .ok (.iconst 0, 1) := by decide +kernel
theorem dX12_proves_66 : decode cX12_proves 66 = .ok (.goto 9, 3) := by decide +kernel
theorem dX12_proves_69 : decode cX12_proves 69 = .ok (.iconst 1, 1) := by decide +kernel
theorem dX12_proves_70 : decode cX12_proves 70 = .ok (.aload_n 0, 1) := by decide +kernel
theorem dX12_proves_71 : decode cX12_proves 71 = .ok (.getfield 280, 3) := by decide +kernel
theorem dX12_proves_74 : decode cX12_proves 74 = .ok (.iadd, 1) := by decide +kernel
theorem dX12_proves_75 : decode cX12_proves 75 = .ok (.ireturn, 1) := by decide +kernel
theorem dX12_without_0 : decode cX12_without 0 = .ok (.aload_n 0, 1) := by decide +kernel
theorem dX12_without_1 : decode cX12_without 1 = .ok (.iload_n 1, 1) := by decide +kernel
theorem dX12_without_2 : decode cX12_without 2 = .ok (.invokevirtual 145, 3) := by decide +kernel
theorem dX12_without_5 : decode cX12_without 5 = .ok (.ifCond .ne 6, 3) := by decide +kernel
theorem dX12_without_8 : decode cX12_without 8 = .ok (.bipush (-2), 2) := by decide +kernel
theorem dX12_without_10 : decode cX12_without 10 = .ok (.ireturn, 1) := by decide +kernel
theorem dX12_without_11 : decode cX12_without 11 = .ok (.aload_n 0, 1) := by decide +kernel
theorem dX12_without_12 : decode cX12_without 12 = .ok (.getfield 20, 3) := by decide +kernel
theorem dX12_without_15 : decode cX12_without 15 = .ok (.iload_n 1, 1) := by decide +kernel
theorem dX12_without_16 : decode cX12_without 16 = .ok (.iaload, 1) := by decide +kernel
theorem dX12_without_17 : decode cX12_without 17 = .ok (.istore_n 2, 1) := by decide +kernel
theorem dX12_without_18 : decode cX12_without 18 = .ok (.iconst 0, 1) := by decide +kernel
theorem dX12_without_19 : decode cX12_without 19 = .ok (.istore_n 3, 1) := by decide +kernel
theorem dX12_without_20 : decode cX12_without 20 = .ok (.iload_n 3, 1) := by decide +kernel
theorem dX12_without_21 : decode cX12_without 21 = .ok (.aload_n 0, 1) := by decide +kernel
theorem dX12_without_22 : decode cX12_without 22 = .ok (.getfield 122, 3) := by decide +kernel
theorem dX12_without_25 : decode cX12_without 25 = .ok (.if_icmp .ge 24, 3) := by decide +kernel
theorem dX12_without_28 : decode cX12_without 28 = .ok (.iload_n 2, 1) := by decide +kernel
theorem dX12_without_29 : decode cX12_without 29 = .ok (.iload_n 3, 1) := by decide +kernel
theorem dX12_without_30 : decode cX12_without 30 = .ok (.invokestatic 118, 3) := by decide +kernel
theorem dX12_without_33 : decode cX12_without 33 = .ok (.ifCond .eq 10, 3) := by decide +kernel
theorem dX12_without_36 : decode cX12_without 36 = .ok (.aload_n 0, 1) := by decide +kernel
theorem dX12_without_37 : decode cX12_without 37 = .ok (.iload_n 1, 1) := by decide +kernel
theorem dX12_without_38 : decode cX12_without 38 = .ok (.iload_n 3, 1) := by decide +kernel
theorem dX12_without_39 : decode cX12_without 39 = .ok (.iconst 0, 1) := by decide +kernel
theorem dX12_without_40 : decode cX12_without 40 = .ok (.invokevirtual 152, 3) := by decide +kernel
theorem dX12_without_43 : decode cX12_without 43 = .ok (.iinc 3 1, 3) := by decide +kernel
theorem dX12_without_46 : decode cX12_without 46 = .ok (.goto (-26), 3) := by decide +kernel
theorem dX12_without_49 : decode cX12_without 49 = .ok (.aload_n 0, 1) := by decide +kernel
theorem dX12_without_50 : decode cX12_without 50 = .ok (.invokevirtual 180, 3) := by decide +kernel
theorem dX12_without_53 : decode cX12_without 53 = .ok (.istore_n 3, 1) := by decide +kernel
theorem dX12_without_54 : decode cX12_without 54 = .ok (.iconst 0, 1) := by decide +kernel
theorem dX12_without_55 : decode cX12_without 55 = .ok (.istore 4, 2) := by decide +kernel
theorem dX12_without_57 : decode cX12_without 57 = .ok (.iload 4, 2) := by decide +kernel
theorem dX12_without_59 : decode cX12_without 59 = .ok (.aload_n 0, 1) := by decide +kernel
theorem dX12_without_60 : decode cX12_without 60 = .ok (.getfield 122, 3) := by decide +kernel
theorem dX12_without_63 : decode cX12_without 63 = .ok (.if_icmp .ge 26, 3) := by decide +kernel
theorem dX12_without_66 : decode cX12_without 66 = .ok (.iload_n 2, 1) := by decide +kernel
theorem dX12_without_67 : decode cX12_without 67 = .ok (.iload 4, 2) := by decide +kernel
theorem dX12_without_69 : decode cX12_without 69 = .ok (.invokestatic 118, 3) := by decide +kernel
theorem dX12_without_72 : decode cX12_without 72 = .ok (.ifCond .eq 11, 3) := by decide +kernel
theorem dX12_without_75 : decode cX12_without 75 = .ok (.aload_n 0, 1) := by decide +kernel
theorem dX12_without_76 : decode cX12_without 76 = .ok (.iload_n 1, 1) := by decide +kernel
theorem dX12_without_77 : decode cX12_without 77 = .ok (.iload 4, 2) := by decide +kernel
theorem dX12_without_79 : decode cX12_without 79 = .ok (.iconst 1, 1) := by decide +kernel
theorem dX12_without_80 : decode cX12_without 80 = .ok (.invokevirtual 152, 3) := by decide +kernel
theorem dX12_without_83 : decode cX12_without 83 = .ok (.iinc 4 1, 3) := by decide +kernel
theorem dX12_without_86 : decode cX12_without 86 = .ok (.goto (-29), 3) := by decide +kernel
theorem dX12_without_89 : decode cX12_without 89 = .ok (.iload_n 3, 1) := by decide +kernel
theorem dX12_without_90 : decode cX12_without 90 = .ok (.ireturn, 1) := by decide +kernel
theorem dX12_turning_0 : decode cX12_turning 0 = .ok (.aload_n 0, 1) := by decide +kernel
theorem dX12_turning_1 : decode cX12_turning 1 = .ok (.invokevirtual 180, 3) := by decide +kernel
theorem dX12_turning_4 : decode cX12_turning 4 = .ok (.istore 4, 2) := by decide +kernel
theorem dX12_turning_6 : decode cX12_turning 6 = .ok (.iconst (-1), 1) := by decide +kernel
theorem dX12_turning_7 : decode cX12_turning 7 = .ok (.istore 5, 2) := by decide +kernel
theorem dX12_turning_9 : decode cX12_turning 9 = .ok (.iconst 0, 1) := by decide +kernel
theorem dX12_turning_10 : decode cX12_turning 10 = .ok (.istore 6, 2) := by decide +kernel
theorem dX12_turning_12 : decode cX12_turning 12 = .ok (.iconst 0, 1) := by decide +kernel
theorem dX12_turning_13 : decode cX12_turning 13 = .ok (.istore 7, 2) := by decide +kernel
theorem dX12_turning_15 : decode cX12_turning 15 = .ok (.iload 7, 2) := by decide +kernel
theorem dX12_turning_17 : decode cX12_turning 17 = .ok (.aload_n 0, 1) := by decide +kernel
theorem dX12_turning_18 : decode cX12_turning 18 = .ok (.getfield 122, 3) := by decide +kernel
theorem dX12_turning_21 : decode cX12_turning 21 = .ok (.if_icmp .ge 111, 3) := by decide +kernel
theorem dX12_turning_24 : decode cX12_turning 24 = .ok (.iload 7, 2) := by decide +kernel
theorem dX12_turning_26 : decode cX12_turning 26 = .ok (.iconst 1, 1) := by decide +kernel
theorem dX12_turning_27 : decode cX12_turning 27 = .ok (.iadd, 1) := by decide +kernel
theorem dX12_turning_28 : decode cX12_turning 28 = .ok (.istore 8, 2) := by decide +kernel
theorem dX12_turning_30 : decode cX12_turning 30 = .ok (.iload 8, 2) := by decide +kernel
theorem dX12_turning_32 : decode cX12_turning 32 = .ok (.aload_n 0, 1) := by decide +kernel
theorem dX12_turning_33 : decode cX12_turning 33 = .ok (.getfield 122, 3) := by decide +kernel
theorem dX12_turning_36 : decode cX12_turning 36 = .ok (.if_icmp .ge 90, 3) := by decide +kernel
theorem dX12_turning_39 : decode cX12_turning 39 = .ok (.aload_n 0, 1) := by decide +kernel
theorem dX12_turning_40 : decode cX12_turning 40 = .ok (.getfield 20, 3) := by decide +kernel
theorem dX12_turning_43 : decode cX12_turning 43 = .ok (.iload 7, 2) := by decide +kernel
theorem dX12_turning_45 : decode cX12_turning 45 = .ok (.iaload, 1) := by decide +kernel
theorem dX12_turning_46 : decode cX12_turning 46 = .ok (.iload 8, 2) := by decide +kernel
theorem dX12_turning_48 : decode cX12_turning 48 = .ok (.ishr, 1) := by decide +kernel
theorem dX12_turning_49 : decode cX12_turning 49 = .ok (.iconst 1, 1) := by decide +kernel
theorem dX12_turning_50 : decode cX12_turning 50 = .ok (.iand, 1) := by decide +kernel
theorem dX12_turning_51 : decode cX12_turning 51 = .ok (.iload_n 1, 1) := by decide +kernel
theorem dX12_turning_52 : decode cX12_turning 52 = .ok (.if_icmp .eq 6, 3) := by decide +kernel
theorem dX12_turning_55 : decode cX12_turning 55 = .ok (.goto 65, 3) := by decide +kernel
theorem dX12_turning_58 : decode cX12_turning 58 = .ok (.aload_n 0, 1) := by decide +kernel
theorem dX12_turning_59 : decode cX12_turning 59 = .ok (.iload 7, 2) := by decide +kernel
theorem dX12_turning_61 : decode cX12_turning 61 = .ok (.iload 8, 2) := by decide +kernel
theorem dX12_turning_63 : decode cX12_turning 63 = .ok (.iconst 1, 1) := by decide +kernel
theorem dX12_turning_64 : decode cX12_turning 64 = .ok (.iload_n 1, 1) := by decide +kernel
theorem dX12_turning_65 : decode cX12_turning 65 = .ok (.isub, 1) := by decide +kernel
theorem dX12_turning_66 : decode cX12_turning 66 = .ok (.invokevirtual 152, 3) := by decide +kernel
theorem dX12_turning_69 : decode cX12_turning 69 = .ok (.aload_n 0, 1) := by decide +kernel
theorem dX12_turning_70 : decode cX12_turning 70 = .ok (.invokevirtual 180, 3) := by decide +kernel
theorem dX12_turning_73 : decode cX12_turning 73 = .ok (.istore 9, 2) := by decide +kernel
theorem dX12_turning_75 : decode cX12_turning 75 = .ok (.aload_n 0, 1) := by decide +kernel
theorem dX12_turning_76 : decode cX12_turning 76 = .ok (.iload 7, 2) := by decide +kernel
theorem dX12_turning_78 : decode cX12_turning 78 = .ok (.iload 8, 2) := by decide +kernel
theorem dX12_turning_80 : decode cX12_turning 80 = .ok (.iload_n 1, 1) := by decide +kernel
theorem dX12_turning_81 : decode cX12_turning 81 = .ok (.invokevirtual 152, 3) := by decide +kernel
theorem dX12_turning_84 : decode cX12_turning 84 = .ok (.iload 9, 2) := by decide +kernel
theorem dX12_turning_86 : decode cX12_turning 86 = .ok (.iload 4, 2) := by decide +kernel
theorem dX12_turning_88 : decode cX12_turning 88 = .ok (.iload_n 2, 1) := by decide +kernel
theorem dX12_turning_89 : decode cX12_turning 89 = .ok (.iadd, 1) := by decide +kernel
theorem dX12_turning_90 : decode cX12_turning 90 = .ok (.if_icmp .eq 6, 3) := by decide +kernel
theorem dX12_turning_93 : decode cX12_turning 93 = .ok (.goto 27, 3) := by decide +kernel
theorem dX12_turning_96 : decode cX12_turning 96 = .ok (.iload 5, 2) := by decide +kernel
theorem dX12_turning_98 : decode cX12_turning 98 = .ok (.iconst (-1), 1) := by decide +kernel
theorem dX12_turning_99 : decode cX12_turning 99 = .ok (.if_icmp .ne 14, 3) := by decide +kernel
theorem dX12_turning_102 : decode cX12_turning 102 = .ok (.bipush 12, 2) := by decide +kernel
theorem dX12_turning_104 : decode cX12_turning 104 = .ok (.iload 7, 2) := by decide +kernel
theorem dX12_turning_106 : decode cX12_turning 106 = .ok (.imul, 1) := by decide +kernel
theorem dX12_turning_107 : decode cX12_turning 107 = .ok (.iload 8, 2) := by decide +kernel
theorem dX12_turning_109 : decode cX12_turning 109 = .ok (.iadd, 1) := by decide +kernel
theorem dX12_turning_110 : decode cX12_turning 110 = .ok (.goto 5, 3) := by decide +kernel
theorem dX12_turning_113 : decode cX12_turning 113 = .ok (.iload 5, 2) := by decide +kernel
theorem dX12_turning_115 : decode cX12_turning 115 = .ok (.istore 5, 2) := by decide +kernel
theorem dX12_turning_117 : decode cX12_turning 117 = .ok (.iinc 6 1, 3) := by decide +kernel
theorem dX12_turning_120 : decode cX12_turning 120 = .ok (.iinc 8 1, 3) := by decide +kernel
theorem dX12_turning_123 : decode cX12_turning 123 = .ok (.goto (-93), 3) := by decide +kernel
theorem dX12_turning_126 : decode cX12_turning 126 = .ok (.iinc 7 1, 3) := by decide +kernel
theorem dX12_turning_129 : decode cX12_turning 129 = .ok (.goto (-114), 3) := by decide +kernel
theorem dX12_turning_132 : decode cX12_turning 132 = .ok (.iload_n 3, 1) := by decide +kernel
theorem dX12_turning_133 : decode cX12_turning 133 = .ok (.ifCond .ne 8, 3) := by decide +kernel
theorem dX12_turning_136 : decode cX12_turning 136 = .ok (.iload 5, 2) := by decide +kernel
theorem dX12_turning_138 : decode cX12_turning 138 = .ok (.goto 5, 3) := by decide +kernel
theorem dX12_turning_141 : decode cX12_turning 141 = .ok (.iload 6, 2) := by decide +kernel
theorem dX12_turning_143 : decode cX12_turning 143 = .ok (.ireturn, 1) := by decide +kernel
theorem dX12_cut_0 : decode cX12_cut 0 = .ok (.iload_n 1, 1) := by decide +kernel
theorem dX12_cut_1 : decode cX12_cut 1 = .ok (.iconst 0, 1) := by decide +kernel
theorem dX12_cut_2 : decode cX12_cut 2 = .ok (.iconst 1, 1) := by decide +kernel
theorem dX12_cut_3 : decode cX12_cut 3 = .ok (.invokestatic 125, 3) := by decide +kernel
theorem dX12_cut_6 : decode cX12_cut 6 = .ok (.ifCond .eq 13, 3) := by decide +kernel
theorem dX12_cut_9 : decode cX12_cut 9 = .ok (.aload_n 0, 1) := by decide +kernel
theorem dX12_cut_10 : decode cX12_cut 10 = .ok (.iconst 1, 1) := by decide +kernel
theorem dX12_cut_11 : decode cX12_cut 11 = .ok (.iconst (-1), 1) := by decide +kernel
theorem dX12_cut_12 : decode cX12_cut 12 = .ok (.iload_n 1, 1) := by decide +kernel
theorem dX12_cut_13 : decode cX12_cut 13 = .ok (.invokevirtual 287, 3) := by decide +kernel
theorem dX12_cut_16 : decode cX12_cut 16 = .ok (.goto 5, 3) := by decide +kernel
theorem dX12_cut_19 : decode cX12_cut 19 = .ok (.bipush (-2), 2) := by decide +kernel
theorem dX12_cut_21 : decode cX12_cut 21 = .ok (.ireturn, 1) := by decide +kernel
theorem dX12_joins_0 : decode cX12_joins 0 = .ok (.iload_n 1, 1) := by decide +kernel
theorem dX12_joins_1 : decode cX12_joins 1 = .ok (.iconst 0, 1) := by decide +kernel
theorem dX12_joins_2 : decode cX12_joins 2 = .ok (.iconst 1, 1) := by decide +kernel
theorem dX12_joins_3 : decode cX12_joins 3 = .ok (.invokestatic 125, 3) := by decide +kernel
theorem dX12_joins_6 : decode cX12_joins 6 = .ok (.ifCond .eq 13, 3) := by decide +kernel
theorem dX12_joins_9 : decode cX12_joins 9 = .ok (.aload_n 0, 1) := by decide +kernel
theorem dX12_joins_10 : decode cX12_joins 10 = .ok (.iconst 0, 1) := by decide +kernel
theorem dX12_joins_11 : decode cX12_joins 11 = .ok (.iconst 1, 1) := by decide +kernel
theorem dX12_joins_12 : decode cX12_joins 12 = .ok (.iload_n 1, 1) := by decide +kernel
theorem dX12_joins_13 : decode cX12_joins 13 = .ok (.invokevirtual 287, 3) := by decide +kernel
theorem dX12_joins_16 : decode cX12_joins 16 = .ok (.goto 5, 3) := by decide +kernel
theorem dX12_joins_19 : decode cX12_joins 19 = .ok (.bipush (-2), 2) := by decide +kernel
theorem dX12_joins_21 : decode cX12_joins 21 = .ok (.ireturn, 1) := by decide +kernel
theorem dX12_payments_0 : decode cX12_payments 0 = .ok (.iconst 0, 1) := by decide +kernel
theorem dX12_payments_1 : decode cX12_payments 1 = .ok (.istore_n 3, 1) := by decide +kernel
theorem dX12_payments_2 : decode cX12_payments 2 = .ok (.iconst 0, 1) := by decide +kernel
theorem dX12_payments_3 : decode cX12_payments 3 = .ok (.istore 4, 2) := by decide +kernel
theorem dX12_payments_5 : decode cX12_payments 5 = .ok (.iconst 0, 1) := by decide +kernel
theorem dX12_payments_6 : decode cX12_payments 6 = .ok (.istore 5, 2) := by decide +kernel
theorem dX12_payments_8 : decode cX12_payments 8 = .ok (.iload 5, 2) := by decide +kernel
theorem dX12_payments_10 : decode cX12_payments 10 = .ok (.aload_n 0, 1) := by decide +kernel
theorem dX12_payments_11 : decode cX12_payments 11 = .ok (.getfield 122, 3) := by decide +kernel
theorem dX12_payments_14 : decode cX12_payments 14 = .ok (.if_icmp .ge 22, 3) := by decide +kernel
theorem dX12_payments_17 : decode cX12_payments 17 = .ok (.aload_n 0, 1) := by decide +kernel
theorem dX12_payments_18 : decode cX12_payments 18 = .ok (.getfield 47, 3) := by decide +kernel
theorem dX12_payments_21 : decode cX12_payments 21 = .ok (.iload 5, 2) := by decide +kernel
theorem dX12_payments_23 : decode cX12_payments 23 = .ok (.aload_n 0, 1) := by decide +kernel
theorem dX12_payments_24 : decode cX12_payments 24 = .ok (.iload 5, 2) := by decide +kernel
theorem dX12_payments_26 : decode cX12_payments 26 = .ok (.invokevirtual 156, 3) := by decide +kernel
theorem dX12_payments_29 : decode cX12_payments 29 = .ok (.iastore, 1) := by decide +kernel
theorem dX12_payments_30 : decode cX12_payments 30 = .ok (.iinc 5 1, 3) := by decide +kernel
theorem dX12_payments_33 : decode cX12_payments 33 = .ok (.goto (-25), 3) := by decide +kernel
theorem dX12_payments_36 : decode cX12_payments 36 = .ok (.iconst 0, 1) := by decide +kernel
theorem dX12_payments_37 : decode cX12_payments 37 = .ok (.istore 5, 2) := by decide +kernel
theorem dX12_payments_39 : decode cX12_payments 39 = .ok (.iload 5, 2) := by decide +kernel
theorem dX12_payments_41 : decode cX12_payments 41 = .ok (.aload_n 0, 1) := by decide +kernel
theorem dX12_payments_42 : decode cX12_payments 42 = .ok (.getfield 122, 3) := by decide +kernel
theorem dX12_payments_45 : decode cX12_payments 45 = .ok (.if_icmp .ge 146, 3) := by decide +kernel
theorem dX12_payments_48 : decode cX12_payments 48 = .ok (.iload 5, 2) := by decide +kernel
theorem dX12_payments_50 : decode cX12_payments 50 = .ok (.iconst 1, 1) := by decide +kernel
theorem dX12_payments_51 : decode cX12_payments 51 = .ok (.iadd, 1) := by decide +kernel
theorem dX12_payments_52 : decode cX12_payments 52 = .ok (.istore 6, 2) := by decide +kernel
theorem dX12_payments_54 : decode cX12_payments 54 = .ok (.iload 6, 2) := by decide +kernel
theorem dX12_payments_56 : decode cX12_payments 56 = .ok (.aload_n 0, 1) := by decide +kernel
theorem dX12_payments_57 : decode cX12_payments 57 = .ok (.getfield 122, 3) := by decide +kernel
theorem dX12_payments_60 : decode cX12_payments 60 = .ok (.if_icmp .ge 125, 3) := by decide +kernel
theorem dX12_payments_63 : decode cX12_payments 63 = .ok (.aload_n 0, 1) := by decide +kernel
theorem dX12_payments_64 : decode cX12_payments 64 = .ok (.getfield 20, 3) := by decide +kernel
theorem dX12_payments_67 : decode cX12_payments 67 = .ok (.iload 5, 2) := by decide +kernel
theorem dX12_payments_69 : decode cX12_payments 69 = .ok (.iaload, 1) := by decide +kernel
theorem dX12_payments_70 : decode cX12_payments 70 = .ok (.iload 6, 2) := by decide +kernel
theorem dX12_payments_72 : decode cX12_payments 72 = .ok (.invokestatic 118, 3) := by decide +kernel
theorem dX12_payments_75 : decode cX12_payments 75 = .ok (.ifCond .ne 6, 3) := by decide +kernel
theorem dX12_payments_78 : decode cX12_payments 78 = .ok (.goto 101, 3) := by decide +kernel
theorem dX12_payments_81 : decode cX12_payments 81 = .ok (.aload_n 0, 1) := by decide +kernel
theorem dX12_payments_82 : decode cX12_payments 82 = .ok (.getfield 47, 3) := by decide +kernel
theorem dX12_payments_85 : decode cX12_payments 85 = .ok (.iload 5, 2) := by decide +kernel
theorem dX12_payments_87 : decode cX12_payments 87 = .ok (.iaload, 1) := by decide +kernel
theorem dX12_payments_88 : decode cX12_payments 88 = .ok (.aload_n 0, 1) := by decide +kernel
theorem dX12_payments_89 : decode cX12_payments 89 = .ok (.getfield 47, 3) := by decide +kernel
theorem dX12_payments_92 : decode cX12_payments 92 = .ok (.iload 6, 2) := by decide +kernel
theorem dX12_payments_94 : decode cX12_payments 94 = .ok (.iaload, 1) := by decide +kernel
theorem dX12_payments_95 : decode cX12_payments 95 = .ok (.if_icmp .ge 13, 3) := by decide +kernel
theorem dX12_payments_98 : decode cX12_payments 98 = .ok (.aload_n 0, 1) := by decide +kernel
theorem dX12_payments_99 : decode cX12_payments 99 = .ok (.getfield 47, 3) := by decide +kernel
theorem dX12_payments_102 : decode cX12_payments 102 = .ok (.iload 5, 2) := by decide +kernel
theorem dX12_payments_104 : decode cX12_payments 104 = .ok (.iaload, 1) := by decide +kernel
theorem dX12_payments_105 : decode cX12_payments 105 = .ok (.goto 10, 3) := by decide +kernel
theorem dX12_payments_108 : decode cX12_payments 108 = .ok (.aload_n 0, 1) := by decide +kernel
theorem dX12_payments_109 : decode cX12_payments 109 = .ok (.getfield 47, 3) := by decide +kernel
theorem dX12_payments_112 : decode cX12_payments 112 = .ok (.iload 6, 2) := by decide +kernel
theorem dX12_payments_114 : decode cX12_payments 114 = .ok (.iaload, 1) := by decide +kernel
theorem dX12_payments_115 : decode cX12_payments 115 = .ok (.istore 7, 2) := by decide +kernel
theorem dX12_payments_117 : decode cX12_payments 117 = .ok (.aload_n 0, 1) := by decide +kernel
theorem dX12_payments_118 : decode cX12_payments 118 = .ok (.getfield 47, 3) := by decide +kernel
theorem dX12_payments_121 : decode cX12_payments 121 = .ok (.iload 5, 2) := by decide +kernel
theorem dX12_payments_123 : decode cX12_payments 123 = .ok (.dup2, 1) := by decide +kernel
theorem dX12_payments_124 : decode cX12_payments 124 = .ok (.iaload, 1) := by decide +kernel
theorem dX12_payments_125 : decode cX12_payments 125 = .ok (.iload 7, 2) := by decide +kernel
theorem dX12_payments_127 : decode cX12_payments 127 = .ok (.isub, 1) := by decide +kernel
theorem dX12_payments_128 : decode cX12_payments 128 = .ok (.iastore, 1) := by decide +kernel
theorem dX12_payments_129 : decode cX12_payments 129 = .ok (.aload_n 0, 1) := by decide +kernel
theorem dX12_payments_130 : decode cX12_payments 130 = .ok (.getfield 47, 3) := by decide +kernel
theorem dX12_payments_133 : decode cX12_payments 133 = .ok (.iload 6, 2) := by decide +kernel
theorem dX12_payments_135 : decode cX12_payments 135 = .ok (.dup2, 1) := by decide +kernel
theorem dX12_payments_136 : decode cX12_payments 136 = .ok (.iaload, 1) := by decide +kernel
theorem dX12_payments_137 : decode cX12_payments 137 = .ok (.iload 7, 2) := by decide +kernel
theorem dX12_payments_139 : decode cX12_payments 139 = .ok (.isub, 1) := by decide +kernel
theorem dX12_payments_140 : decode cX12_payments 140 = .ok (.iastore, 1) := by decide +kernel
theorem dX12_payments_141 : decode cX12_payments 141 = .ok (.iload_n 3, 1) := by decide +kernel
theorem dX12_payments_142 : decode cX12_payments 142 = .ok (.iload 7, 2) := by decide +kernel
theorem dX12_payments_144 : decode cX12_payments 144 = .ok (.iadd, 1) := by decide +kernel
theorem dX12_payments_145 : decode cX12_payments 145 = .ok (.istore_n 3, 1) := by decide +kernel
theorem dX12_payments_146 : decode cX12_payments 146 = .ok (.iload 5, 2) := by decide +kernel
theorem dX12_payments_148 : decode cX12_payments 148 = .ok (.iload_n 1, 1) := by decide +kernel
theorem dX12_payments_149 : decode cX12_payments 149 = .ok (.if_icmp .ne 9, 3) := by decide +kernel
theorem dX12_payments_152 : decode cX12_payments 152 = .ok (.iload 6, 2) := by decide +kernel
theorem dX12_payments_154 : decode cX12_payments 154 = .ok (.iload_n 2, 1) := by decide +kernel
theorem dX12_payments_155 : decode cX12_payments 155 = .ok (.if_icmp .eq 15, 3) := by decide +kernel
theorem dX12_payments_158 : decode cX12_payments 158 = .ok (.iload 5, 2) := by decide +kernel
theorem dX12_payments_160 : decode cX12_payments 160 = .ok (.iload_n 2, 1) := by decide +kernel
theorem dX12_payments_161 : decode cX12_payments 161 = .ok (.if_icmp .ne 14, 3) := by decide +kernel
theorem dX12_payments_164 : decode cX12_payments 164 = .ok (.iload 6, 2) := by decide +kernel
theorem dX12_payments_166 : decode cX12_payments 166 = .ok (.iload_n 1, 1) := by decide +kernel
theorem dX12_payments_167 : decode cX12_payments 167 = .ok (.if_icmp .ne 8, 3) := by decide +kernel
theorem dX12_payments_170 : decode cX12_payments 170 = .ok (.iload 7, 2) := by decide +kernel
theorem dX12_payments_172 : decode cX12_payments 172 = .ok (.goto 5, 3) := by decide +kernel
theorem dX12_payments_175 : decode cX12_payments 175 = .ok (.iload 4, 2) := by decide +kernel
theorem dX12_payments_177 : decode cX12_payments 177 = .ok (.istore 4, 2) := by decide +kernel
theorem dX12_payments_179 : decode cX12_payments 179 = .ok (.iinc 6 1, 3) := by decide +kernel
theorem dX12_payments_182 : decode cX12_payments 182 = .ok (.goto (-128), 3) := by decide +kernel
theorem dX12_payments_185 : decode cX12_payments 185 = .ok (.iinc 5 1, 3) := by decide +kernel
theorem dX12_payments_188 : decode cX12_payments 188 = .ok (.goto (-149), 3) := by decide +kernel
theorem dX12_payments_191 : decode cX12_payments 191 = .ok (.iload_n 1, 1) := by decide +kernel
theorem dX12_payments_192 : decode cX12_payments 192 = .ok (.iconst (-1), 1) := by decide +kernel
theorem dX12_payments_193 : decode cX12_payments 193 = .ok (.if_icmp .ne 7, 3) := by decide +kernel
theorem dX12_payments_196 : decode cX12_payments 196 = .ok (.iload_n 3, 1) := by decide +kernel
theorem dX12_payments_197 : decode cX12_payments 197 = .ok (.goto 5, 3) := by decide +kernel
theorem dX12_payments_200 : decode cX12_payments 200 = .ok (.iload 4, 2) := by decide +kernel
theorem dX12_payments_202 : decode cX12_payments 202 = .ok (.ireturn, 1) := by decide +kernel
theorem dX12_pays_0 : decode cX12_pays 0 = .ok (.iload_n 1, 1) := by decide +kernel
theorem dX12_pays_1 : decode cX12_pays 1 = .ok (.iconst 0, 1) := by decide +kernel
theorem dX12_pays_2 : decode cX12_pays 2 = .ok (.iconst 2, 1) := by decide +kernel
theorem dX12_pays_3 : decode cX12_pays 3 = .ok (.invokestatic 125, 3) := by decide +kernel
theorem dX12_pays_6 : decode cX12_pays 6 = .ok (.ifCond .ne 6, 3) := by decide +kernel
theorem dX12_pays_9 : decode cX12_pays 9 = .ok (.bipush (-2), 2) := by decide +kernel
theorem dX12_pays_11 : decode cX12_pays 11 = .ok (.ireturn, 1) := by decide +kernel
theorem dX12_pays_12 : decode cX12_pays 12 = .ok (.aload_n 0, 1) := by decide +kernel
theorem dX12_pays_13 : decode cX12_pays 13 = .ok (.iconst (-1), 1) := by decide +kernel
theorem dX12_pays_14 : decode cX12_pays 14 = .ok (.iconst (-1), 1) := by decide +kernel
theorem dX12_pays_15 : decode cX12_pays 15 = .ok (.invokevirtual 291, 3) := by decide +kernel
theorem dX12_pays_18 : decode cX12_pays 18 = .ok (.istore_n 2, 1) := by decide +kernel
theorem dX12_pays_19 : decode cX12_pays 19 = .ok (.iconst 0, 1) := by decide +kernel
theorem dX12_pays_20 : decode cX12_pays 20 = .ok (.istore_n 3, 1) := by decide +kernel
theorem dX12_pays_21 : decode cX12_pays 21 = .ok (.iconst 0, 1) := by decide +kernel
theorem dX12_pays_22 : decode cX12_pays 22 = .ok (.istore 4, 2) := by decide +kernel
theorem dX12_pays_24 : decode cX12_pays 24 = .ok (.iload 4, 2) := by decide +kernel
theorem dX12_pays_26 : decode cX12_pays 26 = .ok (.aload_n 0, 1) := by decide +kernel
theorem dX12_pays_27 : decode cX12_pays 27 = .ok (.getfield 122, 3) := by decide +kernel
theorem dX12_pays_30 : decode cX12_pays 30 = .ok (.if_icmp .ge 30, 3) := by decide +kernel
theorem dX12_pays_33 : decode cX12_pays 33 = .ok (.iload_n 3, 1) := by decide +kernel
theorem dX12_pays_34 : decode cX12_pays 34 = .ok (.aload_n 0, 1) := by decide +kernel
theorem dX12_pays_35 : decode cX12_pays 35 = .ok (.getfield 47, 3) := by decide +kernel
theorem dX12_pays_38 : decode cX12_pays 38 = .ok (.iload 4, 2) := by decide +kernel
theorem dX12_pays_40 : decode cX12_pays 40 = .ok (.iaload, 1) := by decide +kernel
theorem dX12_pays_41 : decode cX12_pays 41 = .ok (.ifCond .ne 10, 3) := by decide +kernel
theorem dX12_pays_44 : decode cX12_pays 44 = .ok (.iconst 1, 1) := by decide +kernel
theorem dX12_pays_45 : decode cX12_pays 45 = .ok (.iload 4, 2) := by decide +kernel
theorem dX12_pays_47 : decode cX12_pays 47 = .ok (.ishl, 1) := by decide +kernel
theorem dX12_pays_48 : decode cX12_pays 48 = .ok (.goto 4, 3) := by decide +kernel
theorem dX12_pays_51 : decode cX12_pays 51 = .ok (.iconst 0, 1) := by decide +kernel
theorem dX12_pays_52 : decode cX12_pays 52 = .ok (.ior, 1) := by decide +kernel
theorem dX12_pays_53 : decode cX12_pays 53 = .ok (.istore_n 3, 1) := by decide +kernel
theorem dX12_pays_54 : decode cX12_pays 54 = .ok (.iinc 4 1, 3) := by decide +kernel
theorem dX12_pays_57 : decode cX12_pays 57 = .ok (.goto (-33), 3) := by decide +kernel
theorem dX12_pays_60 : decode cX12_pays 60 = .ok (.iload_n 1, 1) := by decide +kernel
theorem dX12_pays_61 : decode cX12_pays 61 = .ok (.ifCond .ne 7, 3) := by decide +kernel
theorem dX12_pays_64 : decode cX12_pays 64 = .ok (.iload_n 2, 1) := by decide +kernel
theorem dX12_pays_65 : decode cX12_pays 65 = .ok (.goto 17, 3) := by decide +kernel
theorem dX12_pays_68 : decode cX12_pays 68 = .ok (.iload_n 1, 1) := by decide +kernel
theorem dX12_pays_69 : decode cX12_pays 69 = .ok (.iconst 1, 1) := by decide +kernel
theorem dX12_pays_70 : decode cX12_pays 70 = .ok (.if_icmp .ne 7, 3) := by decide +kernel
theorem dX12_pays_73 : decode cX12_pays 73 = .ok (.iload_n 3, 1) := by decide +kernel
theorem dX12_pays_74 : decode cX12_pays 74 = .ok (.goto 8, 3) := by decide +kernel
theorem dX12_pays_77 : decode cX12_pays 77 = .ok (.aload_n 0, 1) := by decide +kernel
theorem dX12_pays_78 : decode cX12_pays 78 = .ok (.iload_n 3, 1) := by decide +kernel
theorem dX12_pays_79 : decode cX12_pays 79 = .ok (.invokevirtual 177, 3) := by decide +kernel
theorem dX12_pays_82 : decode cX12_pays 82 = .ok (.ireturn, 1) := by decide +kernel
theorem dX12_paid_0 : decode cX12_paid 0 = .ok (.aload_n 0, 1) := by decide +kernel
theorem dX12_paid_1 : decode cX12_paid 1 = .ok (.iload_n 1, 1) := by decide +kernel
theorem dX12_paid_2 : decode cX12_paid 2 = .ok (.iload_n 2, 1) := by decide +kernel
theorem dX12_paid_3 : decode cX12_paid 3 = .ok (.invokevirtual 149, 3) := by decide +kernel
theorem dX12_paid_6 : decode cX12_paid 6 = .ok (.ifCond .ne 8, 3) := by decide +kernel
theorem dX12_paid_9 : decode cX12_paid 9 = .ok (.bipush (-2), 2) := by decide +kernel
theorem dX12_paid_11 : decode cX12_paid 11 = .ok (.goto 26, 3) := by decide +kernel
theorem dX12_paid_14 : decode cX12_paid 14 = .ok (.aload_n 0, 1) := by decide +kernel
theorem dX12_paid_15 : decode cX12_paid 15 = .ok (.getfield 20, 3) := by decide +kernel
theorem dX12_paid_18 : decode cX12_paid 18 = .ok (.iload_n 1, 1) := by decide +kernel
theorem dX12_paid_19 : decode cX12_paid 19 = .ok (.iaload, 1) := by decide +kernel
theorem dX12_paid_20 : decode cX12_paid 20 = .ok (.iload_n 2, 1) := by decide +kernel
theorem dX12_paid_21 : decode cX12_paid 21 = .ok (.invokestatic 118, 3) := by decide +kernel
theorem dX12_paid_24 : decode cX12_paid 24 = .ok (.ifCond .eq 12, 3) := by decide +kernel
theorem dX12_paid_27 : decode cX12_paid 27 = .ok (.aload_n 0, 1) := by decide +kernel
theorem dX12_paid_28 : decode cX12_paid 28 = .ok (.iload_n 1, 1) := by decide +kernel
theorem dX12_paid_29 : decode cX12_paid 29 = .ok (.iload_n 2, 1) := by decide +kernel
theorem dX12_paid_30 : decode cX12_paid 30 = .ok (.invokevirtual 291, 3) := by decide +kernel
theorem dX12_paid_33 : decode cX12_paid 33 = .ok (.goto 4, 3) := by decide +kernel
theorem dX12_paid_36 : decode cX12_paid 36 = .ok (.iconst (-1), 1) := by decide +kernel
theorem dX12_paid_37 : decode cX12_paid 37 = .ok (.ireturn, 1) := by decide +kernel
theorem dX12_feed_0 : decode cX12_feed 0 = .ok (.iload_n 2, 1) := by decide +kernel
theorem dX12_feed_1 : decode cX12_feed 1 = .ok (.iconst 1, 1) := by decide +kernel
theorem dX12_feed_2 : decode cX12_feed 2 = .ok (.iconst 4, 1) := by decide +kernel
theorem dX12_feed_3 : decode cX12_feed 3 = .ok (.invokestatic 125, 3) := by decide +kernel
theorem dX12_feed_6 : decode cX12_feed 6 = .ok (.ifCond .ne 6, 3) := by decide +kernel
theorem dX12_feed_9 : decode cX12_feed 9 = .ok (.bipush (-2), 2) := by decide +kernel
theorem dX12_feed_11 : decode cX12_feed 11 = .ok (.ireturn, 1) := by decide +kernel
theorem dX12_feed_12 : decode cX12_feed 12 = .ok (.aload_n 0, 1) := by decide +kernel
theorem dX12_feed_13 : decode cX12_feed 13 = .ok (.getfield 162, 3) := by decide +kernel
theorem dX12_feed_16 : decode cX12_feed 16 = .ok (.iload_n 2, 1) := by decide +kernel
theorem dX12_feed_17 : decode cX12_feed 17 = .ok (.iadd, 1) := by decide +kernel
theorem dX12_feed_18 : decode cX12_feed 18 = .ok (.sipush 200, 3) := by decide +kernel
theorem dX12_feed_21 : decode cX12_feed 21 = .ok (.if_icmp .le 6, 3) := by decide +kernel
theorem dX12_feed_24 : decode cX12_feed 24 = .ok (.bipush (-4), 2) := by decide +kernel
theorem dX12_feed_26 : decode cX12_feed 26 = .ok (.ireturn, 1) := by decide +kernel
theorem dX12_feed_27 : decode cX12_feed 27 = .ok (.iload_n 2, 1) := by decide +kernel
theorem dX12_feed_28 : decode cX12_feed 28 = .ok (.iconst 1, 1) := by decide +kernel
theorem dX12_feed_29 : decode cX12_feed 29 = .ok (.isub, 1) := by decide +kernel
theorem dX12_feed_30 : decode cX12_feed 30 = .ok (.istore_n 3, 1) := by decide +kernel
theorem dX12_feed_31 : decode cX12_feed 31 = .ok (.iload_n 3, 1) := by decide +kernel
theorem dX12_feed_32 : decode cX12_feed 32 = .ok (.ifCond .lt 38, 3) := by decide +kernel
theorem dX12_feed_35 : decode cX12_feed 35 = .ok (.aload_n 0, 1) := by decide +kernel
theorem dX12_feed_36 : decode cX12_feed 36 = .ok (.getfield 50, 3) := by decide +kernel
theorem dX12_feed_39 : decode cX12_feed 39 = .ok (.aload_n 0, 1) := by decide +kernel
theorem dX12_feed_40 : decode cX12_feed 40 = .ok (.getfield 162, 3) := by decide +kernel
theorem dX12_feed_43 : decode cX12_feed 43 = .ok (.iload_n 1, 1) := by decide +kernel
theorem dX12_feed_44 : decode cX12_feed 44 = .ok (.bipush 8, 2) := by decide +kernel
theorem dX12_feed_46 : decode cX12_feed 46 = .ok (.iload_n 3, 1) := by decide +kernel
theorem dX12_feed_47 : decode cX12_feed 47 = .ok (.imul, 1) := by decide +kernel
theorem dX12_feed_48 : decode cX12_feed 48 = .ok (.ishr, 1) := by decide +kernel
theorem dX12_feed_49 : decode cX12_feed 49 = .ok (.sipush 255, 3) := by decide +kernel
theorem dX12_feed_52 : decode cX12_feed 52 = .ok (.iand, 1) := by decide +kernel
theorem dX12_feed_53 : decode cX12_feed 53 = .ok (.iastore, 1) := by decide +kernel
theorem dX12_feed_54 : decode cX12_feed 54 = .ok (.aload_n 0, 1) := by decide +kernel
theorem dX12_feed_55 : decode cX12_feed 55 = .ok (.dup, 1) := by decide +kernel
theorem dX12_feed_56 : decode cX12_feed 56 = .ok (.getfield 162, 3) := by decide +kernel
theorem dX12_feed_59 : decode cX12_feed 59 = .ok (.iconst 1, 1) := by decide +kernel
theorem dX12_feed_60 : decode cX12_feed 60 = .ok (.iadd, 1) := by decide +kernel
theorem dX12_feed_61 : decode cX12_feed 61 = .ok (.putfield 162, 3) := by decide +kernel
theorem dX12_feed_64 : decode cX12_feed 64 = .ok (.iinc 3 (-1), 3) := by decide +kernel
theorem dX12_feed_67 : decode cX12_feed 67 = .ok (.goto (-36), 3) := by decide +kernel
theorem dX12_feed_70 : decode cX12_feed 70 = .ok (.aload_n 0, 1) := by decide +kernel
theorem dX12_feed_71 : decode cX12_feed 71 = .ok (.getfield 162, 3) := by decide +kernel
theorem dX12_feed_74 : decode cX12_feed 74 = .ok (.ireturn, 1) := by decide +kernel
theorem dX12_wipe_0 : decode cX12_wipe 0 = .ok (.aload_n 0, 1) := by decide +kernel
theorem dX12_wipe_1 : decode cX12_wipe 1 = .ok (.getfield 162, 3) := by decide +kernel
theorem dX12_wipe_4 : decode cX12_wipe 4 = .ok (.istore_n 1, 1) := by decide +kernel
theorem dX12_wipe_5 : decode cX12_wipe 5 = .ok (.aload_n 0, 1) := by decide +kernel
theorem dX12_wipe_6 : decode cX12_wipe 6 = .ok (.iconst 0, 1) := by decide +kernel
theorem dX12_wipe_7 : decode cX12_wipe 7 = .ok (.putfield 162, 3) := by decide +kernel
theorem dX12_wipe_10 : decode cX12_wipe 10 = .ok (.iload_n 1, 1) := by decide +kernel
theorem dX12_wipe_11 : decode cX12_wipe 11 = .ok (.ireturn, 1) := by decide +kernel
theorem dX12_isWord_0 : decode cX12_isWord 0 = .ok (.iload 6, 2) := by decide +kernel
theorem dX12_isWord_2 : decode cX12_isWord 2 = .ok (.ifCond .ne 7, 3) := by decide +kernel
theorem dX12_isWord_5 : decode cX12_isWord 5 = .ok (.iconst 3, 1) := by decide +kernel
theorem dX12_isWord_6 : decode cX12_isWord 6 = .ok (.goto 23, 3) := by decide +kernel
theorem dX12_isWord_9 : decode cX12_isWord 9 = .ok (.iload 7, 2) := by decide +kernel
theorem dX12_isWord_11 : decode cX12_isWord 11 = .ok (.ifCond .ne 7, 3) := by decide +kernel
theorem dX12_isWord_14 : decode cX12_isWord 14 = .ok (.iconst 4, 1) := by decide +kernel
theorem dX12_isWord_15 : decode cX12_isWord 15 = .ok (.goto 14, 3) := by decide +kernel
theorem dX12_isWord_18 : decode cX12_isWord 18 = .ok (.iload 8, 2) := by decide +kernel
theorem dX12_isWord_20 : decode cX12_isWord 20 = .ok (.ifCond .ne 7, 3) := by decide +kernel
theorem dX12_isWord_23 : decode cX12_isWord 23 = .ok (.iconst 5, 1) := by decide +kernel
theorem dX12_isWord_24 : decode cX12_isWord 24 = .ok (.goto 5, 3) := by decide +kernel
theorem dX12_isWord_27 : decode cX12_isWord 27 = .ok (.bipush 6, 2) := by decide +kernel
theorem dX12_isWord_29 : decode cX12_isWord 29 = .ok (.istore 9, 2) := by decide +kernel
theorem dX12_isWord_31 : decode cX12_isWord 31 = .ok (.iload_n 2, 1) := by decide +kernel
theorem dX12_isWord_32 : decode cX12_isWord 32 = .ok (.iload_n 1, 1) := by decide +kernel
theorem dX12_isWord_33 : decode cX12_isWord 33 = .ok (.isub, 1) := by decide +kernel
theorem dX12_isWord_34 : decode cX12_isWord 34 = .ok (.iload 9, 2) := by decide +kernel
theorem dX12_isWord_36 : decode cX12_isWord 36 = .ok (.if_icmp .ne 39, 3) := by decide +kernel
theorem dX12_isWord_39 : decode cX12_isWord 39 = .ok (.aload_n 0, 1) := by decide +kernel
theorem dX12_isWord_40 : decode cX12_isWord 40 = .ok (.getfield 50, 3) := by decide +kernel
theorem dX12_isWord_43 : decode cX12_isWord 43 = .ok (.iload_n 1, 1) := by decide +kernel
theorem dX12_isWord_44 : decode cX12_isWord 44 = .ok (.iaload, 1) := by decide +kernel
theorem dX12_isWord_45 : decode cX12_isWord 45 = .ok (.iload_n 3, 1) := by decide +kernel
theorem dX12_isWord_46 : decode cX12_isWord 46 = .ok (.if_icmp .ne 29, 3) := by decide +kernel
theorem dX12_isWord_49 : decode cX12_isWord 49 = .ok (.aload_n 0, 1) := by decide +kernel
theorem dX12_isWord_50 : decode cX12_isWord 50 = .ok (.getfield 50, 3) := by decide +kernel
theorem dX12_isWord_53 : decode cX12_isWord 53 = .ok (.iload_n 1, 1) := by decide +kernel
theorem dX12_isWord_54 : decode cX12_isWord 54 = .ok (.iconst 1, 1) := by decide +kernel
theorem dX12_isWord_55 : decode cX12_isWord 55 = .ok (.iadd, 1) := by decide +kernel
theorem dX12_isWord_56 : decode cX12_isWord 56 = .ok (.iaload, 1) := by decide +kernel
theorem dX12_isWord_57 : decode cX12_isWord 57 = .ok (.iload 4, 2) := by decide +kernel
theorem dX12_isWord_59 : decode cX12_isWord 59 = .ok (.if_icmp .ne 16, 3) := by decide +kernel
theorem dX12_isWord_62 : decode cX12_isWord 62 = .ok (.aload_n 0, 1) := by decide +kernel
theorem dX12_isWord_63 : decode cX12_isWord 63 = .ok (.getfield 50, 3) := by decide +kernel
theorem dX12_isWord_66 : decode cX12_isWord 66 = .ok (.iload_n 1, 1) := by decide +kernel
theorem dX12_isWord_67 : decode cX12_isWord 67 = .ok (.iconst 2, 1) := by decide +kernel
theorem dX12_isWord_68 : decode cX12_isWord 68 = .ok (.iadd, 1) := by decide +kernel
theorem dX12_isWord_69 : decode cX12_isWord 69 = .ok (.iaload, 1) := by decide +kernel
theorem dX12_isWord_70 : decode cX12_isWord 70 = .ok (.iload 5, 2) := by decide +kernel
theorem dX12_isWord_72 : decode cX12_isWord 72 = .ok (.if_icmp .eq 5, 3) := by decide +kernel
theorem dX12_isWord_75 : decode cX12_isWord 75 = .ok (.iconst 0, 1) := by decide +kernel
theorem dX12_isWord_76 : decode cX12_isWord 76 = .ok (.ireturn, 1) := by decide +kernel
theorem dX12_isWord_77 : decode cX12_isWord 77 = .ok (.iload 9, 2) := by decide +kernel
theorem dX12_isWord_79 : decode cX12_isWord 79 = .ok (.iconst 4, 1) := by decide +kernel
theorem dX12_isWord_80 : decode cX12_isWord 80 = .ok (.if_icmp .lt 16, 3) := by decide +kernel
theorem dX12_isWord_83 : decode cX12_isWord 83 = .ok (.aload_n 0, 1) := by decide +kernel
theorem dX12_isWord_84 : decode cX12_isWord 84 = .ok (.getfield 50, 3) := by decide +kernel
theorem dX12_isWord_87 : decode cX12_isWord 87 = .ok (.iload_n 1, 1) := by decide +kernel
theorem dX12_isWord_88 : decode cX12_isWord 88 = .ok (.iconst 3, 1) := by decide +kernel
theorem dX12_isWord_89 : decode cX12_isWord 89 = .ok (.iadd, 1) := by decide +kernel
theorem dX12_isWord_90 : decode cX12_isWord 90 = .ok (.iaload, 1) := by decide +kernel
theorem dX12_isWord_91 : decode cX12_isWord 91 = .ok (.iload 6, 2) := by decide +kernel
theorem dX12_isWord_93 : decode cX12_isWord 93 = .ok (.if_icmp .ne 46, 3) := by decide +kernel
theorem dX12_isWord_96 : decode cX12_isWord 96 = .ok (.iload 9, 2) := by decide +kernel
theorem dX12_isWord_98 : decode cX12_isWord 98 = .ok (.iconst 5, 1) := by decide +kernel
theorem dX12_isWord_99 : decode cX12_isWord 99 = .ok (.if_icmp .lt 16, 3) := by decide +kernel
theorem dX12_isWord_102 : decode cX12_isWord 102 = .ok (.aload_n 0, 1) := by decide +kernel
theorem dX12_isWord_103 : decode cX12_isWord 103 = .ok (.getfield 50, 3) := by decide +kernel
theorem dX12_isWord_106 : decode cX12_isWord 106 = .ok (.iload_n 1, 1) := by decide +kernel
theorem dX12_isWord_107 : decode cX12_isWord 107 = .ok (.iconst 4, 1) := by decide +kernel
theorem dX12_isWord_108 : decode cX12_isWord 108 = .ok (.iadd, 1) := by decide +kernel
theorem dX12_isWord_109 : decode cX12_isWord 109 = .ok (.iaload, 1) := by decide +kernel
theorem dX12_isWord_110 : decode cX12_isWord 110 = .ok (.iload 7, 2) := by decide +kernel
theorem dX12_isWord_112 : decode cX12_isWord 112 = .ok (.if_icmp .ne 27, 3) := by decide +kernel
theorem dX12_isWord_115 : decode cX12_isWord 115 = .ok (.iload 9, 2) := by decide +kernel
theorem dX12_isWord_117 : decode cX12_isWord 117 = .ok (.bipush 6, 2) := by decide +kernel
theorem dX12_isWord_119 : decode cX12_isWord 119 = .ok (.if_icmp .lt 16, 3) := by decide +kernel
theorem dX12_isWord_122 : decode cX12_isWord 122 = .ok (.aload_n 0, 1) := by decide +kernel
theorem dX12_isWord_123 : decode cX12_isWord 123 = .ok (.getfield 50, 3) := by decide +kernel
theorem dX12_isWord_126 : decode cX12_isWord 126 = .ok (.iload_n 1, 1) := by decide +kernel
theorem dX12_isWord_127 : decode cX12_isWord 127 = .ok (.iconst 5, 1) := by decide +kernel
theorem dX12_isWord_128 : decode cX12_isWord 128 = .ok (.iadd, 1) := by decide +kernel
theorem dX12_isWord_129 : decode cX12_isWord 129 = .ok (.iaload, 1) := by decide +kernel
theorem dX12_isWord_130 : decode cX12_isWord 130 = .ok (.iload 8, 2) := by decide +kernel
theorem dX12_isWord_132 : decode cX12_isWord 132 = .ok (.if_icmp .ne 7, 3) := by decide +kernel
theorem dX12_isWord_135 : decode cX12_isWord 135 = .ok (.iconst 1, 1) := by decide +kernel
theorem dX12_isWord_136 : decode cX12_isWord 136 = .ok (.goto 4, 3) := by decide +kernel
theorem dX12_isWord_139 : decode cX12_isWord 139 = .ok (.iconst 0, 1) := by decide +kernel
theorem dX12_isWord_140 : decode cX12_isWord 140 = .ok (.ireturn, 1) := by decide +kernel
theorem dX12_kindOf_0 : decode cX12_kindOf 0 = .ok (.aload_n 0, 1) := by decide +kernel
theorem dX12_kindOf_1 : decode cX12_kindOf 1 = .ok (.iload_n 1, 1) := by decide +kernel
theorem dX12_kindOf_2 : decode cX12_kindOf 2 = .ok (.iload_n 2, 1) := by decide +kernel
theorem dX12_kindOf_3 : decode cX12_kindOf 3 = .ok (.bipush 112, 2) := by decide +kernel
theorem dX12_kindOf_5 : decode cX12_kindOf 5 = .ok (.bipush 111, 2) := by decide +kernel
theorem dX12_kindOf_7 : decode cX12_kindOf 7 = .ok (.bipush 105, 2) := by decide +kernel
theorem dX12_kindOf_9 : decode cX12_kindOf 9 = .ok (.bipush 110, 2) := by decide +kernel
theorem dX12_kindOf_11 : decode cX12_kindOf 11 = .ok (.bipush 116, 2) := by decide +kernel
theorem dX12_kindOf_13 : decode cX12_kindOf 13 = .ok (.iconst 0, 1) := by decide +kernel
theorem dX12_kindOf_14 : decode cX12_kindOf 14 = .ok (.invokevirtual 294, 3) := by decide +kernel
theorem dX12_kindOf_17 : decode cX12_kindOf 17 = .ok (.ifCond .eq 5, 3) := by decide +kernel
theorem dX12_kindOf_20 : decode cX12_kindOf 20 = .ok (.iconst 0, 1) := by decide +kernel
theorem dX12_kindOf_21 : decode cX12_kindOf 21 = .ok (.ireturn, 1) := by decide +kernel
theorem dX12_kindOf_22 : decode cX12_kindOf 22 = .ok (.aload_n 0, 1) := by decide +kernel
theorem dX12_kindOf_23 : decode cX12_kindOf 23 = .ok (.iload_n 1, 1) := by decide +kernel
theorem dX12_kindOf_24 : decode cX12_kindOf 24 = .ok (.iload_n 2, 1) := by decide +kernel
theorem dX12_kindOf_25 : decode cX12_kindOf 25 = .ok (.bipush 116, 2) := by decide +kernel
theorem dX12_kindOf_27 : decode cX12_kindOf 27 = .ok (.bipush 111, 2) := by decide +kernel
theorem dX12_kindOf_29 : decode cX12_kindOf 29 = .ok (.bipush 108, 2) := by decide +kernel
theorem dX12_kindOf_31 : decode cX12_kindOf 31 = .ok (.bipush 108, 2) := by decide +kernel
theorem dX12_kindOf_33 : decode cX12_kindOf 33 = .ok (.iconst 0, 1) := by decide +kernel
theorem dX12_kindOf_34 : decode cX12_kindOf 34 = .ok (.iconst 0, 1) := by decide +kernel
theorem dX12_kindOf_35 : decode cX12_kindOf 35 = .ok (.invokevirtual 294, 3) := by decide +kernel
theorem dX12_kindOf_38 : decode cX12_kindOf 38 = .ok (.ifCond .eq 5, 3) := by decide +kernel
theorem dX12_kindOf_41 : decode cX12_kindOf 41 = .ok (.iconst 1, 1) := by decide +kernel
theorem dX12_kindOf_42 : decode cX12_kindOf 42 = .ok (.ireturn, 1) := by decide +kernel
theorem dX12_kindOf_43 : decode cX12_kindOf 43 = .ok (.aload_n 0, 1) := by decide +kernel
theorem dX12_kindOf_44 : decode cX12_kindOf 44 = .ok (.iload_n 1, 1) := by decide +kernel
theorem dX12_kindOf_45 : decode cX12_kindOf 45 = .ok (.iload_n 2, 1) := by decide +kernel
theorem dX12_kindOf_46 : decode cX12_kindOf 46 = .ok (.bipush 99, 2) := by decide +kernel
theorem dX12_kindOf_48 : decode cX12_kindOf 48 = .ok (.bipush 108, 2) := by decide +kernel
theorem dX12_kindOf_50 : decode cX12_kindOf 50 = .ok (.bipush 117, 2) := by decide +kernel
theorem dX12_kindOf_52 : decode cX12_kindOf 52 = .ok (.bipush 98, 2) := by decide +kernel
theorem dX12_kindOf_54 : decode cX12_kindOf 54 = .ok (.iconst 0, 1) := by decide +kernel
theorem dX12_kindOf_55 : decode cX12_kindOf 55 = .ok (.iconst 0, 1) := by decide +kernel
theorem dX12_kindOf_56 : decode cX12_kindOf 56 = .ok (.invokevirtual 294, 3) := by decide +kernel
theorem dX12_kindOf_59 : decode cX12_kindOf 59 = .ok (.ifCond .eq 5, 3) := by decide +kernel
theorem dX12_kindOf_62 : decode cX12_kindOf 62 = .ok (.iconst 2, 1) := by decide +kernel
theorem dX12_kindOf_63 : decode cX12_kindOf 63 = .ok (.ireturn, 1) := by decide +kernel
theorem dX12_kindOf_64 : decode cX12_kindOf 64 = .ok (.aload_n 0, 1) := by decide +kernel
theorem dX12_kindOf_65 : decode cX12_kindOf 65 = .ok (.iload_n 1, 1) := by decide +kernel
theorem dX12_kindOf_66 : decode cX12_kindOf 66 = .ok (.iload_n 2, 1) := by decide +kernel
theorem dX12_kindOf_67 : decode cX12_kindOf 67 = .ok (.bipush 107, 2) := by decide +kernel
theorem dX12_kindOf_69 : decode cX12_kindOf 69 = .ok (.bipush 101, 2) := by decide +kernel
theorem dX12_kindOf_71 : decode cX12_kindOf 71 = .ok (.bipush 101, 2) := by decide +kernel
theorem dX12_kindOf_73 : decode cX12_kindOf 73 = .ok (.bipush 112, 2) := by decide +kernel
theorem dX12_kindOf_75 : decode cX12_kindOf 75 = .ok (.bipush 101, 2) := by decide +kernel
theorem dX12_kindOf_77 : decode cX12_kindOf 77 = .ok (.bipush 114, 2) := by decide +kernel
theorem dX12_kindOf_79 : decode cX12_kindOf 79 = .ok (.invokevirtual 294, 3) := by decide +kernel
theorem dX12_kindOf_82 : decode cX12_kindOf 82 = .ok (.ifCond .eq 5, 3) := by decide +kernel
theorem dX12_kindOf_85 : decode cX12_kindOf 85 = .ok (.iconst 3, 1) := by decide +kernel
theorem dX12_kindOf_86 : decode cX12_kindOf 86 = .ok (.ireturn, 1) := by decide +kernel
theorem dX12_kindOf_87 : decode cX12_kindOf 87 = .ok (.aload_n 0, 1) := by decide +kernel
theorem dX12_kindOf_88 : decode cX12_kindOf 88 = .ok (.iload_n 1, 1) := by decide +kernel
theorem dX12_kindOf_89 : decode cX12_kindOf 89 = .ok (.iload_n 2, 1) := by decide +kernel
theorem dX12_kindOf_90 : decode cX12_kindOf 90 = .ok (.bipush 103, 2) := by decide +kernel
theorem dX12_kindOf_92 : decode cX12_kindOf 92 = .ok (.bipush 117, 2) := by decide +kernel
theorem dX12_kindOf_94 : decode cX12_kindOf 94 = .ok (.bipush 105, 2) := by decide +kernel
theorem dX12_kindOf_96 : decode cX12_kindOf 96 = .ok (.bipush 108, 2) := by decide +kernel
theorem dX12_kindOf_98 : decode cX12_kindOf 98 = .ok (.bipush 100, 2) := by decide +kernel
theorem dX12_kindOf_100 : decode cX12_kindOf 100 = .ok (.iconst 0, 1) := by decide +kernel
theorem dX12_kindOf_101 : decode cX12_kindOf 101 = .ok (.invokevirtual 294, 3) := by decide +kernel
theorem dX12_kindOf_104 : decode cX12_kindOf 104 = .ok (.ifCond .eq 5, 3) := by decide +kernel
theorem dX12_kindOf_107 : decode cX12_kindOf 107 = .ok (.iconst 4, 1) := by decide +kernel
theorem dX12_kindOf_108 : decode cX12_kindOf 108 = .ok (.ireturn, 1) := by decide +kernel
theorem dX12_kindOf_109 : decode cX12_kindOf 109 = .ok (.aload_n 0, 1) := by decide +kernel
theorem dX12_kindOf_110 : decode cX12_kindOf 110 = .ok (.iload_n 1, 1) := by decide +kernel
theorem dX12_kindOf_111 : decode cX12_kindOf 111 = .ok (.iload_n 2, 1) := by decide +kernel
theorem dX12_kindOf_112 : decode cX12_kindOf 112 = .ok (.bipush 119, 2) := by decide +kernel
theorem dX12_kindOf_114 : decode cX12_kindOf 114 = .ok (.bipush 97, 2) := by decide +kernel
theorem dX12_kindOf_116 : decode cX12_kindOf 116 = .ok (.bipush 114, 2) := by decide +kernel
theorem dX12_kindOf_118 : decode cX12_kindOf 118 = .ok (.bipush 100, 2) := by decide +kernel
theorem dX12_kindOf_120 : decode cX12_kindOf 120 = .ok (.bipush 101, 2) := by decide +kernel
theorem dX12_kindOf_122 : decode cX12_kindOf 122 = .ok (.bipush 110, 2) := by decide +kernel
theorem dX12_kindOf_124 : decode cX12_kindOf 124 = .ok (.invokevirtual 294, 3) := by decide +kernel
theorem dX12_kindOf_127 : decode cX12_kindOf 127 = .ok (.ifCond .eq 7, 3) := by decide +kernel
theorem dX12_kindOf_130 : decode cX12_kindOf 130 = .ok (.iconst 5, 1) := by decide +kernel
theorem dX12_kindOf_131 : decode cX12_kindOf 131 = .ok (.goto 4, 3) := by decide +kernel
theorem dX12_kindOf_134 : decode cX12_kindOf 134 = .ok (.iconst (-1), 1) := by decide +kernel
theorem dX12_kindOf_135 : decode cX12_kindOf 135 = .ok (.ireturn, 1) := by decide +kernel
theorem dX12_isFrom_0 : decode cX12_isFrom 0 = .ok (.iload_n 1, 1) := by decide +kernel
theorem dX12_isFrom_1 : decode cX12_isFrom 1 = .ok (.aload_n 0, 1) := by decide +kernel
theorem dX12_isFrom_2 : decode cX12_isFrom 2 = .ok (.getfield 162, 3) := by decide +kernel
theorem dX12_isFrom_5 : decode cX12_isFrom 5 = .ok (.if_icmp .ge 21, 3) := by decide +kernel
theorem dX12_isFrom_8 : decode cX12_isFrom 8 = .ok (.aload_n 0, 1) := by decide +kernel
theorem dX12_isFrom_9 : decode cX12_isFrom 9 = .ok (.getfield 50, 3) := by decide +kernel
theorem dX12_isFrom_12 : decode cX12_isFrom 12 = .ok (.iload_n 1, 1) := by decide +kernel
theorem dX12_isFrom_13 : decode cX12_isFrom 13 = .ok (.iaload, 1) := by decide +kernel
theorem dX12_isFrom_14 : decode cX12_isFrom 14 = .ok (.iload_n 2, 1) := by decide +kernel
theorem dX12_isFrom_15 : decode cX12_isFrom 15 = .ok (.iload_n 3, 1) := by decide +kernel
theorem dX12_isFrom_16 : decode cX12_isFrom 16 = .ok (.invokestatic 125, 3) := by decide +kernel
theorem dX12_isFrom_19 : decode cX12_isFrom 19 = .ok (.ifCond .eq 7, 3) := by decide +kernel
theorem dX12_isFrom_22 : decode cX12_isFrom 22 = .ok (.iconst 1, 1) := by decide +kernel
theorem dX12_isFrom_23 : decode cX12_isFrom 23 = .ok (.goto 4, 3) := by decide +kernel
theorem dX12_isFrom_26 : decode cX12_isFrom 26 = .ok (.iconst 0, 1) := by decide +kernel
theorem dX12_isFrom_27 : decode cX12_isFrom 27 = .ok (.ireturn, 1) := by decide +kernel
theorem dX12_faultOf_0 : decode cX12_faultOf 0 = .ok (.iconst 0, 1) := by decide +kernel
theorem dX12_faultOf_1 : decode cX12_faultOf 1 = .ok (.istore_n 1, 1) := by decide +kernel
theorem dX12_faultOf_2 : decode cX12_faultOf 2 = .ok (.iconst (-1), 1) := by decide +kernel
theorem dX12_faultOf_3 : decode cX12_faultOf 3 = .ok (.istore_n 2, 1) := by decide +kernel
theorem dX12_faultOf_4 : decode cX12_faultOf 4 = .ok (.iconst 0, 1) := by decide +kernel
theorem dX12_faultOf_5 : decode cX12_faultOf 5 = .ok (.istore_n 3, 1) := by decide +kernel
theorem dX12_faultOf_6 : decode cX12_faultOf 6 = .ok (.iconst 0, 1) := by decide +kernel
theorem dX12_faultOf_7 : decode cX12_faultOf 7 = .ok (.istore 4, 2) := by decide +kernel
theorem dX12_faultOf_9 : decode cX12_faultOf 9 = .ok (.aload_n 0, 1) := by decide +kernel
theorem dX12_faultOf_10 : decode cX12_faultOf 10 = .ok (.iconst 0, 1) := by decide +kernel
theorem dX12_faultOf_11 : decode cX12_faultOf 11 = .ok (.putfield 298, 3) := by decide +kernel
theorem dX12_faultOf_14 : decode cX12_faultOf 14 = .ok (.aload_n 0, 1) := by decide +kernel
theorem dX12_faultOf_15 : decode cX12_faultOf 15 = .ok (.iload_n 1, 1) := by decide +kernel
theorem dX12_faultOf_16 : decode cX12_faultOf 16 = .ok (.bipush 32, 2) := by decide +kernel
theorem dX12_faultOf_18 : decode cX12_faultOf 18 = .ok (.bipush 32, 2) := by decide +kernel
theorem dX12_faultOf_20 : decode cX12_faultOf 20 = .ok (.invokevirtual 301, 3) := by decide +kernel
theorem dX12_faultOf_23 : decode cX12_faultOf 23 = .ok (.ifCond .eq 9, 3) := by decide +kernel
theorem dX12_faultOf_26 : decode cX12_faultOf 26 = .ok (.iinc 1 1, 3) := by decide +kernel
theorem dX12_faultOf_29 : decode cX12_faultOf 29 = .ok (.goto (-15), 3) := by decide +kernel
theorem dX12_faultOf_32 : decode cX12_faultOf 32 = .ok (.iload_n 1, 1) := by decide +kernel
theorem dX12_faultOf_33 : decode cX12_faultOf 33 = .ok (.aload_n 0, 1) := by decide +kernel
theorem dX12_faultOf_34 : decode cX12_faultOf 34 = .ok (.getfield 162, 3) := by decide +kernel
theorem dX12_faultOf_37 : decode cX12_faultOf 37 = .ok (.if_icmp .ne 20, 3) := by decide +kernel
theorem dX12_faultOf_40 : decode cX12_faultOf 40 = .ok (.aload_n 0, 1) := by decide +kernel
theorem dX12_faultOf_41 : decode cX12_faultOf 41 = .ok (.getfield 298, 3) := by decide +kernel
theorem dX12_faultOf_44 : decode cX12_faultOf 44 = .ok (.ifCond .le 11, 3) := by decide +kernel
theorem dX12_faultOf_47 : decode cX12_faultOf 47 = .ok (.iload_n 3, 1) := by decide +kernel
theorem dX12_faultOf_48 : decode cX12_faultOf 48 = .ok (.ifCond .ne 7, 3) := by decide +kernel
theorem dX12_faultOf_51 : decode cX12_faultOf 51 = .ok (.iconst (-1), 1) := by decide +kernel
theorem dX12_faultOf_52 : decode cX12_faultOf 52 = .ok (.goto 4, 3) := by decide +kernel
theorem dX12_faultOf_55 : decode cX12_faultOf 55 = .ok (.iload_n 1, 1) := by decide +kernel
theorem dX12_faultOf_56 : decode cX12_faultOf 56 = .ok (.ireturn, 1) := by decide +kernel
theorem dX12_faultOf_57 : decode cX12_faultOf 57 = .ok (.iload_n 1, 1) := by decide +kernel
theorem dX12_faultOf_58 : decode cX12_faultOf 58 = .ok (.istore 5, 2) := by decide +kernel
theorem dX12_faultOf_60 : decode cX12_faultOf 60 = .ok (.aload_n 0, 1) := by decide +kernel
theorem dX12_faultOf_61 : decode cX12_faultOf 61 = .ok (.iload_n 1, 1) := by decide +kernel
theorem dX12_faultOf_62 : decode cX12_faultOf 62 = .ok (.bipush 97, 2) := by decide +kernel
theorem dX12_faultOf_64 : decode cX12_faultOf 64 = .ok (.bipush 122, 2) := by decide +kernel
theorem dX12_faultOf_66 : decode cX12_faultOf 66 = .ok (.invokevirtual 301, 3) := by decide +kernel
theorem dX12_faultOf_69 : decode cX12_faultOf 69 = .ok (.ifCond .eq 60, 3) := by decide +kernel
theorem dX12_faultOf_72 : decode cX12_faultOf 72 = .ok (.aload_n 0, 1) := by decide +kernel
theorem dX12_faultOf_73 : decode cX12_faultOf 73 = .ok (.iload 5, 2) := by decide +kernel
theorem dX12_faultOf_75 : decode cX12_faultOf 75 = .ok (.bipush 97, 2) := by decide +kernel
theorem dX12_faultOf_77 : decode cX12_faultOf 77 = .ok (.bipush 122, 2) := by decide +kernel
theorem dX12_faultOf_79 : decode cX12_faultOf 79 = .ok (.invokevirtual 301, 3) := by decide +kernel
theorem dX12_faultOf_82 : decode cX12_faultOf 82 = .ok (.ifCond .eq 9, 3) := by decide +kernel
theorem dX12_faultOf_85 : decode cX12_faultOf 85 = .ok (.iinc 5 1, 3) := by decide +kernel
theorem dX12_faultOf_88 : decode cX12_faultOf 88 = .ok (.goto (-16), 3) := by decide +kernel
theorem dX12_faultOf_91 : decode cX12_faultOf 91 = .ok (.iload 4, 2) := by decide +kernel
theorem dX12_faultOf_93 : decode cX12_faultOf 93 = .ok (.iconst 2, 1) := by decide +kernel
theorem dX12_faultOf_94 : decode cX12_faultOf 94 = .ok (.if_icmp .lt 14, 3) := by decide +kernel
theorem dX12_faultOf_97 : decode cX12_faultOf 97 = .ok (.aload_n 0, 1) := by decide +kernel
theorem dX12_faultOf_98 : decode cX12_faultOf 98 = .ok (.iload_n 1, 1) := by decide +kernel
theorem dX12_faultOf_99 : decode cX12_faultOf 99 = .ok (.iload 5, 2) := by decide +kernel
theorem dX12_faultOf_101 : decode cX12_faultOf 101 = .ok (.invokevirtual 304, 3) := by decide +kernel
theorem dX12_faultOf_104 : decode cX12_faultOf 104 = .ok (.iconst (-1), 1) := by decide +kernel
theorem dX12_faultOf_105 : decode cX12_faultOf 105 = .ok (.if_icmp .ne 5, 3) := by decide +kernel
theorem dX12_faultOf_108 : decode cX12_faultOf 108 = .ok (.iload_n 1, 1) := by decide +kernel
theorem dX12_faultOf_109 : decode cX12_faultOf 109 = .ok (.ireturn, 1) := by decide +kernel
theorem dX12_faultOf_110 : decode cX12_faultOf 110 = .ok (.aload_n 0, 1) := by decide +kernel
theorem dX12_faultOf_111 : decode cX12_faultOf 111 = .ok (.getfield 62, 3) := by decide +kernel
theorem dX12_faultOf_114 : decode cX12_faultOf 114 = .ok (.iload_n 2, 1) := by decide +kernel
theorem dX12_faultOf_115 : decode cX12_faultOf 115 = .ok (.aload_n 0, 1) := by decide +kernel
theorem dX12_faultOf_116 : decode cX12_faultOf 116 = .ok (.iload_n 1, 1) := by decide +kernel
theorem dX12_faultOf_117 : decode cX12_faultOf 117 = .ok (.iload 5, 2) := by decide +kernel
theorem dX12_faultOf_119 : decode cX12_faultOf 119 = .ok (.invokevirtual 304, 3) := by decide +kernel
theorem dX12_faultOf_122 : decode cX12_faultOf 122 = .ok (.iastore, 1) := by decide +kernel
theorem dX12_faultOf_123 : decode cX12_faultOf 123 = .ok (.iconst 1, 1) := by decide +kernel
theorem dX12_faultOf_124 : decode cX12_faultOf 124 = .ok (.istore 4, 2) := by decide +kernel
theorem dX12_faultOf_126 : decode cX12_faultOf 126 = .ok (.goto 216, 3) := by decide +kernel
theorem dX12_faultOf_129 : decode cX12_faultOf 129 = .ok (.aload_n 0, 1) := by decide +kernel
theorem dX12_faultOf_130 : decode cX12_faultOf 130 = .ok (.iload_n 1, 1) := by decide +kernel
theorem dX12_faultOf_131 : decode cX12_faultOf 131 = .ok (.bipush 48, 2) := by decide +kernel
theorem dX12_faultOf_133 : decode cX12_faultOf 133 = .ok (.bipush 57, 2) := by decide +kernel
theorem dX12_faultOf_135 : decode cX12_faultOf 135 = .ok (.invokevirtual 301, 3) := by decide +kernel
theorem dX12_faultOf_138 : decode cX12_faultOf 138 = .ok (.ifCond .eq 70, 3) := by decide +kernel
theorem dX12_faultOf_141 : decode cX12_faultOf 141 = .ok (.aload_n 0, 1) := by decide +kernel
theorem dX12_faultOf_142 : decode cX12_faultOf 142 = .ok (.iload 5, 2) := by decide +kernel
theorem dX12_faultOf_144 : decode cX12_faultOf 144 = .ok (.bipush 48, 2) := by decide +kernel
theorem dX12_faultOf_146 : decode cX12_faultOf 146 = .ok (.bipush 57, 2) := by decide +kernel
theorem dX12_faultOf_148 : decode cX12_faultOf 148 = .ok (.invokevirtual 301, 3) := by decide +kernel
theorem dX12_faultOf_151 : decode cX12_faultOf 151 = .ok (.ifCond .eq 9, 3) := by decide +kernel
theorem dX12_faultOf_154 : decode cX12_faultOf 154 = .ok (.iinc 5 1, 3) := by decide +kernel
theorem dX12_faultOf_157 : decode cX12_faultOf 157 = .ok (.goto (-16), 3) := by decide +kernel
theorem dX12_faultOf_160 : decode cX12_faultOf 160 = .ok (.iload 4, 2) := by decide +kernel
theorem dX12_faultOf_162 : decode cX12_faultOf 162 = .ok (.iconst 1, 1) := by decide +kernel
theorem dX12_faultOf_163 : decode cX12_faultOf 163 = .ok (.if_icmp .lt 22, 3) := by decide +kernel
theorem dX12_faultOf_166 : decode cX12_faultOf 166 = .ok (.iload 5, 2) := by decide +kernel
theorem dX12_faultOf_168 : decode cX12_faultOf 168 = .ok (.iload_n 1, 1) := by decide +kernel
theorem dX12_faultOf_169 : decode cX12_faultOf 169 = .ok (.isub, 1) := by decide +kernel
theorem dX12_faultOf_170 : decode cX12_faultOf 170 = .ok (.iconst 1, 1) := by decide +kernel
theorem dX12_faultOf_171 : decode cX12_faultOf 171 = .ok (.if_icmp .gt 14, 3) := by decide +kernel
theorem dX12_faultOf_174 : decode cX12_faultOf 174 = .ok (.aload_n 0, 1) := by decide +kernel
theorem dX12_faultOf_175 : decode cX12_faultOf 175 = .ok (.getfield 50, 3) := by decide +kernel
theorem dX12_faultOf_178 : decode cX12_faultOf 178 = .ok (.iload_n 1, 1) := by decide +kernel
theorem dX12_faultOf_179 : decode cX12_faultOf 179 = .ok (.iaload, 1) := by decide +kernel
theorem dX12_faultOf_180 : decode cX12_faultOf 180 = .ok (.bipush 48, 2) := by decide +kernel
theorem dX12_faultOf_182 : decode cX12_faultOf 182 = .ok (.if_icmp .ne 5, 3) := by decide +kernel
theorem dX12_faultOf_185 : decode cX12_faultOf 185 = .ok (.iload_n 1, 1) := by decide +kernel
theorem dX12_faultOf_186 : decode cX12_faultOf 186 = .ok (.ireturn, 1) := by decide +kernel
theorem dX12_faultOf_187 : decode cX12_faultOf 187 = .ok (.aload_n 0, 1) := by decide +kernel
theorem dX12_faultOf_188 : decode cX12_faultOf 188 = .ok (.getfield 65, 3) := by decide +kernel
theorem dX12_faultOf_191 : decode cX12_faultOf 191 = .ok (.iload_n 2, 1) := by decide +kernel
theorem dX12_faultOf_192 : decode cX12_faultOf 192 = .ok (.aload_n 0, 1) := by decide +kernel
theorem dX12_faultOf_193 : decode cX12_faultOf 193 = .ok (.getfield 50, 3) := by decide +kernel
theorem dX12_faultOf_196 : decode cX12_faultOf 196 = .ok (.iload_n 1, 1) := by decide +kernel
theorem dX12_faultOf_197 : decode cX12_faultOf 197 = .ok (.iaload, 1) := by decide +kernel
theorem dX12_faultOf_198 : decode cX12_faultOf 198 = .ok (.bipush 48, 2) := by decide +kernel
theorem dX12_faultOf_200 : decode cX12_faultOf 200 = .ok (.isub, 1) := by decide +kernel
theorem dX12_faultOf_201 : decode cX12_faultOf 201 = .ok (.iastore, 1) := by decide +kernel
theorem dX12_faultOf_202 : decode cX12_faultOf 202 = .ok (.iconst 0, 1) := by decide +kernel
theorem dX12_faultOf_203 : decode cX12_faultOf 203 = .ok (.istore 4, 2) := by decide +kernel
theorem dX12_faultOf_205 : decode cX12_faultOf 205 = .ok (.goto 137, 3) := by decide +kernel
theorem dX12_faultOf_208 : decode cX12_faultOf 208 = .ok (.aload_n 0, 1) := by decide +kernel
theorem dX12_faultOf_209 : decode cX12_faultOf 209 = .ok (.getfield 50, 3) := by decide +kernel
theorem dX12_faultOf_212 : decode cX12_faultOf 212 = .ok (.iload_n 1, 1) := by decide +kernel
theorem dX12_faultOf_213 : decode cX12_faultOf 213 = .ok (.iaload, 1) := by decide +kernel
theorem dX12_faultOf_214 : decode cX12_faultOf 214 = .ok (.bipush 40, 2) := by decide +kernel
theorem dX12_faultOf_216 : decode cX12_faultOf 216 = .ok (.if_icmp .ne 88, 3) := by decide +kernel
theorem dX12_faultOf_219 : decode cX12_faultOf 219 = .ok (.iload_n 3, 1) := by decide +kernel
theorem dX12_faultOf_220 : decode cX12_faultOf 220 = .ok (.ifCond .ne 10, 3) := by decide +kernel
theorem dX12_faultOf_223 : decode cX12_faultOf 223 = .ok (.aload_n 0, 1) := by decide +kernel
theorem dX12_faultOf_224 : decode cX12_faultOf 224 = .ok (.getfield 298, 3) := by decide +kernel
theorem dX12_faultOf_227 : decode cX12_faultOf 227 = .ok (.ifCond .gt 18, 3) := by decide +kernel
theorem dX12_faultOf_230 : decode cX12_faultOf 230 = .ok (.iload_n 3, 1) := by decide +kernel
theorem dX12_faultOf_231 : decode cX12_faultOf 231 = .ok (.bipush 20, 2) := by decide +kernel
theorem dX12_faultOf_233 : decode cX12_faultOf 233 = .ok (.if_icmp .eq 12, 3) := by decide +kernel
theorem dX12_faultOf_236 : decode cX12_faultOf 236 = .ok (.aload_n 0, 1) := by decide +kernel
theorem dX12_faultOf_237 : decode cX12_faultOf 237 = .ok (.getfield 298, 3) := by decide +kernel
theorem dX12_faultOf_240 : decode cX12_faultOf 240 = .ok (.bipush 60, 2) := by decide +kernel
theorem dX12_faultOf_242 : decode cX12_faultOf 242 = .ok (.if_icmp .ne 5, 3) := by decide +kernel
theorem dX12_faultOf_245 : decode cX12_faultOf 245 = .ok (.iload_n 1, 1) := by decide +kernel
theorem dX12_faultOf_246 : decode cX12_faultOf 246 = .ok (.ireturn, 1) := by decide +kernel
theorem dX12_faultOf_247 : decode cX12_faultOf 247 = .ok (.aload_n 0, 1) := by decide +kernel
theorem dX12_faultOf_248 : decode cX12_faultOf 248 = .ok (.getfield 62, 3) := by decide +kernel
theorem dX12_faultOf_251 : decode cX12_faultOf 251 = .ok (.aload_n 0, 1) := by decide +kernel
theorem dX12_faultOf_252 : decode cX12_faultOf 252 = .ok (.getfield 298, 3) := by decide +kernel
theorem dX12_faultOf_255 : decode cX12_faultOf 255 = .ok (.iconst 0, 1) := by decide +kernel
theorem dX12_faultOf_256 : decode cX12_faultOf 256 = .ok (.iastore, 1) := by decide +kernel
theorem dX12_faultOf_257 : decode cX12_faultOf 257 = .ok (.aload_n 0, 1) := by decide +kernel
theorem dX12_faultOf_258 : decode cX12_faultOf 258 = .ok (.getfield 65, 3) := by decide +kernel
theorem dX12_faultOf_261 : decode cX12_faultOf 261 = .ok (.aload_n 0, 1) := by decide +kernel
theorem dX12_faultOf_262 : decode cX12_faultOf 262 = .ok (.getfield 298, 3) := by decide +kernel
theorem dX12_faultOf_265 : decode cX12_faultOf 265 = .ok (.iconst 1, 1) := by decide +kernel
theorem dX12_faultOf_266 : decode cX12_faultOf 266 = .ok (.iastore, 1) := by decide +kernel
theorem dX12_faultOf_267 : decode cX12_faultOf 267 = .ok (.aload_n 0, 1) := by decide +kernel
theorem dX12_faultOf_268 : decode cX12_faultOf 268 = .ok (.getfield 68, 3) := by decide +kernel
theorem dX12_faultOf_271 : decode cX12_faultOf 271 = .ok (.aload_n 0, 1) := by decide +kernel
theorem dX12_faultOf_272 : decode cX12_faultOf 272 = .ok (.getfield 298, 3) := by decide +kernel
theorem dX12_faultOf_275 : decode cX12_faultOf 275 = .ok (.iload_n 2, 1) := by decide +kernel
theorem dX12_faultOf_276 : decode cX12_faultOf 276 = .ok (.iastore, 1) := by decide +kernel
theorem dX12_faultOf_277 : decode cX12_faultOf 277 = .ok (.aload_n 0, 1) := by decide +kernel
theorem dX12_faultOf_278 : decode cX12_faultOf 278 = .ok (.getfield 298, 3) := by decide +kernel
theorem dX12_faultOf_281 : decode cX12_faultOf 281 = .ok (.istore_n 2, 1) := by decide +kernel
theorem dX12_faultOf_282 : decode cX12_faultOf 282 = .ok (.aload_n 0, 1) := by decide +kernel
theorem dX12_faultOf_283 : decode cX12_faultOf 283 = .ok (.dup, 1) := by decide +kernel
theorem dX12_faultOf_284 : decode cX12_faultOf 284 = .ok (.getfield 298, 3) := by decide +kernel
theorem dX12_faultOf_287 : decode cX12_faultOf 287 = .ok (.iconst 1, 1) := by decide +kernel
theorem dX12_faultOf_288 : decode cX12_faultOf 288 = .ok (.iadd, 1) := by decide +kernel
theorem dX12_faultOf_289 : decode cX12_faultOf 289 = .ok (.putfield 298, 3) := by decide +kernel
theorem dX12_faultOf_292 : decode cX12_faultOf 292 = .ok (.iinc 3 1, 3) := by decide +kernel
theorem dX12_faultOf_295 : decode cX12_faultOf 295 = .ok (.iconst 2, 1) := by decide +kernel
theorem dX12_faultOf_296 : decode cX12_faultOf 296 = .ok (.istore 4, 2) := by decide +kernel
theorem dX12_faultOf_298 : decode cX12_faultOf 298 = .ok (.iinc 5 1, 3) := by decide +kernel
theorem dX12_faultOf_301 : decode cX12_faultOf 301 = .ok (.goto 41, 3) := by decide +kernel
theorem dX12_faultOf_304 : decode cX12_faultOf 304 = .ok (.aload_n 0, 1) := by decide +kernel
theorem dX12_faultOf_305 : decode cX12_faultOf 305 = .ok (.getfield 50, 3) := by decide +kernel
theorem dX12_faultOf_308 : decode cX12_faultOf 308 = .ok (.iload_n 1, 1) := by decide +kernel
theorem dX12_faultOf_309 : decode cX12_faultOf 309 = .ok (.iaload, 1) := by decide +kernel
theorem dX12_faultOf_310 : decode cX12_faultOf 310 = .ok (.bipush 41, 2) := by decide +kernel
theorem dX12_faultOf_312 : decode cX12_faultOf 312 = .ok (.if_icmp .ne 28, 3) := by decide +kernel
theorem dX12_faultOf_315 : decode cX12_faultOf 315 = .ok (.iload_n 3, 1) := by decide +kernel
theorem dX12_faultOf_316 : decode cX12_faultOf 316 = .ok (.ifCond .ne 5, 3) := by decide +kernel
theorem dX12_faultOf_319 : decode cX12_faultOf 319 = .ok (.iload_n 1, 1) := by decide +kernel
theorem dX12_faultOf_320 : decode cX12_faultOf 320 = .ok (.ireturn, 1) := by decide +kernel
theorem dX12_faultOf_321 : decode cX12_faultOf 321 = .ok (.aload_n 0, 1) := by decide +kernel
theorem dX12_faultOf_322 : decode cX12_faultOf 322 = .ok (.getfield 68, 3) := by decide +kernel
theorem dX12_faultOf_325 : decode cX12_faultOf 325 = .ok (.iload_n 2, 1) := by decide +kernel
theorem dX12_faultOf_326 : decode cX12_faultOf 326 = .ok (.iaload, 1) := by decide +kernel
theorem dX12_faultOf_327 : decode cX12_faultOf 327 = .ok (.istore_n 2, 1) := by decide +kernel
theorem dX12_faultOf_328 : decode cX12_faultOf 328 = .ok (.iinc 3 (-1), 3) := by decide +kernel
theorem dX12_faultOf_331 : decode cX12_faultOf 331 = .ok (.iconst 0, 1) := by decide +kernel
theorem dX12_faultOf_332 : decode cX12_faultOf 332 = .ok (.istore 4, 2) := by decide +kernel
theorem dX12_faultOf_334 : decode cX12_faultOf 334 = .ok (.iinc 5 1, 3) := by decide +kernel
theorem dX12_faultOf_337 : decode cX12_faultOf 337 = .ok (.goto 5, 3) := by decide +kernel
theorem dX12_faultOf_340 : decode cX12_faultOf 340 = .ok (.iload_n 1, 1) := by decide +kernel
theorem dX12_faultOf_341 : decode cX12_faultOf 341 = .ok (.ireturn, 1) := by decide +kernel
theorem dX12_faultOf_342 : decode cX12_faultOf 342 = .ok (.iload 5, 2) := by decide +kernel
theorem dX12_faultOf_344 : decode cX12_faultOf 344 = .ok (.istore_n 1, 1) := by decide +kernel
theorem dX12_faultOf_345 : decode cX12_faultOf 345 = .ok (.goto (-331), 3) := by decide +kernel
theorem dX12_text_0 : decode cX12_text 0 = .ok (.aload_n 0, 1) := by decide +kernel
theorem dX12_text_1 : decode cX12_text 1 = .ok (.invokevirtual 307, 3) := by decide +kernel
theorem dX12_text_4 : decode cX12_text 4 = .ok (.istore_n 1, 1) := by decide +kernel
theorem dX12_text_5 : decode cX12_text 5 = .ok (.aload_n 0, 1) := by decide +kernel
theorem dX12_text_6 : decode cX12_text 6 = .ok (.iconst 0, 1) := by decide +kernel
theorem dX12_text_7 : decode cX12_text 7 = .ok (.putfield 162, 3) := by decide +kernel
theorem dX12_text_10 : decode cX12_text 10 = .ok (.iload_n 1, 1) := by decide +kernel
theorem dX12_text_11 : decode cX12_text 11 = .ok (.iconst (-1), 1) := by decide +kernel
theorem dX12_text_12 : decode cX12_text 12 = .ok (.if_icmp .eq 8, 3) := by decide +kernel
theorem dX12_text_15 : decode cX12_text 15 = .ok (.bipush (-100), 2) := by decide +kernel
theorem dX12_text_17 : decode cX12_text 17 = .ok (.iload_n 1, 1) := by decide +kernel
theorem dX12_text_18 : decode cX12_text 18 = .ok (.isub, 1) := by decide +kernel
theorem dX12_text_19 : decode cX12_text 19 = .ok (.ireturn, 1) := by decide +kernel
theorem dX12_text_20 : decode cX12_text 20 = .ok (.aload_n 0, 1) := by decide +kernel
theorem dX12_text_21 : decode cX12_text 21 = .ok (.aload_n 0, 1) := by decide +kernel
theorem dX12_text_22 : decode cX12_text 22 = .ok (.getfield 298, 3) := by decide +kernel
theorem dX12_text_25 : decode cX12_text 25 = .ok (.putfield 165, 3) := by decide +kernel
theorem dX12_text_28 : decode cX12_text 28 = .ok (.iconst 0, 1) := by decide +kernel
theorem dX12_text_29 : decode cX12_text 29 = .ok (.istore_n 2, 1) := by decide +kernel
theorem dX12_text_30 : decode cX12_text 30 = .ok (.iload_n 2, 1) := by decide +kernel
theorem dX12_text_31 : decode cX12_text 31 = .ok (.aload_n 0, 1) := by decide +kernel
theorem dX12_text_32 : decode cX12_text 32 = .ok (.getfield 165, 3) := by decide +kernel
theorem dX12_text_35 : decode cX12_text 35 = .ok (.if_icmp .ge 45, 3) := by decide +kernel
theorem dX12_text_38 : decode cX12_text 38 = .ok (.aload_n 0, 1) := by decide +kernel
theorem dX12_text_39 : decode cX12_text 39 = .ok (.getfield 53, 3) := by decide +kernel
theorem dX12_text_42 : decode cX12_text 42 = .ok (.iload_n 2, 1) := by decide +kernel
theorem dX12_text_43 : decode cX12_text 43 = .ok (.aload_n 0, 1) := by decide +kernel
theorem dX12_text_44 : decode cX12_text 44 = .ok (.getfield 62, 3) := by decide +kernel
theorem dX12_text_47 : decode cX12_text 47 = .ok (.iload_n 2, 1) := by decide +kernel
theorem dX12_text_48 : decode cX12_text 48 = .ok (.iaload, 1) := by decide +kernel
theorem dX12_text_49 : decode cX12_text 49 = .ok (.iastore, 1) := by decide +kernel
theorem dX12_text_50 : decode cX12_text 50 = .ok (.aload_n 0, 1) := by decide +kernel
theorem dX12_text_51 : decode cX12_text 51 = .ok (.getfield 56, 3) := by decide +kernel
theorem dX12_text_54 : decode cX12_text 54 = .ok (.iload_n 2, 1) := by decide +kernel
theorem dX12_text_55 : decode cX12_text 55 = .ok (.aload_n 0, 1) := by decide +kernel
theorem dX12_text_56 : decode cX12_text 56 = .ok (.getfield 65, 3) := by decide +kernel
theorem dX12_text_59 : decode cX12_text 59 = .ok (.iload_n 2, 1) := by decide +kernel
theorem dX12_text_60 : decode cX12_text 60 = .ok (.iaload, 1) := by decide +kernel
theorem dX12_text_61 : decode cX12_text 61 = .ok (.iastore, 1) := by decide +kernel
theorem dX12_text_62 : decode cX12_text 62 = .ok (.aload_n 0, 1) := by decide +kernel
theorem dX12_text_63 : decode cX12_text 63 = .ok (.getfield 59, 3) := by decide +kernel
theorem dX12_text_66 : decode cX12_text 66 = .ok (.iload_n 2, 1) := by decide +kernel
theorem dX12_text_67 : decode cX12_text 67 = .ok (.aload_n 0, 1) := by decide +kernel
theorem dX12_text_68 : decode cX12_text 68 = .ok (.getfield 68, 3) := by decide +kernel
theorem dX12_text_71 : decode cX12_text 71 = .ok (.iload_n 2, 1) := by decide +kernel
theorem dX12_text_72 : decode cX12_text 72 = .ok (.iaload, 1) := by decide +kernel
theorem dX12_text_73 : decode cX12_text 73 = .ok (.iastore, 1) := by decide +kernel
theorem dX12_text_74 : decode cX12_text 74 = .ok (.iinc 2 1, 3) := by decide +kernel
theorem dX12_text_77 : decode cX12_text 77 = .ok (.goto (-47), 3) := by decide +kernel
theorem dX12_text_80 : decode cX12_text 80 = .ok (.aload_n 0, 1) := by decide +kernel
theorem dX12_text_81 : decode cX12_text 81 = .ok (.getfield 165, 3) := by decide +kernel
theorem dX12_text_84 : decode cX12_text 84 = .ok (.ireturn, 1) := by decide +kernel
theorem dX12_linesIn_0 : decode cX12_linesIn 0 = .ok (.iload_n 1, 1) := by decide +kernel
theorem dX12_linesIn_1 : decode cX12_linesIn 1 = .ok (.ifCond .ne 7, 3) := by decide +kernel
theorem dX12_linesIn_4 : decode cX12_linesIn 4 = .ok (.iconst 0, 1) := by decide +kernel
theorem dX12_linesIn_5 : decode cX12_linesIn 5 = .ok (.goto 4, 3) := by decide +kernel
theorem dX12_linesIn_8 : decode cX12_linesIn 8 = .ok (.iconst 1, 1) := by decide +kernel
theorem dX12_linesIn_9 : decode cX12_linesIn 9 = .ok (.istore_n 2, 1) := by decide +kernel
theorem dX12_linesIn_10 : decode cX12_linesIn 10 = .ok (.iload_n 1, 1) := by decide +kernel
theorem dX12_linesIn_11 : decode cX12_linesIn 11 = .ok (.iconst 1, 1) := by decide +kernel
theorem dX12_linesIn_12 : decode cX12_linesIn 12 = .ok (.iadd, 1) := by decide +kernel
theorem dX12_linesIn_13 : decode cX12_linesIn 13 = .ok (.istore_n 3, 1) := by decide +kernel
theorem dX12_linesIn_14 : decode cX12_linesIn 14 = .ok (.iload_n 3, 1) := by decide +kernel
theorem dX12_linesIn_15 : decode cX12_linesIn 15 = .ok (.aload_n 0, 1) := by decide +kernel
theorem dX12_linesIn_16 : decode cX12_linesIn 16 = .ok (.getfield 165, 3) := by decide +kernel
theorem dX12_linesIn_19 : decode cX12_linesIn 19 = .ok (.if_icmp .ge 27, 3) := by decide +kernel
theorem dX12_linesIn_22 : decode cX12_linesIn 22 = .ok (.iload_n 2, 1) := by decide +kernel
theorem dX12_linesIn_23 : decode cX12_linesIn 23 = .ok (.aload_n 0, 1) := by decide +kernel
theorem dX12_linesIn_24 : decode cX12_linesIn 24 = .ok (.getfield 59, 3) := by decide +kernel
theorem dX12_linesIn_27 : decode cX12_linesIn 27 = .ok (.iload_n 3, 1) := by decide +kernel
theorem dX12_linesIn_28 : decode cX12_linesIn 28 = .ok (.iaload, 1) := by decide +kernel
theorem dX12_linesIn_29 : decode cX12_linesIn 29 = .ok (.iload_n 1, 1) := by decide +kernel
theorem dX12_linesIn_30 : decode cX12_linesIn 30 = .ok (.if_icmp .ne 7, 3) := by decide +kernel
theorem dX12_linesIn_33 : decode cX12_linesIn 33 = .ok (.iconst 1, 1) := by decide +kernel
theorem dX12_linesIn_34 : decode cX12_linesIn 34 = .ok (.goto 4, 3) := by decide +kernel
theorem dX12_linesIn_37 : decode cX12_linesIn 37 = .ok (.iconst 0, 1) := by decide +kernel
theorem dX12_linesIn_38 : decode cX12_linesIn 38 = .ok (.iadd, 1) := by decide +kernel
theorem dX12_linesIn_39 : decode cX12_linesIn 39 = .ok (.istore_n 2, 1) := by decide +kernel
theorem dX12_linesIn_40 : decode cX12_linesIn 40 = .ok (.iinc 3 1, 3) := by decide +kernel
theorem dX12_linesIn_43 : decode cX12_linesIn 43 = .ok (.goto (-29), 3) := by decide +kernel
theorem dX12_linesIn_46 : decode cX12_linesIn 46 = .ok (.iload_n 2, 1) := by decide +kernel
theorem dX12_linesIn_47 : decode cX12_linesIn 47 = .ok (.ireturn, 1) := by decide +kernel
theorem dX12_costIn_0 : decode cX12_costIn 0 = .ok (.aload_n 0, 1) := by decide +kernel
theorem dX12_costIn_1 : decode cX12_costIn 1 = .ok (.getfield 53, 3) := by decide +kernel
theorem dX12_costIn_4 : decode cX12_costIn 4 = .ok (.iload_n 1, 1) := by decide +kernel
theorem dX12_costIn_5 : decode cX12_costIn 5 = .ok (.iaload, 1) := by decide +kernel
theorem dX12_costIn_6 : decode cX12_costIn 6 = .ok (.aload_n 0, 1) := by decide +kernel
theorem dX12_costIn_7 : decode cX12_costIn 7 = .ok (.getfield 56, 3) := by decide +kernel
theorem dX12_costIn_10 : decode cX12_costIn 10 = .ok (.iload_n 1, 1) := by decide +kernel
theorem dX12_costIn_11 : decode cX12_costIn 11 = .ok (.iaload, 1) := by decide +kernel
theorem dX12_costIn_12 : decode cX12_costIn 12 = .ok (.aload_n 0, 1) := by decide +kernel
theorem dX12_costIn_13 : decode cX12_costIn 13 = .ok (.iload_n 1, 1) := by decide +kernel
theorem dX12_costIn_14 : decode cX12_costIn 14 = .ok (.invokevirtual 310, 3) := by decide +kernel
theorem dX12_costIn_17 : decode cX12_costIn 17 = .ok (.iload_n 1, 1) := by decide +kernel
theorem dX12_costIn_18 : decode cX12_costIn 18 = .ok (.invokestatic 137, 3) := by decide +kernel
theorem dX12_costIn_21 : decode cX12_costIn 21 = .ok (.ireturn, 1) := by decide +kernel
theorem dX12_counts_0 : decode cX12_counts 0 = .ok (.aload_n 0, 1) := by decide +kernel
theorem dX12_counts_1 : decode cX12_counts 1 = .ok (.getfield 165, 3) := by decide +kernel
theorem dX12_counts_4 : decode cX12_counts 4 = .ok (.iconst 1, 1) := by decide +kernel
theorem dX12_counts_5 : decode cX12_counts 5 = .ok (.isub, 1) := by decide +kernel
theorem dX12_counts_6 : decode cX12_counts 6 = .ok (.istore_n 2, 1) := by decide +kernel
theorem dX12_counts_7 : decode cX12_counts 7 = .ok (.iload_n 2, 1) := by decide +kernel
theorem dX12_counts_8 : decode cX12_counts 8 = .ok (.ifCond .lt 241, 3) := by decide +kernel
theorem dX12_counts_11 : decode cX12_counts 11 = .ok (.aload_n 0, 1) := by decide +kernel
theorem dX12_counts_12 : decode cX12_counts 12 = .ok (.getfield 71, 3) := by decide +kernel
theorem dX12_counts_15 : decode cX12_counts 15 = .ok (.iload_n 2, 1) := by decide +kernel
theorem dX12_counts_16 : decode cX12_counts 16 = .ok (.iload_n 1, 1) := by decide +kernel
theorem dX12_counts_17 : decode cX12_counts 17 = .ok (.iconst 1, 1) := by decide +kernel
theorem dX12_counts_18 : decode cX12_counts 18 = .ok (.if_icmp .ne 12, 3) := by decide +kernel
theorem dX12_counts_21 : decode cX12_counts 21 = .ok (.aload_n 0, 1) := by decide +kernel
theorem dX12_counts_22 : decode cX12_counts 22 = .ok (.iload_n 2, 1) := by decide +kernel
theorem dX12_counts_23 : decode cX12_counts 23 = .ok (.invokevirtual 313, 3) := by decide +kernel
theorem dX12_counts_26 : decode cX12_counts 26 = .ok (.i2l, 1) := by decide +kernel
theorem dX12_counts_27 : decode cX12_counts 27 = .ok (.goto 4, 3) := by decide +kernel
theorem dX12_counts_30 : decode cX12_counts 30 = .ok (.lconst 1, 1) := by decide +kernel
theorem dX12_counts_31 : decode cX12_counts 31 = .ok (.lastore, 1) := by decide +kernel
theorem dX12_counts_32 : decode cX12_counts 32 = .ok (.aload_n 0, 1) := by decide +kernel
theorem dX12_counts_33 : decode cX12_counts 33 = .ok (.getfield 75, 3) := by decide +kernel
theorem dX12_counts_36 : decode cX12_counts 36 = .ok (.iload_n 2, 1) := by decide +kernel
theorem dX12_counts_37 : decode cX12_counts 37 = .ok (.lconst 0, 1) := by decide +kernel
theorem dX12_counts_38 : decode cX12_counts 38 = .ok (.lastore, 1) := by decide +kernel
theorem dX12_counts_39 : decode cX12_counts 39 = .ok (.aload_n 0, 1) := by decide +kernel
theorem dX12_counts_40 : decode cX12_counts 40 = .ok (.getfield 78, 3) := by decide +kernel
theorem dX12_counts_43 : decode cX12_counts 43 = .ok (.iload_n 2, 1) := by decide +kernel
theorem dX12_counts_44 : decode cX12_counts 44 = .ok (.lconst 1, 1) := by decide +kernel
theorem dX12_counts_45 : decode cX12_counts 45 = .ok (.lastore, 1) := by decide +kernel
theorem dX12_counts_46 : decode cX12_counts 46 = .ok (.aload_n 0, 1) := by decide +kernel
theorem dX12_counts_47 : decode cX12_counts 47 = .ok (.getfield 81, 3) := by decide +kernel
theorem dX12_counts_50 : decode cX12_counts 50 = .ok (.iload_n 2, 1) := by decide +kernel
theorem dX12_counts_51 : decode cX12_counts 51 = .ok (.lconst 1, 1) := by decide +kernel
theorem dX12_counts_52 : decode cX12_counts 52 = .ok (.lastore, 1) := by decide +kernel
theorem dX12_counts_53 : decode cX12_counts 53 = .ok (.iload_n 2, 1) := by decide +kernel
theorem dX12_counts_54 : decode cX12_counts 54 = .ok (.iconst 1, 1) := by decide +kernel
theorem dX12_counts_55 : decode cX12_counts 55 = .ok (.iadd, 1) := by decide +kernel
theorem dX12_counts_56 : decode cX12_counts 56 = .ok (.istore_n 3, 1) := by decide +kernel
theorem dX12_counts_57 : decode cX12_counts 57 = .ok (.iload_n 3, 1) := by decide +kernel
theorem dX12_counts_58 : decode cX12_counts 58 = .ok (.aload_n 0, 1) := by decide +kernel
theorem dX12_counts_59 : decode cX12_counts 59 = .ok (.getfield 165, 3) := by decide +kernel
theorem dX12_counts_62 : decode cX12_counts 62 = .ok (.if_icmp .ge 181, 3) := by decide +kernel
theorem dX12_counts_65 : decode cX12_counts 65 = .ok (.aload_n 0, 1) := by decide +kernel
theorem dX12_counts_66 : decode cX12_counts 66 = .ok (.getfield 59, 3) := by decide +kernel
theorem dX12_counts_69 : decode cX12_counts 69 = .ok (.iload_n 3, 1) := by decide +kernel
theorem dX12_counts_70 : decode cX12_counts 70 = .ok (.iaload, 1) := by decide +kernel
theorem dX12_counts_71 : decode cX12_counts 71 = .ok (.iload_n 2, 1) := by decide +kernel
theorem dX12_counts_72 : decode cX12_counts 72 = .ok (.if_icmp .eq 6, 3) := by decide +kernel
theorem dX12_counts_75 : decode cX12_counts 75 = .ok (.goto 162, 3) := by decide +kernel
theorem dX12_counts_78 : decode cX12_counts 78 = .ok (.iload_n 1, 1) := by decide +kernel
theorem dX12_counts_79 : decode cX12_counts 79 = .ok (.iconst 2, 1) := by decide +kernel
theorem dX12_counts_80 : decode cX12_counts 80 = .ok (.if_icmp .eq 19, 3) := by decide +kernel
theorem dX12_counts_83 : decode cX12_counts 83 = .ok (.aload_n 0, 1) := by decide +kernel
theorem dX12_counts_84 : decode cX12_counts 84 = .ok (.getfield 71, 3) := by decide +kernel
theorem dX12_counts_87 : decode cX12_counts 87 = .ok (.iload_n 3, 1) := by decide +kernel
theorem dX12_counts_88 : decode cX12_counts 88 = .ok (.laload, 1) := by decide +kernel
theorem dX12_counts_89 : decode cX12_counts 89 = .ok (.aload_n 0, 1) := by decide +kernel
theorem dX12_counts_90 : decode cX12_counts 90 = .ok (.getfield 75, 3) := by decide +kernel
theorem dX12_counts_93 : decode cX12_counts 93 = .ok (.iload_n 3, 1) := by decide +kernel
theorem dX12_counts_94 : decode cX12_counts 94 = .ok (.laload, 1) := by decide +kernel
theorem dX12_counts_95 : decode cX12_counts 95 = .ok (.lcmp, 1) := by decide +kernel
theorem dX12_counts_96 : decode cX12_counts 96 = .ok (.ifCond .ne 7, 3) := by decide +kernel
theorem dX12_counts_99 : decode cX12_counts 99 = .ok (.iconst 1, 1) := by decide +kernel
theorem dX12_counts_100 : decode cX12_counts 100 = .ok (.goto 4, 3) := by decide +kernel
theorem dX12_counts_103 : decode cX12_counts 103 = .ok (.iconst 0, 1) := by decide +kernel
theorem dX12_counts_104 : decode cX12_counts 104 = .ok (.istore 4, 2) := by decide +kernel
theorem dX12_counts_106 : decode cX12_counts 106 = .ok (.aload_n 0, 1) := by decide +kernel
theorem dX12_counts_107 : decode cX12_counts 107 = .ok (.getfield 78, 3) := by decide +kernel
theorem dX12_counts_110 : decode cX12_counts 110 = .ok (.iload_n 2, 1) := by decide +kernel
theorem dX12_counts_111 : decode cX12_counts 111 = .ok (.dup2, 1) := by decide +kernel
theorem dX12_counts_112 : decode cX12_counts 112 = .ok (.laload, 1) := by decide +kernel
theorem dX12_counts_113 : decode cX12_counts 113 = .ok (.iload 4, 2) := by decide +kernel
theorem dX12_counts_115 : decode cX12_counts 115 = .ok (.ifCond .eq 19, 3) := by decide +kernel
theorem dX12_counts_118 : decode cX12_counts 118 = .ok (.aload_n 0, 1) := by decide +kernel
theorem dX12_counts_119 : decode cX12_counts 119 = .ok (.getfield 78, 3) := by decide +kernel
theorem dX12_counts_122 : decode cX12_counts 122 = .ok (.iload_n 3, 1) := by decide +kernel
theorem dX12_counts_123 : decode cX12_counts 123 = .ok (.laload, 1) := by decide +kernel
theorem dX12_counts_124 : decode cX12_counts 124 = .ok (.aload_n 0, 1) := by decide +kernel
theorem dX12_counts_125 : decode cX12_counts 125 = .ok (.getfield 81, 3) := by decide +kernel
theorem dX12_counts_128 : decode cX12_counts 128 = .ok (.iload_n 3, 1) := by decide +kernel
theorem dX12_counts_129 : decode cX12_counts 129 = .ok (.laload, 1) := by decide +kernel
theorem dX12_counts_130 : decode cX12_counts 130 = .ok (.ladd, 1) := by decide +kernel
theorem dX12_counts_131 : decode cX12_counts 131 = .ok (.goto 34, 3) := by decide +kernel
theorem dX12_counts_134 : decode cX12_counts 134 = .ok (.aload_n 0, 1) := by decide +kernel
theorem dX12_counts_135 : decode cX12_counts 135 = .ok (.getfield 71, 3) := by decide +kernel
theorem dX12_counts_138 : decode cX12_counts 138 = .ok (.iload_n 3, 1) := by decide +kernel
theorem dX12_counts_139 : decode cX12_counts 139 = .ok (.laload, 1) := by decide +kernel
theorem dX12_counts_140 : decode cX12_counts 140 = .ok (.aload_n 0, 1) := by decide +kernel
theorem dX12_counts_141 : decode cX12_counts 141 = .ok (.getfield 75, 3) := by decide +kernel
theorem dX12_counts_144 : decode cX12_counts 144 = .ok (.iload_n 3, 1) := by decide +kernel
theorem dX12_counts_145 : decode cX12_counts 145 = .ok (.laload, 1) := by decide +kernel
theorem dX12_counts_146 : decode cX12_counts 146 = .ok (.lcmp, 1) := by decide +kernel
theorem dX12_counts_147 : decode cX12_counts 147 = .ok (.ifCond .ge 12, 3) := by decide +kernel
theorem dX12_counts_150 : decode cX12_counts 150 = .ok (.aload_n 0, 1) := by decide +kernel
theorem dX12_counts_151 : decode cX12_counts 151 = .ok (.getfield 78, 3) := by decide +kernel
theorem dX12_counts_154 : decode cX12_counts 154 = .ok (.iload_n 3, 1) := by decide +kernel
theorem dX12_counts_155 : decode cX12_counts 155 = .ok (.laload, 1) := by decide +kernel
theorem dX12_counts_156 : decode cX12_counts 156 = .ok (.goto 9, 3) := by decide +kernel
theorem dX12_counts_159 : decode cX12_counts 159 = .ok (.aload_n 0, 1) := by decide +kernel
theorem dX12_counts_160 : decode cX12_counts 160 = .ok (.getfield 81, 3) := by decide +kernel
theorem dX12_counts_163 : decode cX12_counts 163 = .ok (.iload_n 3, 1) := by decide +kernel
theorem dX12_counts_164 : decode cX12_counts 164 = .ok (.laload, 1) := by decide +kernel
theorem dX12_counts_165 : decode cX12_counts 165 = .ok (.lmul, 1) := by decide +kernel
theorem dX12_counts_166 : decode cX12_counts 166 = .ok (.lastore, 1) := by decide +kernel
theorem dX12_counts_167 : decode cX12_counts 167 = .ok (.aload_n 0, 1) := by decide +kernel
theorem dX12_counts_168 : decode cX12_counts 168 = .ok (.getfield 71, 3) := by decide +kernel
theorem dX12_counts_171 : decode cX12_counts 171 = .ok (.iload_n 2, 1) := by decide +kernel
theorem dX12_counts_172 : decode cX12_counts 172 = .ok (.dup2, 1) := by decide +kernel
theorem dX12_counts_173 : decode cX12_counts 173 = .ok (.laload, 1) := by decide +kernel
theorem dX12_counts_174 : decode cX12_counts 174 = .ok (.aload_n 0, 1) := by decide +kernel
theorem dX12_counts_175 : decode cX12_counts 175 = .ok (.getfield 71, 3) := by decide +kernel
theorem dX12_counts_178 : decode cX12_counts 178 = .ok (.iload_n 3, 1) := by decide +kernel
theorem dX12_counts_179 : decode cX12_counts 179 = .ok (.laload, 1) := by decide +kernel
theorem dX12_counts_180 : decode cX12_counts 180 = .ok (.aload_n 0, 1) := by decide +kernel
theorem dX12_counts_181 : decode cX12_counts 181 = .ok (.getfield 75, 3) := by decide +kernel
theorem dX12_counts_184 : decode cX12_counts 184 = .ok (.iload_n 3, 1) := by decide +kernel
theorem dX12_counts_185 : decode cX12_counts 185 = .ok (.laload, 1) := by decide +kernel
theorem dX12_counts_186 : decode cX12_counts 186 = .ok (.lcmp, 1) := by decide +kernel
theorem dX12_counts_187 : decode cX12_counts 187 = .ok (.ifCond .ge 12, 3) := by decide +kernel
theorem dX12_counts_190 : decode cX12_counts 190 = .ok (.aload_n 0, 1) := by decide +kernel
theorem dX12_counts_191 : decode cX12_counts 191 = .ok (.getfield 71, 3) := by decide +kernel
theorem dX12_counts_194 : decode cX12_counts 194 = .ok (.iload_n 3, 1) := by decide +kernel
theorem dX12_counts_195 : decode cX12_counts 195 = .ok (.laload, 1) := by decide +kernel
theorem dX12_counts_196 : decode cX12_counts 196 = .ok (.goto 9, 3) := by decide +kernel
theorem dX12_counts_199 : decode cX12_counts 199 = .ok (.aload_n 0, 1) := by decide +kernel
theorem dX12_counts_200 : decode cX12_counts 200 = .ok (.getfield 75, 3) := by decide +kernel
theorem dX12_counts_203 : decode cX12_counts 203 = .ok (.iload_n 3, 1) := by decide +kernel
theorem dX12_counts_204 : decode cX12_counts 204 = .ok (.laload, 1) := by decide +kernel
theorem dX12_counts_205 : decode cX12_counts 205 = .ok (.ladd, 1) := by decide +kernel
theorem dX12_counts_206 : decode cX12_counts 206 = .ok (.lastore, 1) := by decide +kernel
theorem dX12_counts_207 : decode cX12_counts 207 = .ok (.aload_n 0, 1) := by decide +kernel
theorem dX12_counts_208 : decode cX12_counts 208 = .ok (.getfield 75, 3) := by decide +kernel
theorem dX12_counts_211 : decode cX12_counts 211 = .ok (.iload_n 2, 1) := by decide +kernel
theorem dX12_counts_212 : decode cX12_counts 212 = .ok (.dup2, 1) := by decide +kernel
theorem dX12_counts_213 : decode cX12_counts 213 = .ok (.laload, 1) := by decide +kernel
theorem dX12_counts_214 : decode cX12_counts 214 = .ok (.aload_n 0, 1) := by decide +kernel
theorem dX12_counts_215 : decode cX12_counts 215 = .ok (.getfield 71, 3) := by decide +kernel
theorem dX12_counts_218 : decode cX12_counts 218 = .ok (.iload_n 3, 1) := by decide +kernel
theorem dX12_counts_219 : decode cX12_counts 219 = .ok (.laload, 1) := by decide +kernel
theorem dX12_counts_220 : decode cX12_counts 220 = .ok (.ladd, 1) := by decide +kernel
theorem dX12_counts_221 : decode cX12_counts 221 = .ok (.lastore, 1) := by decide +kernel
theorem dX12_counts_222 : decode cX12_counts 222 = .ok (.aload_n 0, 1) := by decide +kernel
theorem dX12_counts_223 : decode cX12_counts 223 = .ok (.getfield 81, 3) := by decide +kernel
theorem dX12_counts_226 : decode cX12_counts 226 = .ok (.iload_n 2, 1) := by decide +kernel
theorem dX12_counts_227 : decode cX12_counts 227 = .ok (.dup2, 1) := by decide +kernel
theorem dX12_counts_228 : decode cX12_counts 228 = .ok (.laload, 1) := by decide +kernel
theorem dX12_counts_229 : decode cX12_counts 229 = .ok (.aload_n 0, 1) := by decide +kernel
theorem dX12_counts_230 : decode cX12_counts 230 = .ok (.getfield 78, 3) := by decide +kernel
theorem dX12_counts_233 : decode cX12_counts 233 = .ok (.iload_n 3, 1) := by decide +kernel
theorem dX12_counts_234 : decode cX12_counts 234 = .ok (.laload, 1) := by decide +kernel
theorem dX12_counts_235 : decode cX12_counts 235 = .ok (.lmul, 1) := by decide +kernel
theorem dX12_counts_236 : decode cX12_counts 236 = .ok (.lastore, 1) := by decide +kernel
theorem dX12_counts_237 : decode cX12_counts 237 = .ok (.iinc 3 1, 3) := by decide +kernel
theorem dX12_counts_240 : decode cX12_counts 240 = .ok (.goto (-183), 3) := by decide +kernel
theorem dX12_counts_243 : decode cX12_counts 243 = .ok (.iinc 2 (-1), 3) := by decide +kernel
theorem dX12_counts_246 : decode cX12_counts 246 = .ok (.goto (-239), 3) := by decide +kernel
theorem dX12_counts_249 : decode cX12_counts 249 = .ok (.return_, 1) := by decide +kernel
theorem dX12_bareOnes_0 : decode cX12_bareOnes 0 = .ok (.aload_n 0, 1) := by decide +kernel
theorem dX12_bareOnes_1 : decode cX12_bareOnes 1 = .ok (.getfield 165, 3) := by decide +kernel
theorem dX12_bareOnes_4 : decode cX12_bareOnes 4 = .ok (.iconst 1, 1) := by decide +kernel
theorem dX12_bareOnes_5 : decode cX12_bareOnes 5 = .ok (.isub, 1) := by decide +kernel
theorem dX12_bareOnes_6 : decode cX12_bareOnes 6 = .ok (.istore_n 1, 1) := by decide +kernel
theorem dX12_bareOnes_7 : decode cX12_bareOnes 7 = .ok (.iload_n 1, 1) := by decide +kernel
theorem dX12_bareOnes_8 : decode cX12_bareOnes 8 = .ok (.ifCond .lt 135, 3) := by decide +kernel
theorem dX12_bareOnes_11 : decode cX12_bareOnes 11 = .ok (.aload_n 0, 1) := by decide +kernel
theorem dX12_bareOnes_12 : decode cX12_bareOnes 12 = .ok (.getfield 75, 3) := by decide +kernel
theorem dX12_bareOnes_15 : decode cX12_bareOnes 15 = .ok (.iload_n 1, 1) := by decide +kernel
theorem dX12_bareOnes_16 : decode cX12_bareOnes 16 = .ok (.lconst 1, 1) := by decide +kernel
theorem dX12_bareOnes_17 : decode cX12_bareOnes 17 = .ok (.lastore, 1) := by decide +kernel
theorem dX12_bareOnes_18 : decode cX12_bareOnes 18 = .ok (.aload_n 0, 1) := by decide +kernel
theorem dX12_bareOnes_19 : decode cX12_bareOnes 19 = .ok (.getfield 71, 3) := by decide +kernel
theorem dX12_bareOnes_22 : decode cX12_bareOnes 22 = .ok (.iload_n 1, 1) := by decide +kernel
theorem dX12_bareOnes_23 : decode cX12_bareOnes 23 = .ok (.lconst 1, 1) := by decide +kernel
theorem dX12_bareOnes_24 : decode cX12_bareOnes 24 = .ok (.lastore, 1) := by decide +kernel
theorem dX12_bareOnes_25 : decode cX12_bareOnes 25 = .ok (.aload_n 0, 1) := by decide +kernel
theorem dX12_bareOnes_26 : decode cX12_bareOnes 26 = .ok (.getfield 84, 3) := by decide +kernel
theorem dX12_bareOnes_29 : decode cX12_bareOnes 29 = .ok (.iload_n 1, 1) := by decide +kernel
theorem dX12_bareOnes_30 : decode cX12_bareOnes 30 = .ok (.lconst 1, 1) := by decide +kernel
theorem dX12_bareOnes_31 : decode cX12_bareOnes 31 = .ok (.lastore, 1) := by decide +kernel
theorem dX12_bareOnes_32 : decode cX12_bareOnes 32 = .ok (.iload_n 1, 1) := by decide +kernel
theorem dX12_bareOnes_33 : decode cX12_bareOnes 33 = .ok (.iconst 1, 1) := by decide +kernel
theorem dX12_bareOnes_34 : decode cX12_bareOnes 34 = .ok (.iadd, 1) := by decide +kernel
theorem dX12_bareOnes_35 : decode cX12_bareOnes 35 = .ok (.istore_n 2, 1) := by decide +kernel
theorem dX12_bareOnes_36 : decode cX12_bareOnes 36 = .ok (.iload_n 2, 1) := by decide +kernel
theorem dX12_bareOnes_37 : decode cX12_bareOnes 37 = .ok (.aload_n 0, 1) := by decide +kernel
theorem dX12_bareOnes_38 : decode cX12_bareOnes 38 = .ok (.getfield 165, 3) := by decide +kernel
theorem dX12_bareOnes_41 : decode cX12_bareOnes 41 = .ok (.if_icmp .ge 81, 3) := by decide +kernel
theorem dX12_bareOnes_44 : decode cX12_bareOnes 44 = .ok (.aload_n 0, 1) := by decide +kernel
theorem dX12_bareOnes_45 : decode cX12_bareOnes 45 = .ok (.getfield 59, 3) := by decide +kernel
theorem dX12_bareOnes_48 : decode cX12_bareOnes 48 = .ok (.iload_n 2, 1) := by decide +kernel
theorem dX12_bareOnes_49 : decode cX12_bareOnes 49 = .ok (.iaload, 1) := by decide +kernel
theorem dX12_bareOnes_50 : decode cX12_bareOnes 50 = .ok (.iload_n 1, 1) := by decide +kernel
theorem dX12_bareOnes_51 : decode cX12_bareOnes 51 = .ok (.if_icmp .eq 6, 3) := by decide +kernel
theorem dX12_bareOnes_54 : decode cX12_bareOnes 54 = .ok (.goto 62, 3) := by decide +kernel
theorem dX12_bareOnes_57 : decode cX12_bareOnes 57 = .ok (.aload_n 0, 1) := by decide +kernel
theorem dX12_bareOnes_58 : decode cX12_bareOnes 58 = .ok (.getfield 75, 3) := by decide +kernel
theorem dX12_bareOnes_61 : decode cX12_bareOnes 61 = .ok (.iload_n 1, 1) := by decide +kernel
theorem dX12_bareOnes_62 : decode cX12_bareOnes 62 = .ok (.dup2, 1) := by decide +kernel
theorem dX12_bareOnes_63 : decode cX12_bareOnes 63 = .ok (.laload, 1) := by decide +kernel
theorem dX12_bareOnes_64 : decode cX12_bareOnes 64 = .ok (.aload_n 0, 1) := by decide +kernel
theorem dX12_bareOnes_65 : decode cX12_bareOnes 65 = .ok (.getfield 71, 3) := by decide +kernel
theorem dX12_bareOnes_68 : decode cX12_bareOnes 68 = .ok (.iload_n 2, 1) := by decide +kernel
theorem dX12_bareOnes_69 : decode cX12_bareOnes 69 = .ok (.laload, 1) := by decide +kernel
theorem dX12_bareOnes_70 : decode cX12_bareOnes 70 = .ok (.aload_n 0, 1) := by decide +kernel
theorem dX12_bareOnes_71 : decode cX12_bareOnes 71 = .ok (.getfield 84, 3) := by decide +kernel
theorem dX12_bareOnes_74 : decode cX12_bareOnes 74 = .ok (.iload_n 2, 1) := by decide +kernel
theorem dX12_bareOnes_75 : decode cX12_bareOnes 75 = .ok (.laload, 1) := by decide +kernel
theorem dX12_bareOnes_76 : decode cX12_bareOnes 76 = .ok (.ladd, 1) := by decide +kernel
theorem dX12_bareOnes_77 : decode cX12_bareOnes 77 = .ok (.lmul, 1) := by decide +kernel
theorem dX12_bareOnes_78 : decode cX12_bareOnes 78 = .ok (.lastore, 1) := by decide +kernel
theorem dX12_bareOnes_79 : decode cX12_bareOnes 79 = .ok (.aload_n 0, 1) := by decide +kernel
theorem dX12_bareOnes_80 : decode cX12_bareOnes 80 = .ok (.getfield 71, 3) := by decide +kernel
theorem dX12_bareOnes_83 : decode cX12_bareOnes 83 = .ok (.iload_n 1, 1) := by decide +kernel
theorem dX12_bareOnes_84 : decode cX12_bareOnes 84 = .ok (.dup2, 1) := by decide +kernel
theorem dX12_bareOnes_85 : decode cX12_bareOnes 85 = .ok (.laload, 1) := by decide +kernel
theorem dX12_bareOnes_86 : decode cX12_bareOnes 86 = .ok (.aload_n 0, 1) := by decide +kernel
theorem dX12_bareOnes_87 : decode cX12_bareOnes 87 = .ok (.getfield 75, 3) := by decide +kernel
theorem dX12_bareOnes_90 : decode cX12_bareOnes 90 = .ok (.iload_n 2, 1) := by decide +kernel
theorem dX12_bareOnes_91 : decode cX12_bareOnes 91 = .ok (.laload, 1) := by decide +kernel
theorem dX12_bareOnes_92 : decode cX12_bareOnes 92 = .ok (.aload_n 0, 1) := by decide +kernel
theorem dX12_bareOnes_93 : decode cX12_bareOnes 93 = .ok (.getfield 71, 3) := by decide +kernel
theorem dX12_bareOnes_96 : decode cX12_bareOnes 96 = .ok (.iload_n 2, 1) := by decide +kernel
theorem dX12_bareOnes_97 : decode cX12_bareOnes 97 = .ok (.laload, 1) := by decide +kernel
theorem dX12_bareOnes_98 : decode cX12_bareOnes 98 = .ok (.ladd, 1) := by decide +kernel
theorem dX12_bareOnes_99 : decode cX12_bareOnes 99 = .ok (.lmul, 1) := by decide +kernel
theorem dX12_bareOnes_100 : decode cX12_bareOnes 100 = .ok (.lastore, 1) := by decide +kernel
theorem dX12_bareOnes_101 : decode cX12_bareOnes 101 = .ok (.aload_n 0, 1) := by decide +kernel
theorem dX12_bareOnes_102 : decode cX12_bareOnes 102 = .ok (.getfield 84, 3) := by decide +kernel
theorem dX12_bareOnes_105 : decode cX12_bareOnes 105 = .ok (.iload_n 1, 1) := by decide +kernel
theorem dX12_bareOnes_106 : decode cX12_bareOnes 106 = .ok (.dup2, 1) := by decide +kernel
theorem dX12_bareOnes_107 : decode cX12_bareOnes 107 = .ok (.laload, 1) := by decide +kernel
theorem dX12_bareOnes_108 : decode cX12_bareOnes 108 = .ok (.aload_n 0, 1) := by decide +kernel
theorem dX12_bareOnes_109 : decode cX12_bareOnes 109 = .ok (.getfield 71, 3) := by decide +kernel
theorem dX12_bareOnes_112 : decode cX12_bareOnes 112 = .ok (.iload_n 2, 1) := by decide +kernel
theorem dX12_bareOnes_113 : decode cX12_bareOnes 113 = .ok (.laload, 1) := by decide +kernel
theorem dX12_bareOnes_114 : decode cX12_bareOnes 114 = .ok (.lmul, 1) := by decide +kernel
theorem dX12_bareOnes_115 : decode cX12_bareOnes 115 = .ok (.lastore, 1) := by decide +kernel
theorem dX12_bareOnes_116 : decode cX12_bareOnes 116 = .ok (.iinc 2 1, 3) := by decide +kernel
theorem dX12_bareOnes_119 : decode cX12_bareOnes 119 = .ok (.goto (-83), 3) := by decide +kernel
theorem dX12_bareOnes_122 : decode cX12_bareOnes 122 = .ok (.aload_n 0, 1) := by decide +kernel
theorem dX12_bareOnes_123 : decode cX12_bareOnes 123 = .ok (.getfield 71, 3) := by decide +kernel
theorem dX12_bareOnes_126 : decode cX12_bareOnes 126 = .ok (.iload_n 1, 1) := by decide +kernel
theorem dX12_bareOnes_127 : decode cX12_bareOnes 127 = .ok (.dup2, 1) := by decide +kernel
theorem dX12_bareOnes_128 : decode cX12_bareOnes 128 = .ok (.laload, 1) := by decide +kernel
theorem dX12_bareOnes_129 : decode cX12_bareOnes 129 = .ok (.aload_n 0, 1) := by decide +kernel
theorem dX12_bareOnes_130 : decode cX12_bareOnes 130 = .ok (.getfield 84, 3) := by decide +kernel
theorem dX12_bareOnes_133 : decode cX12_bareOnes 133 = .ok (.iload_n 1, 1) := by decide +kernel
theorem dX12_bareOnes_134 : decode cX12_bareOnes 134 = .ok (.laload, 1) := by decide +kernel
theorem dX12_bareOnes_135 : decode cX12_bareOnes 135 = .ok (.lsub, 1) := by decide +kernel
theorem dX12_bareOnes_136 : decode cX12_bareOnes 136 = .ok (.lastore, 1) := by decide +kernel
theorem dX12_bareOnes_137 : decode cX12_bareOnes 137 = .ok (.iinc 1 (-1), 3) := by decide +kernel
theorem dX12_bareOnes_140 : decode cX12_bareOnes 140 = .ok (.goto (-133), 3) := by decide +kernel
theorem dX12_bareOnes_143 : decode cX12_bareOnes 143 = .ok (.aload_n 0, 1) := by decide +kernel
theorem dX12_bareOnes_144 : decode cX12_bareOnes 144 = .ok (.getfield 75, 3) := by decide +kernel
theorem dX12_bareOnes_147 : decode cX12_bareOnes 147 = .ok (.iconst 0, 1) := by decide +kernel
theorem dX12_bareOnes_148 : decode cX12_bareOnes 148 = .ok (.laload, 1) := by decide +kernel
theorem dX12_bareOnes_149 : decode cX12_bareOnes 149 = .ok (.aload_n 0, 1) := by decide +kernel
theorem dX12_bareOnes_150 : decode cX12_bareOnes 150 = .ok (.getfield 71, 3) := by decide +kernel
theorem dX12_bareOnes_153 : decode cX12_bareOnes 153 = .ok (.iconst 0, 1) := by decide +kernel
theorem dX12_bareOnes_154 : decode cX12_bareOnes 154 = .ok (.laload, 1) := by decide +kernel
theorem dX12_bareOnes_155 : decode cX12_bareOnes 155 = .ok (.ladd, 1) := by decide +kernel
theorem dX12_bareOnes_156 : decode cX12_bareOnes 156 = .ok (.lreturn, 1) := by decide +kernel
theorem dX12_tree_0 : decode cX12_tree 0 = .ok (.iload_n 1, 1) := by decide +kernel
theorem dX12_tree_1 : decode cX12_tree 1 = .ok (.iconst 0, 1) := by decide +kernel
theorem dX12_tree_2 : decode cX12_tree 2 = .ok (.iconst 5, 1) := by decide +kernel
theorem dX12_tree_3 : decode cX12_tree 3 = .ok (.invokestatic 125, 3) := by decide +kernel
theorem dX12_tree_6 : decode cX12_tree 6 = .ok (.ifCond .ne 7, 3) := by decide +kernel
theorem dX12_tree_9 : decode cX12_tree 9 = .ok (.ldc2_w 184, 3) := by decide +kernel
theorem dX12_tree_12 : decode cX12_tree 12 = .ok (.lreturn, 1) := by decide +kernel
theorem dX12_tree_13 : decode cX12_tree 13 = .ok (.aload_n 0, 1) := by decide +kernel
theorem dX12_tree_14 : decode cX12_tree 14 = .ok (.getfield 165, 3) := by decide +kernel
theorem dX12_tree_17 : decode cX12_tree 17 = .ok (.ifCond .ne 7, 3) := by decide +kernel
theorem dX12_tree_20 : decode cX12_tree 20 = .ok (.ldc2_w 316, 3) := by decide +kernel
theorem dX12_tree_23 : decode cX12_tree 23 = .ok (.lreturn, 1) := by decide +kernel
theorem dX12_tree_24 : decode cX12_tree 24 = .ok (.iload_n 1, 1) := by decide +kernel
theorem dX12_tree_25 : decode cX12_tree 25 = .ok (.iconst 5, 1) := by decide +kernel
theorem dX12_tree_26 : decode cX12_tree 26 = .ok (.if_icmp .ne 8, 3) := by decide +kernel
theorem dX12_tree_29 : decode cX12_tree 29 = .ok (.aload_n 0, 1) := by decide +kernel
theorem dX12_tree_30 : decode cX12_tree 30 = .ok (.invokevirtual 318, 3) := by decide +kernel
theorem dX12_tree_33 : decode cX12_tree 33 = .ok (.lreturn, 1) := by decide +kernel
theorem dX12_tree_34 : decode cX12_tree 34 = .ok (.aload_n 0, 1) := by decide +kernel
theorem dX12_tree_35 : decode cX12_tree 35 = .ok (.iload_n 1, 1) := by decide +kernel
theorem dX12_tree_36 : decode cX12_tree 36 = .ok (.iconst 1, 1) := by decide +kernel
theorem dX12_tree_37 : decode cX12_tree 37 = .ok (.if_icmp .ne 7, 3) := by decide +kernel
theorem dX12_tree_40 : decode cX12_tree 40 = .ok (.iconst 2, 1) := by decide +kernel
theorem dX12_tree_41 : decode cX12_tree 41 = .ok (.goto 13, 3) := by decide +kernel
theorem dX12_tree_44 : decode cX12_tree 44 = .ok (.iload_n 1, 1) := by decide +kernel
theorem dX12_tree_45 : decode cX12_tree 45 = .ok (.iconst 3, 1) := by decide +kernel
theorem dX12_tree_46 : decode cX12_tree 46 = .ok (.if_icmp .ge 7, 3) := by decide +kernel
theorem dX12_tree_49 : decode cX12_tree 49 = .ok (.iconst 0, 1) := by decide +kernel
theorem dX12_tree_50 : decode cX12_tree 50 = .ok (.goto 4, 3) := by decide +kernel
theorem dX12_tree_53 : decode cX12_tree 53 = .ok (.iconst 1, 1) := by decide +kernel
theorem dX12_tree_54 : decode cX12_tree 54 = .ok (.invokevirtual 322, 3) := by decide +kernel
theorem dX12_tree_57 : decode cX12_tree 57 = .ok (.iload_n 1, 1) := by decide +kernel
theorem dX12_tree_58 : decode cX12_tree 58 = .ok (.iconst 1, 1) := by decide +kernel
theorem dX12_tree_59 : decode cX12_tree 59 = .ok (.if_icmp .eq 19, 3) := by decide +kernel
theorem dX12_tree_62 : decode cX12_tree 62 = .ok (.aload_n 0, 1) := by decide +kernel
theorem dX12_tree_63 : decode cX12_tree 63 = .ok (.getfield 71, 3) := by decide +kernel
theorem dX12_tree_66 : decode cX12_tree 66 = .ok (.iconst 0, 1) := by decide +kernel
theorem dX12_tree_67 : decode cX12_tree 67 = .ok (.laload, 1) := by decide +kernel
theorem dX12_tree_68 : decode cX12_tree 68 = .ok (.aload_n 0, 1) := by decide +kernel
theorem dX12_tree_69 : decode cX12_tree 69 = .ok (.getfield 75, 3) := by decide +kernel
theorem dX12_tree_72 : decode cX12_tree 72 = .ok (.iconst 0, 1) := by decide +kernel
theorem dX12_tree_73 : decode cX12_tree 73 = .ok (.laload, 1) := by decide +kernel
theorem dX12_tree_74 : decode cX12_tree 74 = .ok (.lcmp, 1) := by decide +kernel
theorem dX12_tree_75 : decode cX12_tree 75 = .ok (.ifCond .ne 7, 3) := by decide +kernel
theorem dX12_tree_78 : decode cX12_tree 78 = .ok (.iconst 1, 1) := by decide +kernel
theorem dX12_tree_79 : decode cX12_tree 79 = .ok (.goto 4, 3) := by decide +kernel
theorem dX12_tree_82 : decode cX12_tree 82 = .ok (.iconst 0, 1) := by decide +kernel
theorem dX12_tree_83 : decode cX12_tree 83 = .ok (.istore_n 2, 1) := by decide +kernel
theorem dX12_tree_84 : decode cX12_tree 84 = .ok (.iload_n 1, 1) := by decide +kernel
theorem dX12_tree_85 : decode cX12_tree 85 = .ok (.ifCond .eq 8, 3) := by decide +kernel
theorem dX12_tree_88 : decode cX12_tree 88 = .ok (.iload_n 1, 1) := by decide +kernel
theorem dX12_tree_89 : decode cX12_tree 89 = .ok (.iconst 3, 1) := by decide +kernel
theorem dX12_tree_90 : decode cX12_tree 90 = .ok (.if_icmp .ne 35, 3) := by decide +kernel
theorem dX12_tree_93 : decode cX12_tree 93 = .ok (.aload_n 0, 1) := by decide +kernel
theorem dX12_tree_94 : decode cX12_tree 94 = .ok (.getfield 71, 3) := by decide +kernel
theorem dX12_tree_97 : decode cX12_tree 97 = .ok (.iconst 0, 1) := by decide +kernel
theorem dX12_tree_98 : decode cX12_tree 98 = .ok (.laload, 1) := by decide +kernel
theorem dX12_tree_99 : decode cX12_tree 99 = .ok (.aload_n 0, 1) := by decide +kernel
theorem dX12_tree_100 : decode cX12_tree 100 = .ok (.getfield 75, 3) := by decide +kernel
theorem dX12_tree_103 : decode cX12_tree 103 = .ok (.iconst 0, 1) := by decide +kernel
theorem dX12_tree_104 : decode cX12_tree 104 = .ok (.laload, 1) := by decide +kernel
theorem dX12_tree_105 : decode cX12_tree 105 = .ok (.lcmp, 1) := by decide +kernel
theorem dX12_tree_106 : decode cX12_tree 106 = .ok (.ifCond .ge 12, 3) := by decide +kernel
theorem dX12_tree_109 : decode cX12_tree 109 = .ok (.aload_n 0, 1) := by decide +kernel
theorem dX12_tree_110 : decode cX12_tree 110 = .ok (.getfield 71, 3) := by decide +kernel
theorem dX12_tree_113 : decode cX12_tree 113 = .ok (.iconst 0, 1) := by decide +kernel
theorem dX12_tree_114 : decode cX12_tree 114 = .ok (.laload, 1) := by decide +kernel
theorem dX12_tree_115 : decode cX12_tree 115 = .ok (.goto 9, 3) := by decide +kernel
theorem dX12_tree_118 : decode cX12_tree 118 = .ok (.aload_n 0, 1) := by decide +kernel
theorem dX12_tree_119 : decode cX12_tree 119 = .ok (.getfield 75, 3) := by decide +kernel
theorem dX12_tree_122 : decode cX12_tree 122 = .ok (.iconst 0, 1) := by decide +kernel
theorem dX12_tree_123 : decode cX12_tree 123 = .ok (.laload, 1) := by decide +kernel
theorem dX12_tree_124 : decode cX12_tree 124 = .ok (.lreturn, 1) := by decide +kernel
theorem dX12_tree_125 : decode cX12_tree 125 = .ok (.iload_n 2, 1) := by decide +kernel
theorem dX12_tree_126 : decode cX12_tree 126 = .ok (.ifCond .eq 19, 3) := by decide +kernel
theorem dX12_tree_129 : decode cX12_tree 129 = .ok (.aload_n 0, 1) := by decide +kernel
theorem dX12_tree_130 : decode cX12_tree 130 = .ok (.getfield 78, 3) := by decide +kernel
theorem dX12_tree_133 : decode cX12_tree 133 = .ok (.iconst 0, 1) := by decide +kernel
theorem dX12_tree_134 : decode cX12_tree 134 = .ok (.laload, 1) := by decide +kernel
theorem dX12_tree_135 : decode cX12_tree 135 = .ok (.aload_n 0, 1) := by decide +kernel
theorem dX12_tree_136 : decode cX12_tree 136 = .ok (.getfield 81, 3) := by decide +kernel
theorem dX12_tree_139 : decode cX12_tree 139 = .ok (.iconst 0, 1) := by decide +kernel
theorem dX12_tree_140 : decode cX12_tree 140 = .ok (.laload, 1) := by decide +kernel
theorem dX12_tree_141 : decode cX12_tree 141 = .ok (.ladd, 1) := by decide +kernel
theorem dX12_tree_142 : decode cX12_tree 142 = .ok (.goto 34, 3) := by decide +kernel
theorem dX12_tree_145 : decode cX12_tree 145 = .ok (.aload_n 0, 1) := by decide +kernel
theorem dX12_tree_146 : decode cX12_tree 146 = .ok (.getfield 71, 3) := by decide +kernel
theorem dX12_tree_149 : decode cX12_tree 149 = .ok (.iconst 0, 1) := by decide +kernel
theorem dX12_tree_150 : decode cX12_tree 150 = .ok (.laload, 1) := by decide +kernel
theorem dX12_tree_151 : decode cX12_tree 151 = .ok (.aload_n 0, 1) := by decide +kernel
theorem dX12_tree_152 : decode cX12_tree 152 = .ok (.getfield 75, 3) := by decide +kernel
theorem dX12_tree_155 : decode cX12_tree 155 = .ok (.iconst 0, 1) := by decide +kernel
theorem dX12_tree_156 : decode cX12_tree 156 = .ok (.laload, 1) := by decide +kernel
theorem dX12_tree_157 : decode cX12_tree 157 = .ok (.lcmp, 1) := by decide +kernel
theorem dX12_tree_158 : decode cX12_tree 158 = .ok (.ifCond .ge 12, 3) := by decide +kernel
theorem dX12_tree_161 : decode cX12_tree 161 = .ok (.aload_n 0, 1) := by decide +kernel
theorem dX12_tree_162 : decode cX12_tree 162 = .ok (.getfield 78, 3) := by decide +kernel
theorem dX12_tree_165 : decode cX12_tree 165 = .ok (.iconst 0, 1) := by decide +kernel
theorem dX12_tree_166 : decode cX12_tree 166 = .ok (.laload, 1) := by decide +kernel
theorem dX12_tree_167 : decode cX12_tree 167 = .ok (.goto 9, 3) := by decide +kernel
theorem dX12_tree_170 : decode cX12_tree 170 = .ok (.aload_n 0, 1) := by decide +kernel
theorem dX12_tree_171 : decode cX12_tree 171 = .ok (.getfield 81, 3) := by decide +kernel
theorem dX12_tree_174 : decode cX12_tree 174 = .ok (.iconst 0, 1) := by decide +kernel
theorem dX12_tree_175 : decode cX12_tree 175 = .ok (.laload, 1) := by decide +kernel
theorem dX12_tree_176 : decode cX12_tree 176 = .ok (.lreturn, 1) := by decide +kernel
theorem dX12_isUnder_0 : decode cX12_isUnder 0 = .ok (.aload_n 0, 1) := by decide +kernel
theorem dX12_isUnder_1 : decode cX12_isUnder 1 = .ok (.getfield 59, 3) := by decide +kernel
theorem dX12_isUnder_4 : decode cX12_isUnder 4 = .ok (.iload_n 1, 1) := by decide +kernel
theorem dX12_isUnder_5 : decode cX12_isUnder 5 = .ok (.iaload, 1) := by decide +kernel
theorem dX12_isUnder_6 : decode cX12_isUnder 6 = .ok (.istore_n 3, 1) := by decide +kernel
theorem dX12_isUnder_7 : decode cX12_isUnder 7 = .ok (.iload_n 3, 1) := by decide +kernel
theorem dX12_isUnder_8 : decode cX12_isUnder 8 = .ok (.iconst (-1), 1) := by decide +kernel
theorem dX12_isUnder_9 : decode cX12_isUnder 9 = .ok (.if_icmp .eq 18, 3) := by decide +kernel
theorem dX12_isUnder_12 : decode cX12_isUnder 12 = .ok (.iload_n 3, 1) := by decide +kernel
theorem dX12_isUnder_13 : decode cX12_isUnder 13 = .ok (.iload_n 2, 1) := by decide +kernel
theorem dX12_isUnder_14 : decode cX12_isUnder 14 = .ok (.if_icmp .eq 13, 3) := by decide +kernel
theorem dX12_isUnder_17 : decode cX12_isUnder 17 = .ok (.aload_n 0, 1) := by decide +kernel
theorem dX12_isUnder_18 : decode cX12_isUnder 18 = .ok (.getfield 59, 3) := by decide +kernel
theorem dX12_isUnder_21 : decode cX12_isUnder 21 = .ok (.iload_n 3, 1) := by decide +kernel
theorem dX12_isUnder_22 : decode cX12_isUnder 22 = .ok (.iaload, 1) := by decide +kernel
theorem dX12_isUnder_23 : decode cX12_isUnder 23 = .ok (.istore_n 3, 1) := by decide +kernel
theorem dX12_isUnder_24 : decode cX12_isUnder 24 = .ok (.goto (-17), 3) := by decide +kernel
theorem dX12_isUnder_27 : decode cX12_isUnder 27 = .ok (.iload_n 3, 1) := by decide +kernel
theorem dX12_isUnder_28 : decode cX12_isUnder 28 = .ok (.iload_n 2, 1) := by decide +kernel
theorem dX12_isUnder_29 : decode cX12_isUnder 29 = .ok (.if_icmp .ne 7, 3) := by decide +kernel
theorem dX12_isUnder_32 : decode cX12_isUnder 32 = .ok (.iconst 1, 1) := by decide +kernel
theorem dX12_isUnder_33 : decode cX12_isUnder 33 = .ok (.goto 4, 3) := by decide +kernel
theorem dX12_isUnder_36 : decode cX12_isUnder 36 = .ok (.iconst 0, 1) := by decide +kernel
theorem dX12_isUnder_37 : decode cX12_isUnder 37 = .ok (.ireturn, 1) := by decide +kernel
theorem dX12_isMarked_0 : decode cX12_isMarked 0 = .ok (.iconst 0, 1) := by decide +kernel
theorem dX12_isMarked_1 : decode cX12_isMarked 1 = .ok (.istore_n 2, 1) := by decide +kernel
theorem dX12_isMarked_2 : decode cX12_isMarked 2 = .ok (.iload_n 2, 1) := by decide +kernel
theorem dX12_isMarked_3 : decode cX12_isMarked 3 = .ok (.bipush 60, 2) := by decide +kernel
theorem dX12_isMarked_5 : decode cX12_isMarked 5 = .ok (.if_icmp .ge 16, 3) := by decide +kernel
theorem dX12_isMarked_8 : decode cX12_isMarked 8 = .ok (.aload_n 0, 1) := by decide +kernel
theorem dX12_isMarked_9 : decode cX12_isMarked 9 = .ok (.getfield 87, 3) := by decide +kernel
theorem dX12_isMarked_12 : decode cX12_isMarked 12 = .ok (.iload_n 2, 1) := by decide +kernel
theorem dX12_isMarked_13 : decode cX12_isMarked 13 = .ok (.iconst 0, 1) := by decide +kernel
theorem dX12_isMarked_14 : decode cX12_isMarked 14 = .ok (.bastore, 1) := by decide +kernel
theorem dX12_isMarked_15 : decode cX12_isMarked 15 = .ok (.iinc 2 1, 3) := by decide +kernel
theorem dX12_isMarked_18 : decode cX12_isMarked 18 = .ok (.goto (-16), 3) := by decide +kernel
theorem dX12_isMarked_21 : decode cX12_isMarked 21 = .ok (.aload_n 0, 1) := by decide +kernel
theorem dX12_isMarked_22 : decode cX12_isMarked 22 = .ok (.getfield 165, 3) := by decide +kernel
theorem dX12_isMarked_25 : decode cX12_isMarked 25 = .ok (.iconst 1, 1) := by decide +kernel
theorem dX12_isMarked_26 : decode cX12_isMarked 26 = .ok (.isub, 1) := by decide +kernel
theorem dX12_isMarked_27 : decode cX12_isMarked 27 = .ok (.istore_n 2, 1) := by decide +kernel
theorem dX12_isMarked_28 : decode cX12_isMarked 28 = .ok (.iload_n 2, 1) := by decide +kernel
theorem dX12_isMarked_29 : decode cX12_isMarked 29 = .ok (.ifCond .le 44, 3) := by decide +kernel
theorem dX12_isMarked_32 : decode cX12_isMarked 32 = .ok (.aload_n 0, 1) := by decide +kernel
theorem dX12_isMarked_33 : decode cX12_isMarked 33 = .ok (.getfield 87, 3) := by decide +kernel
theorem dX12_isMarked_36 : decode cX12_isMarked 36 = .ok (.iload_n 2, 1) := by decide +kernel
theorem dX12_isMarked_37 : decode cX12_isMarked 37 = .ok (.baload, 1) := by decide +kernel
theorem dX12_isMarked_38 : decode cX12_isMarked 38 = .ok (.ifCond .ne 29, 3) := by decide +kernel
theorem dX12_isMarked_41 : decode cX12_isMarked 41 = .ok (.aload_n 0, 1) := by decide +kernel
theorem dX12_isMarked_42 : decode cX12_isMarked 42 = .ok (.getfield 87, 3) := by decide +kernel
theorem dX12_isMarked_45 : decode cX12_isMarked 45 = .ok (.aload_n 0, 1) := by decide +kernel
theorem dX12_isMarked_46 : decode cX12_isMarked 46 = .ok (.getfield 59, 3) := by decide +kernel
theorem dX12_isMarked_49 : decode cX12_isMarked 49 = .ok (.iload_n 2, 1) := by decide +kernel
theorem dX12_isMarked_50 : decode cX12_isMarked 50 = .ok (.iaload, 1) := by decide +kernel
theorem dX12_isMarked_51 : decode cX12_isMarked 51 = .ok (.baload, 1) := by decide +kernel
theorem dX12_isMarked_52 : decode cX12_isMarked 52 = .ok (.ifCond .ne 15, 3) := by decide +kernel
theorem dX12_isMarked_55 : decode cX12_isMarked 55 = .ok (.aload_n 0, 1) := by decide +kernel
theorem dX12_isMarked_56 : decode cX12_isMarked 56 = .ok (.getfield 87, 3) := by decide +kernel
theorem dX12_isMarked_59 : decode cX12_isMarked 59 = .ok (.aload_n 0, 1) := by decide +kernel
theorem dX12_isMarked_60 : decode cX12_isMarked 60 = .ok (.getfield 59, 3) := by decide +kernel
theorem dX12_isMarked_63 : decode cX12_isMarked 63 = .ok (.iload_n 2, 1) := by decide +kernel
theorem dX12_isMarked_64 : decode cX12_isMarked 64 = .ok (.iaload, 1) := by decide +kernel
theorem dX12_isMarked_65 : decode cX12_isMarked 65 = .ok (.iconst 1, 1) := by decide +kernel
theorem dX12_isMarked_66 : decode cX12_isMarked 66 = .ok (.bastore, 1) := by decide +kernel
theorem dX12_isMarked_67 : decode cX12_isMarked 67 = .ok (.iinc 2 (-1), 3) := by decide +kernel
theorem dX12_isMarked_70 : decode cX12_isMarked 70 = .ok (.goto (-42), 3) := by decide +kernel
theorem dX12_isMarked_73 : decode cX12_isMarked 73 = .ok (.aload_n 0, 1) := by decide +kernel
theorem dX12_isMarked_74 : decode cX12_isMarked 74 = .ok (.getfield 87, 3) := by decide +kernel
theorem dX12_isMarked_77 : decode cX12_isMarked 77 = .ok (.iload_n 1, 1) := by decide +kernel
theorem dX12_isMarked_78 : decode cX12_isMarked 78 = .ok (.baload, 1) := by decide +kernel
theorem dX12_isMarked_79 : decode cX12_isMarked 79 = .ok (.ireturn, 1) := by decide +kernel
theorem dX12_treeOf_0 : decode cX12_treeOf 0 = .ok (.iload_n 1, 1) := by decide +kernel
theorem dX12_treeOf_1 : decode cX12_treeOf 1 = .ok (.iconst 0, 1) := by decide +kernel
theorem dX12_treeOf_2 : decode cX12_treeOf 2 = .ok (.aload_n 0, 1) := by decide +kernel
theorem dX12_treeOf_3 : decode cX12_treeOf 3 = .ok (.getfield 165, 3) := by decide +kernel
theorem dX12_treeOf_6 : decode cX12_treeOf 6 = .ok (.iconst 1, 1) := by decide +kernel
theorem dX12_treeOf_7 : decode cX12_treeOf 7 = .ok (.isub, 1) := by decide +kernel
theorem dX12_treeOf_8 : decode cX12_treeOf 8 = .ok (.invokestatic 125, 3) := by decide +kernel
theorem dX12_treeOf_11 : decode cX12_treeOf 11 = .ok (.ifCond .eq 12, 3) := by decide +kernel
theorem dX12_treeOf_14 : decode cX12_treeOf 14 = .ok (.iload_n 2, 1) := by decide +kernel
theorem dX12_treeOf_15 : decode cX12_treeOf 15 = .ok (.iconst 0, 1) := by decide +kernel
theorem dX12_treeOf_16 : decode cX12_treeOf 16 = .ok (.iconst 5, 1) := by decide +kernel
theorem dX12_treeOf_17 : decode cX12_treeOf 17 = .ok (.invokestatic 125, 3) := by decide +kernel
theorem dX12_treeOf_20 : decode cX12_treeOf 20 = .ok (.ifCond .ne 6, 3) := by decide +kernel
theorem dX12_treeOf_23 : decode cX12_treeOf 23 = .ok (.bipush (-2), 2) := by decide +kernel
theorem dX12_treeOf_25 : decode cX12_treeOf 25 = .ok (.ireturn, 1) := by decide +kernel
theorem dX12_treeOf_26 : decode cX12_treeOf 26 = .ok (.iconst 0, 1) := by decide +kernel
theorem dX12_treeOf_27 : decode cX12_treeOf 27 = .ok (.istore_n 3, 1) := by decide +kernel
theorem dX12_treeOf_28 : decode cX12_treeOf 28 = .ok (.iconst 0, 1) := by decide +kernel
theorem dX12_treeOf_29 : decode cX12_treeOf 29 = .ok (.istore 4, 2) := by decide +kernel
theorem dX12_treeOf_31 : decode cX12_treeOf 31 = .ok (.iload 4, 2) := by decide +kernel
theorem dX12_treeOf_33 : decode cX12_treeOf 33 = .ok (.aload_n 0, 1) := by decide +kernel
theorem dX12_treeOf_34 : decode cX12_treeOf 34 = .ok (.getfield 165, 3) := by decide +kernel
theorem dX12_treeOf_37 : decode cX12_treeOf 37 = .ok (.if_icmp .ge 33, 3) := by decide +kernel
theorem dX12_treeOf_40 : decode cX12_treeOf 40 = .ok (.iload_n 3, 1) := by decide +kernel
theorem dX12_treeOf_41 : decode cX12_treeOf 41 = .ok (.iload 4, 2) := by decide +kernel
theorem dX12_treeOf_43 : decode cX12_treeOf 43 = .ok (.iload_n 1, 1) := by decide +kernel
theorem dX12_treeOf_44 : decode cX12_treeOf 44 = .ok (.if_icmp .eq 17, 3) := by decide +kernel
theorem dX12_treeOf_47 : decode cX12_treeOf 47 = .ok (.aload_n 0, 1) := by decide +kernel
theorem dX12_treeOf_48 : decode cX12_treeOf 48 = .ok (.iload 4, 2) := by decide +kernel
theorem dX12_treeOf_50 : decode cX12_treeOf 50 = .ok (.iload_n 1, 1) := by decide +kernel
theorem dX12_treeOf_51 : decode cX12_treeOf 51 = .ok (.invokevirtual 326, 3) := by decide +kernel
theorem dX12_treeOf_54 : decode cX12_treeOf 54 = .ok (.ifCond .eq 7, 3) := by decide +kernel
theorem dX12_treeOf_57 : decode cX12_treeOf 57 = .ok (.iconst 1, 1) := by decide +kernel
theorem dX12_treeOf_58 : decode cX12_treeOf 58 = .ok (.goto 4, 3) := by decide +kernel
theorem dX12_treeOf_61 : decode cX12_treeOf 61 = .ok (.iconst 0, 1) := by decide +kernel
theorem dX12_treeOf_62 : decode cX12_treeOf 62 = .ok (.iadd, 1) := by decide +kernel
theorem dX12_treeOf_63 : decode cX12_treeOf 63 = .ok (.istore_n 3, 1) := by decide +kernel
theorem dX12_treeOf_64 : decode cX12_treeOf 64 = .ok (.iinc 4 1, 3) := by decide +kernel
theorem dX12_treeOf_67 : decode cX12_treeOf 67 = .ok (.goto (-36), 3) := by decide +kernel
theorem dX12_treeOf_70 : decode cX12_treeOf 70 = .ok (.iload_n 2, 1) := by decide +kernel
theorem dX12_treeOf_71 : decode cX12_treeOf 71 = .ok (.tableswitch 62 0 4 #[33, 40, 47, 54, 56], 33) := by decide +kernel
theorem dX12_treeOf_104 : decode cX12_treeOf 104 = .ok (.aload_n 0, 1) := by decide +kernel
theorem dX12_treeOf_105 : decode cX12_treeOf 105 = .ok (.getfield 53, 3) := by decide +kernel
theorem dX12_treeOf_108 : decode cX12_treeOf 108 = .ok (.iload_n 1, 1) := by decide +kernel
theorem dX12_treeOf_109 : decode cX12_treeOf 109 = .ok (.iaload, 1) := by decide +kernel
theorem dX12_treeOf_110 : decode cX12_treeOf 110 = .ok (.ireturn, 1) := by decide +kernel
theorem dX12_treeOf_111 : decode cX12_treeOf 111 = .ok (.aload_n 0, 1) := by decide +kernel
theorem dX12_treeOf_112 : decode cX12_treeOf 112 = .ok (.getfield 56, 3) := by decide +kernel
theorem dX12_treeOf_115 : decode cX12_treeOf 115 = .ok (.iload_n 1, 1) := by decide +kernel
theorem dX12_treeOf_116 : decode cX12_treeOf 116 = .ok (.iaload, 1) := by decide +kernel
theorem dX12_treeOf_117 : decode cX12_treeOf 117 = .ok (.ireturn, 1) := by decide +kernel
theorem dX12_treeOf_118 : decode cX12_treeOf 118 = .ok (.aload_n 0, 1) := by decide +kernel
theorem dX12_treeOf_119 : decode cX12_treeOf 119 = .ok (.getfield 59, 3) := by decide +kernel
theorem dX12_treeOf_122 : decode cX12_treeOf 122 = .ok (.iload_n 1, 1) := by decide +kernel
theorem dX12_treeOf_123 : decode cX12_treeOf 123 = .ok (.iaload, 1) := by decide +kernel
theorem dX12_treeOf_124 : decode cX12_treeOf 124 = .ok (.ireturn, 1) := by decide +kernel
theorem dX12_treeOf_125 : decode cX12_treeOf 125 = .ok (.iload_n 3, 1) := by decide +kernel
theorem dX12_treeOf_126 : decode cX12_treeOf 126 = .ok (.ireturn, 1) := by decide +kernel
theorem dX12_treeOf_127 : decode cX12_treeOf 127 = .ok (.aload_n 0, 1) := by decide +kernel
theorem dX12_treeOf_128 : decode cX12_treeOf 128 = .ok (.iload_n 1, 1) := by decide +kernel
theorem dX12_treeOf_129 : decode cX12_treeOf 129 = .ok (.invokevirtual 313, 3) := by decide +kernel
theorem dX12_treeOf_132 : decode cX12_treeOf 132 = .ok (.ireturn, 1) := by decide +kernel
theorem dX12_treeOf_133 : decode cX12_treeOf 133 = .ok (.aload_n 0, 1) := by decide +kernel
theorem dX12_treeOf_134 : decode cX12_treeOf 134 = .ok (.iload_n 1, 1) := by decide +kernel
theorem dX12_treeOf_135 : decode cX12_treeOf 135 = .ok (.invokevirtual 329, 3) := by decide +kernel
theorem dX12_treeOf_138 : decode cX12_treeOf 138 = .ok (.ifCond .eq 7, 3) := by decide +kernel
theorem dX12_treeOf_141 : decode cX12_treeOf 141 = .ok (.iconst 1, 1) := by decide +kernel
theorem dX12_treeOf_142 : decode cX12_treeOf 142 = .ok (.goto 4, 3) := by decide +kernel
theorem dX12_treeOf_145 : decode cX12_treeOf 145 = .ok (.iconst 0, 1) := by decide +kernel
theorem dX12_treeOf_146 : decode cX12_treeOf 146 = .ok (.ireturn, 1) := by decide +kernel
theorem dX12_plant_0 : decode cX12_plant 0 = .ok (.aload_n 0, 1) := by decide +kernel
theorem dX12_plant_1 : decode cX12_plant 1 = .ok (.getfield 165, 3) := by decide +kernel
theorem dX12_plant_4 : decode cX12_plant 4 = .ok (.ifCond .ne 5, 3) := by decide +kernel
theorem dX12_plant_7 : decode cX12_plant 7 = .ok (.iconst (-1), 1) := by decide +kernel
theorem dX12_plant_8 : decode cX12_plant 8 = .ok (.ireturn, 1) := by decide +kernel
theorem dX12_plant_9 : decode cX12_plant 9 = .ok (.aload_n 0, 1) := by decide +kernel
theorem dX12_plant_10 : decode cX12_plant 10 = .ok (.getfield 165, 3) := by decide +kernel
theorem dX12_plant_13 : decode cX12_plant 13 = .ok (.bipush 12, 2) := by decide +kernel
theorem dX12_plant_15 : decode cX12_plant 15 = .ok (.if_icmp .le 6, 3) := by decide +kernel
theorem dX12_plant_18 : decode cX12_plant 18 = .ok (.bipush (-3), 2) := by decide +kernel
theorem dX12_plant_20 : decode cX12_plant 20 = .ok (.ireturn, 1) := by decide +kernel
theorem dX12_plant_21 : decode cX12_plant 21 = .ok (.aload_n 0, 1) := by decide +kernel
theorem dX12_plant_22 : decode cX12_plant 22 = .ok (.iconst 0, 1) := by decide +kernel
theorem dX12_plant_23 : decode cX12_plant 23 = .ok (.putfield 122, 3) := by decide +kernel
theorem dX12_plant_26 : decode cX12_plant 26 = .ok (.iconst 0, 1) := by decide +kernel
theorem dX12_plant_27 : decode cX12_plant 27 = .ok (.istore_n 1, 1) := by decide +kernel
theorem dX12_plant_28 : decode cX12_plant 28 = .ok (.iload_n 1, 1) := by decide +kernel
theorem dX12_plant_29 : decode cX12_plant 29 = .ok (.aload_n 0, 1) := by decide +kernel
theorem dX12_plant_30 : decode cX12_plant 30 = .ok (.getfield 165, 3) := by decide +kernel
theorem dX12_plant_33 : decode cX12_plant 33 = .ok (.if_icmp .ge 41, 3) := by decide +kernel
theorem dX12_plant_36 : decode cX12_plant 36 = .ok (.aload_n 0, 1) := by decide +kernel
theorem dX12_plant_37 : decode cX12_plant 37 = .ok (.aload_n 0, 1) := by decide +kernel
theorem dX12_plant_38 : decode cX12_plant 38 = .ok (.getfield 53, 3) := by decide +kernel
theorem dX12_plant_41 : decode cX12_plant 41 = .ok (.iload_n 1, 1) := by decide +kernel
theorem dX12_plant_42 : decode cX12_plant 42 = .ok (.iaload, 1) := by decide +kernel
theorem dX12_plant_43 : decode cX12_plant 43 = .ok (.aload_n 0, 1) := by decide +kernel
theorem dX12_plant_44 : decode cX12_plant 44 = .ok (.getfield 56, 3) := by decide +kernel
theorem dX12_plant_47 : decode cX12_plant 47 = .ok (.iload_n 1, 1) := by decide +kernel
theorem dX12_plant_48 : decode cX12_plant 48 = .ok (.iaload, 1) := by decide +kernel
theorem dX12_plant_49 : decode cX12_plant 49 = .ok (.invokevirtual 141, 3) := by decide +kernel
theorem dX12_plant_52 : decode cX12_plant 52 = .ok (.iload_n 1, 1) := by decide +kernel
theorem dX12_plant_53 : decode cX12_plant 53 = .ok (.ifCond .le 15, 3) := by decide +kernel
theorem dX12_plant_56 : decode cX12_plant 56 = .ok (.aload_n 0, 1) := by decide +kernel
theorem dX12_plant_57 : decode cX12_plant 57 = .ok (.iload_n 1, 1) := by decide +kernel
theorem dX12_plant_58 : decode cX12_plant 58 = .ok (.aload_n 0, 1) := by decide +kernel
theorem dX12_plant_59 : decode cX12_plant 59 = .ok (.getfield 59, 3) := by decide +kernel
theorem dX12_plant_62 : decode cX12_plant 62 = .ok (.iload_n 1, 1) := by decide +kernel
theorem dX12_plant_63 : decode cX12_plant 63 = .ok (.iaload, 1) := by decide +kernel
theorem dX12_plant_64 : decode cX12_plant 64 = .ok (.iconst 1, 1) := by decide +kernel
theorem dX12_plant_65 : decode cX12_plant 65 = .ok (.invokevirtual 152, 3) := by decide +kernel
theorem dX12_plant_68 : decode cX12_plant 68 = .ok (.iinc 1 1, 3) := by decide +kernel
theorem dX12_plant_71 : decode cX12_plant 71 = .ok (.goto (-43), 3) := by decide +kernel
theorem dX12_plant_74 : decode cX12_plant 74 = .ok (.aload_n 0, 1) := by decide +kernel
theorem dX12_plant_75 : decode cX12_plant 75 = .ok (.getfield 122, 3) := by decide +kernel
theorem dX12_plant_78 : decode cX12_plant 78 = .ok (.ireturn, 1) := by decide +kernel
theorem dX12_draw_0 : decode cX12_draw 0 = .ok (.aload_n 0, 1) := by decide +kernel
theorem dX12_draw_1 : decode cX12_draw 1 = .ok (.aload_n 0, 1) := by decide +kernel
theorem dX12_draw_2 : decode cX12_draw 2 = .ok (.getfield 7, 3) := by decide +kernel
theorem dX12_draw_5 : decode cX12_draw 5 = .ok (.ldc_w 332, 3) := by decide +kernel
theorem dX12_draw_8 : decode cX12_draw 8 = .ok (.imul, 1) := by decide +kernel
theorem dX12_draw_9 : decode cX12_draw 9 = .ok (.sipush 12345, 3) := by decide +kernel
theorem dX12_draw_12 : decode cX12_draw 12 = .ok (.iadd, 1) := by decide +kernel
theorem dX12_draw_13 : decode cX12_draw 13 = .ok (.putfield 7, 3) := by decide +kernel
theorem dX12_draw_16 : decode cX12_draw 16 = .ok (.aload_n 0, 1) := by decide +kernel
theorem dX12_draw_17 : decode cX12_draw 17 = .ok (.getfield 7, 3) := by decide +kernel
theorem dX12_draw_20 : decode cX12_draw 20 = .ok (.bipush 16, 2) := by decide +kernel
theorem dX12_draw_22 : decode cX12_draw 22 = .ok (.iushr, 1) := by decide +kernel
theorem dX12_draw_23 : decode cX12_draw 23 = .ok (.ireturn, 1) := by decide +kernel
theorem dX12_seed_0 : decode cX12_seed 0 = .ok (.aload_n 0, 1) := by decide +kernel
theorem dX12_seed_1 : decode cX12_seed 1 = .ok (.getfield 7, 3) := by decide +kernel
theorem dX12_seed_4 : decode cX12_seed 4 = .ok (.istore_n 2, 1) := by decide +kernel
theorem dX12_seed_5 : decode cX12_seed 5 = .ok (.aload_n 0, 1) := by decide +kernel
theorem dX12_seed_6 : decode cX12_seed 6 = .ok (.iload_n 1, 1) := by decide +kernel
theorem dX12_seed_7 : decode cX12_seed 7 = .ok (.putfield 7, 3) := by decide +kernel
theorem dX12_seed_10 : decode cX12_seed 10 = .ok (.iload_n 2, 1) := by decide +kernel
theorem dX12_seed_11 : decode cX12_seed 11 = .ok (.ireturn, 1) := by decide +kernel
theorem dX12_deals_0 : decode cX12_deals 0 = .ok (.aload_n 0, 1) := by decide +kernel
theorem dX12_deals_1 : decode cX12_deals 1 = .ok (.iconst 0, 1) := by decide +kernel
theorem dX12_deals_2 : decode cX12_deals 2 = .ok (.putfield 122, 3) := by decide +kernel
theorem dX12_deals_5 : decode cX12_deals 5 = .ok (.iconst 0, 1) := by decide +kernel
theorem dX12_deals_6 : decode cX12_deals 6 = .ok (.istore_n 3, 1) := by decide +kernel
theorem dX12_deals_7 : decode cX12_deals 7 = .ok (.iload_n 3, 1) := by decide +kernel
theorem dX12_deals_8 : decode cX12_deals 8 = .ok (.iload_n 1, 1) := by decide +kernel
theorem dX12_deals_9 : decode cX12_deals 9 = .ok (.if_icmp .ge 33, 3) := by decide +kernel
theorem dX12_deals_12 : decode cX12_deals 12 = .ok (.aload_n 0, 1) := by decide +kernel
theorem dX12_deals_13 : decode cX12_deals 13 = .ok (.invokevirtual 333, 3) := by decide +kernel
theorem dX12_deals_16 : decode cX12_deals 16 = .ok (.bipush 6, 2) := by decide +kernel
theorem dX12_deals_18 : decode cX12_deals 18 = .ok (.irem, 1) := by decide +kernel
theorem dX12_deals_19 : decode cX12_deals 19 = .ok (.istore 4, 2) := by decide +kernel
theorem dX12_deals_21 : decode cX12_deals 21 = .ok (.aload_n 0, 1) := by decide +kernel
theorem dX12_deals_22 : decode cX12_deals 22 = .ok (.iload 4, 2) := by decide +kernel
theorem dX12_deals_24 : decode cX12_deals 24 = .ok (.iconst 1, 1) := by decide +kernel
theorem dX12_deals_25 : decode cX12_deals 25 = .ok (.aload_n 0, 1) := by decide +kernel
theorem dX12_deals_26 : decode cX12_deals 26 = .ok (.invokevirtual 333, 3) := by decide +kernel
theorem dX12_deals_29 : decode cX12_deals 29 = .ok (.bipush 9, 2) := by decide +kernel
theorem dX12_deals_31 : decode cX12_deals 31 = .ok (.irem, 1) := by decide +kernel
theorem dX12_deals_32 : decode cX12_deals 32 = .ok (.iadd, 1) := by decide +kernel
theorem dX12_deals_33 : decode cX12_deals 33 = .ok (.invokevirtual 141, 3) := by decide +kernel
theorem dX12_deals_36 : decode cX12_deals 36 = .ok (.iinc 3 1, 3) := by decide +kernel
theorem dX12_deals_39 : decode cX12_deals 39 = .ok (.goto (-32), 3) := by decide +kernel
theorem dX12_deals_42 : decode cX12_deals 42 = .ok (.iconst 0, 1) := by decide +kernel
theorem dX12_deals_43 : decode cX12_deals 43 = .ok (.istore_n 3, 1) := by decide +kernel
theorem dX12_deals_44 : decode cX12_deals 44 = .ok (.iload_n 3, 1) := by decide +kernel
theorem dX12_deals_45 : decode cX12_deals 45 = .ok (.iload_n 1, 1) := by decide +kernel
theorem dX12_deals_46 : decode cX12_deals 46 = .ok (.if_icmp .ge 45, 3) := by decide +kernel
theorem dX12_deals_49 : decode cX12_deals 49 = .ok (.iload_n 3, 1) := by decide +kernel
theorem dX12_deals_50 : decode cX12_deals 50 = .ok (.iconst 1, 1) := by decide +kernel
theorem dX12_deals_51 : decode cX12_deals 51 = .ok (.iadd, 1) := by decide +kernel
theorem dX12_deals_52 : decode cX12_deals 52 = .ok (.istore 4, 2) := by decide +kernel
theorem dX12_deals_54 : decode cX12_deals 54 = .ok (.iload 4, 2) := by decide +kernel
theorem dX12_deals_56 : decode cX12_deals 56 = .ok (.iload_n 1, 1) := by decide +kernel
theorem dX12_deals_57 : decode cX12_deals 57 = .ok (.if_icmp .ge 28, 3) := by decide +kernel
theorem dX12_deals_60 : decode cX12_deals 60 = .ok (.aload_n 0, 1) := by decide +kernel
theorem dX12_deals_61 : decode cX12_deals 61 = .ok (.invokevirtual 333, 3) := by decide +kernel
theorem dX12_deals_64 : decode cX12_deals 64 = .ok (.bipush 10, 2) := by decide +kernel
theorem dX12_deals_66 : decode cX12_deals 66 = .ok (.irem, 1) := by decide +kernel
theorem dX12_deals_67 : decode cX12_deals 67 = .ok (.iload_n 2, 1) := by decide +kernel
theorem dX12_deals_68 : decode cX12_deals 68 = .ok (.if_icmp .ge 11, 3) := by decide +kernel
theorem dX12_deals_71 : decode cX12_deals 71 = .ok (.aload_n 0, 1) := by decide +kernel
theorem dX12_deals_72 : decode cX12_deals 72 = .ok (.iload_n 3, 1) := by decide +kernel
theorem dX12_deals_73 : decode cX12_deals 73 = .ok (.iload 4, 2) := by decide +kernel
theorem dX12_deals_75 : decode cX12_deals 75 = .ok (.iconst 1, 1) := by decide +kernel
theorem dX12_deals_76 : decode cX12_deals 76 = .ok (.invokevirtual 152, 3) := by decide +kernel
theorem dX12_deals_79 : decode cX12_deals 79 = .ok (.iinc 4 1, 3) := by decide +kernel
theorem dX12_deals_82 : decode cX12_deals 82 = .ok (.goto (-28), 3) := by decide +kernel
theorem dX12_deals_85 : decode cX12_deals 85 = .ok (.iinc 3 1, 3) := by decide +kernel
theorem dX12_deals_88 : decode cX12_deals 88 = .ok (.goto (-44), 3) := by decide +kernel
theorem dX12_deals_91 : decode cX12_deals 91 = .ok (.return_, 1) := by decide +kernel
theorem dX12_deal_0 : decode cX12_deal 0 = .ok (.iload_n 1, 1) := by decide +kernel
theorem dX12_deal_1 : decode cX12_deal 1 = .ok (.iconst 0, 1) := by decide +kernel
theorem dX12_deal_2 : decode cX12_deal 2 = .ok (.bipush 12, 2) := by decide +kernel
theorem dX12_deal_4 : decode cX12_deal 4 = .ok (.invokestatic 125, 3) := by decide +kernel
theorem dX12_deal_7 : decode cX12_deal 7 = .ok (.ifCond .eq 13, 3) := by decide +kernel
theorem dX12_deal_10 : decode cX12_deal 10 = .ok (.iload_n 2, 1) := by decide +kernel
theorem dX12_deal_11 : decode cX12_deal 11 = .ok (.iconst 0, 1) := by decide +kernel
theorem dX12_deal_12 : decode cX12_deal 12 = .ok (.bipush 10, 2) := by decide +kernel
theorem dX12_deal_14 : decode cX12_deal 14 = .ok (.invokestatic 125, 3) := by decide +kernel
theorem dX12_deal_17 : decode cX12_deal 17 = .ok (.ifCond .ne 6, 3) := by decide +kernel
theorem dX12_deal_20 : decode cX12_deal 20 = .ok (.bipush (-2), 2) := by decide +kernel
theorem dX12_deal_22 : decode cX12_deal 22 = .ok (.ireturn, 1) := by decide +kernel
theorem dX12_deal_23 : decode cX12_deal 23 = .ok (.aload_n 0, 1) := by decide +kernel
theorem dX12_deal_24 : decode cX12_deal 24 = .ok (.iload_n 1, 1) := by decide +kernel
theorem dX12_deal_25 : decode cX12_deal 25 = .ok (.iload_n 2, 1) := by decide +kernel
theorem dX12_deal_26 : decode cX12_deal 26 = .ok (.invokevirtual 336, 3) := by decide +kernel
theorem dX12_deal_29 : decode cX12_deal 29 = .ok (.aload_n 0, 1) := by decide +kernel
theorem dX12_deal_30 : decode cX12_deal 30 = .ok (.invokevirtual 159, 3) := by decide +kernel
theorem dX12_deal_33 : decode cX12_deal 33 = .ok (.ireturn, 1) := by decide +kernel
theorem dX12_keeps_0 : decode cX12_keeps 0 = .ok (.aload_n 1, 1) := by decide +kernel
theorem dX12_keeps_1 : decode cX12_keeps 1 = .ok (.iconst 0, 1) := by decide +kernel
theorem dX12_keeps_2 : decode cX12_keeps 2 = .ok (.aload_n 0, 1) := by decide +kernel
theorem dX12_keeps_3 : decode cX12_keeps 3 = .ok (.getfield 122, 3) := by decide +kernel
theorem dX12_keeps_6 : decode cX12_keeps 6 = .ok (.iastore, 1) := by decide +kernel
theorem dX12_keeps_7 : decode cX12_keeps 7 = .ok (.aload_n 1, 1) := by decide +kernel
theorem dX12_keeps_8 : decode cX12_keeps 8 = .ok (.iconst 1, 1) := by decide +kernel
theorem dX12_keeps_9 : decode cX12_keeps 9 = .ok (.aload_n 0, 1) := by decide +kernel
theorem dX12_keeps_10 : decode cX12_keeps 10 = .ok (.getfield 7, 3) := by decide +kernel
theorem dX12_keeps_13 : decode cX12_keeps 13 = .ok (.iastore, 1) := by decide +kernel
theorem dX12_keeps_14 : decode cX12_keeps 14 = .ok (.iconst 0, 1) := by decide +kernel
theorem dX12_keeps_15 : decode cX12_keeps 15 = .ok (.istore_n 2, 1) := by decide +kernel
theorem dX12_keeps_16 : decode cX12_keeps 16 = .ok (.iload_n 2, 1) := by decide +kernel
theorem dX12_keeps_17 : decode cX12_keeps 17 = .ok (.bipush 12, 2) := by decide +kernel
theorem dX12_keeps_19 : decode cX12_keeps 19 = .ok (.if_icmp .ge 48, 3) := by decide +kernel
theorem dX12_keeps_22 : decode cX12_keeps 22 = .ok (.aload_n 1, 1) := by decide +kernel
theorem dX12_keeps_23 : decode cX12_keeps 23 = .ok (.iconst 2, 1) := by decide +kernel
theorem dX12_keeps_24 : decode cX12_keeps 24 = .ok (.iconst 3, 1) := by decide +kernel
theorem dX12_keeps_25 : decode cX12_keeps 25 = .ok (.iload_n 2, 1) := by decide +kernel
theorem dX12_keeps_26 : decode cX12_keeps 26 = .ok (.imul, 1) := by decide +kernel
theorem dX12_keeps_27 : decode cX12_keeps 27 = .ok (.iadd, 1) := by decide +kernel
theorem dX12_keeps_28 : decode cX12_keeps 28 = .ok (.aload_n 0, 1) := by decide +kernel
theorem dX12_keeps_29 : decode cX12_keeps 29 = .ok (.getfield 13, 3) := by decide +kernel
theorem dX12_keeps_32 : decode cX12_keeps 32 = .ok (.iload_n 2, 1) := by decide +kernel
theorem dX12_keeps_33 : decode cX12_keeps 33 = .ok (.iaload, 1) := by decide +kernel
theorem dX12_keeps_34 : decode cX12_keeps 34 = .ok (.iastore, 1) := by decide +kernel
theorem dX12_keeps_35 : decode cX12_keeps 35 = .ok (.aload_n 1, 1) := by decide +kernel
theorem dX12_keeps_36 : decode cX12_keeps 36 = .ok (.iconst 3, 1) := by decide +kernel
theorem dX12_keeps_37 : decode cX12_keeps 37 = .ok (.iconst 3, 1) := by decide +kernel
theorem dX12_keeps_38 : decode cX12_keeps 38 = .ok (.iload_n 2, 1) := by decide +kernel
theorem dX12_keeps_39 : decode cX12_keeps 39 = .ok (.imul, 1) := by decide +kernel
theorem dX12_keeps_40 : decode cX12_keeps 40 = .ok (.iadd, 1) := by decide +kernel
theorem dX12_keeps_41 : decode cX12_keeps 41 = .ok (.aload_n 0, 1) := by decide +kernel
theorem dX12_keeps_42 : decode cX12_keeps 42 = .ok (.getfield 17, 3) := by decide +kernel
theorem dX12_keeps_45 : decode cX12_keeps 45 = .ok (.iload_n 2, 1) := by decide +kernel
theorem dX12_keeps_46 : decode cX12_keeps 46 = .ok (.iaload, 1) := by decide +kernel
theorem dX12_keeps_47 : decode cX12_keeps 47 = .ok (.iastore, 1) := by decide +kernel
theorem dX12_keeps_48 : decode cX12_keeps 48 = .ok (.aload_n 1, 1) := by decide +kernel
theorem dX12_keeps_49 : decode cX12_keeps 49 = .ok (.iconst 4, 1) := by decide +kernel
theorem dX12_keeps_50 : decode cX12_keeps 50 = .ok (.iconst 3, 1) := by decide +kernel
theorem dX12_keeps_51 : decode cX12_keeps 51 = .ok (.iload_n 2, 1) := by decide +kernel
theorem dX12_keeps_52 : decode cX12_keeps 52 = .ok (.imul, 1) := by decide +kernel
theorem dX12_keeps_53 : decode cX12_keeps 53 = .ok (.iadd, 1) := by decide +kernel
theorem dX12_keeps_54 : decode cX12_keeps 54 = .ok (.aload_n 0, 1) := by decide +kernel
theorem dX12_keeps_55 : decode cX12_keeps 55 = .ok (.getfield 20, 3) := by decide +kernel
theorem dX12_keeps_58 : decode cX12_keeps 58 = .ok (.iload_n 2, 1) := by decide +kernel
theorem dX12_keeps_59 : decode cX12_keeps 59 = .ok (.iaload, 1) := by decide +kernel
theorem dX12_keeps_60 : decode cX12_keeps 60 = .ok (.iastore, 1) := by decide +kernel
theorem dX12_keeps_61 : decode cX12_keeps 61 = .ok (.iinc 2 1, 3) := by decide +kernel
theorem dX12_keeps_64 : decode cX12_keeps 64 = .ok (.goto (-48), 3) := by decide +kernel
theorem dX12_keeps_67 : decode cX12_keeps 67 = .ok (.return_, 1) := by decide +kernel
theorem dX12_putsBack_0 : decode cX12_putsBack 0 = .ok (.aload_n 0, 1) := by decide +kernel
theorem dX12_putsBack_1 : decode cX12_putsBack 1 = .ok (.aload_n 1, 1) := by decide +kernel
theorem dX12_putsBack_2 : decode cX12_putsBack 2 = .ok (.iconst 0, 1) := by decide +kernel
theorem dX12_putsBack_3 : decode cX12_putsBack 3 = .ok (.iaload, 1) := by decide +kernel
theorem dX12_putsBack_4 : decode cX12_putsBack 4 = .ok (.putfield 122, 3) := by decide +kernel
theorem dX12_putsBack_7 : decode cX12_putsBack 7 = .ok (.aload_n 0, 1) := by decide +kernel
theorem dX12_putsBack_8 : decode cX12_putsBack 8 = .ok (.aload_n 1, 1) := by decide +kernel
theorem dX12_putsBack_9 : decode cX12_putsBack 9 = .ok (.iconst 1, 1) := by decide +kernel
theorem dX12_putsBack_10 : decode cX12_putsBack 10 = .ok (.iaload, 1) := by decide +kernel
theorem dX12_putsBack_11 : decode cX12_putsBack 11 = .ok (.putfield 7, 3) := by decide +kernel
theorem dX12_putsBack_14 : decode cX12_putsBack 14 = .ok (.iconst 0, 1) := by decide +kernel
theorem dX12_putsBack_15 : decode cX12_putsBack 15 = .ok (.istore_n 2, 1) := by decide +kernel
theorem dX12_putsBack_16 : decode cX12_putsBack 16 = .ok (.iload_n 2, 1) := by decide +kernel
theorem dX12_putsBack_17 : decode cX12_putsBack 17 = .ok (.bipush 12, 2) := by decide +kernel
theorem dX12_putsBack_19 : decode cX12_putsBack 19 = .ok (.if_icmp .ge 48, 3) := by decide +kernel
theorem dX12_putsBack_22 : decode cX12_putsBack 22 = .ok (.aload_n 0, 1) := by decide +kernel
theorem dX12_putsBack_23 : decode cX12_putsBack 23 = .ok (.getfield 13, 3) := by decide +kernel
theorem dX12_putsBack_26 : decode cX12_putsBack 26 = .ok (.iload_n 2, 1) := by decide +kernel
theorem dX12_putsBack_27 : decode cX12_putsBack 27 = .ok (.aload_n 1, 1) := by decide +kernel
theorem dX12_putsBack_28 : decode cX12_putsBack 28 = .ok (.iconst 2, 1) := by decide +kernel
theorem dX12_putsBack_29 : decode cX12_putsBack 29 = .ok (.iconst 3, 1) := by decide +kernel
theorem dX12_putsBack_30 : decode cX12_putsBack 30 = .ok (.iload_n 2, 1) := by decide +kernel
theorem dX12_putsBack_31 : decode cX12_putsBack 31 = .ok (.imul, 1) := by decide +kernel
theorem dX12_putsBack_32 : decode cX12_putsBack 32 = .ok (.iadd, 1) := by decide +kernel
theorem dX12_putsBack_33 : decode cX12_putsBack 33 = .ok (.iaload, 1) := by decide +kernel
theorem dX12_putsBack_34 : decode cX12_putsBack 34 = .ok (.iastore, 1) := by decide +kernel
theorem dX12_putsBack_35 : decode cX12_putsBack 35 = .ok (.aload_n 0, 1) := by decide +kernel
theorem dX12_putsBack_36 : decode cX12_putsBack 36 = .ok (.getfield 17, 3) := by decide +kernel
theorem dX12_putsBack_39 : decode cX12_putsBack 39 = .ok (.iload_n 2, 1) := by decide +kernel
theorem dX12_putsBack_40 : decode cX12_putsBack 40 = .ok (.aload_n 1, 1) := by decide +kernel
theorem dX12_putsBack_41 : decode cX12_putsBack 41 = .ok (.iconst 3, 1) := by decide +kernel
theorem dX12_putsBack_42 : decode cX12_putsBack 42 = .ok (.iconst 3, 1) := by decide +kernel
theorem dX12_putsBack_43 : decode cX12_putsBack 43 = .ok (.iload_n 2, 1) := by decide +kernel
theorem dX12_putsBack_44 : decode cX12_putsBack 44 = .ok (.imul, 1) := by decide +kernel
theorem dX12_putsBack_45 : decode cX12_putsBack 45 = .ok (.iadd, 1) := by decide +kernel
theorem dX12_putsBack_46 : decode cX12_putsBack 46 = .ok (.iaload, 1) := by decide +kernel
theorem dX12_putsBack_47 : decode cX12_putsBack 47 = .ok (.iastore, 1) := by decide +kernel
theorem dX12_putsBack_48 : decode cX12_putsBack 48 = .ok (.aload_n 0, 1) := by decide +kernel
theorem dX12_putsBack_49 : decode cX12_putsBack 49 = .ok (.getfield 20, 3) := by decide +kernel
theorem dX12_putsBack_52 : decode cX12_putsBack 52 = .ok (.iload_n 2, 1) := by decide +kernel
theorem dX12_putsBack_53 : decode cX12_putsBack 53 = .ok (.aload_n 1, 1) := by decide +kernel
theorem dX12_putsBack_54 : decode cX12_putsBack 54 = .ok (.iconst 4, 1) := by decide +kernel
theorem dX12_putsBack_55 : decode cX12_putsBack 55 = .ok (.iconst 3, 1) := by decide +kernel
theorem dX12_putsBack_56 : decode cX12_putsBack 56 = .ok (.iload_n 2, 1) := by decide +kernel
theorem dX12_putsBack_57 : decode cX12_putsBack 57 = .ok (.imul, 1) := by decide +kernel
theorem dX12_putsBack_58 : decode cX12_putsBack 58 = .ok (.iadd, 1) := by decide +kernel
theorem dX12_putsBack_59 : decode cX12_putsBack 59 = .ok (.iaload, 1) := by decide +kernel
theorem dX12_putsBack_60 : decode cX12_putsBack 60 = .ok (.iastore, 1) := by decide +kernel
theorem dX12_putsBack_61 : decode cX12_putsBack 61 = .ok (.iinc 2 1, 3) := by decide +kernel
theorem dX12_putsBack_64 : decode cX12_putsBack 64 = .ok (.goto (-48), 3) := by decide +kernel
theorem dX12_putsBack_67 : decode cX12_putsBack 67 = .ok (.return_, 1) := by decide +kernel
theorem dX12_times_0 : decode cX12_times 0 = .ok (.iload_n 1, 1) := by decide +kernel
theorem dX12_times_1 : decode cX12_times 1 = .ok (.iconst 1, 1) := by decide +kernel
theorem dX12_times_2 : decode cX12_times 2 = .ok (.bipush 20, 2) := by decide +kernel
theorem dX12_times_4 : decode cX12_times 4 = .ok (.invokestatic 125, 3) := by decide +kernel
theorem dX12_times_7 : decode cX12_times 7 = .ok (.ifCond .eq 34, 3) := by decide +kernel
theorem dX12_times_10 : decode cX12_times 10 = .ok (.iload_n 2, 1) := by decide +kernel
theorem dX12_times_11 : decode cX12_times 11 = .ok (.iconst 0, 1) := by decide +kernel
theorem dX12_times_12 : decode cX12_times 12 = .ok (.bipush 12, 2) := by decide +kernel
theorem dX12_times_14 : decode cX12_times 14 = .ok (.invokestatic 125, 3) := by decide +kernel
theorem dX12_times_17 : decode cX12_times 17 = .ok (.ifCond .eq 24, 3) := by decide +kernel
theorem dX12_times_20 : decode cX12_times 20 = .ok (.iload_n 3, 1) := by decide +kernel
theorem dX12_times_21 : decode cX12_times 21 = .ok (.iconst 0, 1) := by decide +kernel
theorem dX12_times_22 : decode cX12_times 22 = .ok (.bipush 10, 2) := by decide +kernel
theorem dX12_times_24 : decode cX12_times 24 = .ok (.invokestatic 125, 3) := by decide +kernel
theorem dX12_times_27 : decode cX12_times 27 = .ok (.ifCond .eq 14, 3) := by decide +kernel
theorem dX12_times_30 : decode cX12_times 30 = .ok (.iload 4, 2) := by decide +kernel
theorem dX12_times_32 : decode cX12_times 32 = .ok (.iconst 0, 1) := by decide +kernel
theorem dX12_times_33 : decode cX12_times 33 = .ok (.bipush 12, 2) := by decide +kernel
theorem dX12_times_35 : decode cX12_times 35 = .ok (.invokestatic 125, 3) := by decide +kernel
theorem dX12_times_38 : decode cX12_times 38 = .ok (.ifCond .ne 6, 3) := by decide +kernel
theorem dX12_times_41 : decode cX12_times 41 = .ok (.bipush (-2), 2) := by decide +kernel
theorem dX12_times_43 : decode cX12_times 43 = .ok (.ireturn, 1) := by decide +kernel
theorem dX12_times_44 : decode cX12_times 44 = .ok (.aload_n 0, 1) := by decide +kernel
theorem dX12_times_45 : decode cX12_times 45 = .ok (.aload_n 0, 1) := by decide +kernel
theorem dX12_times_46 : decode cX12_times 46 = .ok (.getfield 91, 3) := by decide +kernel
theorem dX12_times_49 : decode cX12_times 49 = .ok (.invokevirtual 339, 3) := by decide +kernel
theorem dX12_times_52 : decode cX12_times 52 = .ok (.iconst 0, 1) := by decide +kernel
theorem dX12_times_53 : decode cX12_times 53 = .ok (.istore 5, 2) := by decide +kernel
theorem dX12_times_55 : decode cX12_times 55 = .ok (.iconst 0, 1) := by decide +kernel
theorem dX12_times_56 : decode cX12_times 56 = .ok (.istore 6, 2) := by decide +kernel
theorem dX12_times_58 : decode cX12_times 58 = .ok (.iload 6, 2) := by decide +kernel
theorem dX12_times_60 : decode cX12_times 60 = .ok (.iload_n 1, 1) := by decide +kernel
theorem dX12_times_61 : decode cX12_times 61 = .ok (.if_icmp .ge 34, 3) := by decide +kernel
theorem dX12_times_64 : decode cX12_times 64 = .ok (.aload_n 0, 1) := by decide +kernel
theorem dX12_times_65 : decode cX12_times 65 = .ok (.iload_n 2, 1) := by decide +kernel
theorem dX12_times_66 : decode cX12_times 66 = .ok (.iload_n 3, 1) := by decide +kernel
theorem dX12_times_67 : decode cX12_times 67 = .ok (.invokevirtual 336, 3) := by decide +kernel
theorem dX12_times_70 : decode cX12_times 70 = .ok (.iload 5, 2) := by decide +kernel
theorem dX12_times_72 : decode cX12_times 72 = .ok (.aload_n 0, 1) := by decide +kernel
theorem dX12_times_73 : decode cX12_times 73 = .ok (.invokevirtual 180, 3) := by decide +kernel
theorem dX12_times_76 : decode cX12_times 76 = .ok (.iload 4, 2) := by decide +kernel
theorem dX12_times_78 : decode cX12_times 78 = .ok (.if_icmp .gt 7, 3) := by decide +kernel
theorem dX12_times_81 : decode cX12_times 81 = .ok (.iconst 1, 1) := by decide +kernel
theorem dX12_times_82 : decode cX12_times 82 = .ok (.goto 4, 3) := by decide +kernel
theorem dX12_times_85 : decode cX12_times 85 = .ok (.iconst 0, 1) := by decide +kernel
theorem dX12_times_86 : decode cX12_times 86 = .ok (.iadd, 1) := by decide +kernel
theorem dX12_times_87 : decode cX12_times 87 = .ok (.istore 5, 2) := by decide +kernel
theorem dX12_times_89 : decode cX12_times 89 = .ok (.iinc 6 1, 3) := by decide +kernel
theorem dX12_times_92 : decode cX12_times 92 = .ok (.goto (-34), 3) := by decide +kernel
theorem dX12_times_95 : decode cX12_times 95 = .ok (.aload_n 0, 1) := by decide +kernel
theorem dX12_times_96 : decode cX12_times 96 = .ok (.aload_n 0, 1) := by decide +kernel
theorem dX12_times_97 : decode cX12_times 97 = .ok (.getfield 91, 3) := by decide +kernel
theorem dX12_times_100 : decode cX12_times 100 = .ok (.invokevirtual 343, 3) := by decide +kernel
theorem dX12_times_103 : decode cX12_times 103 = .ok (.iload 5, 2) := by decide +kernel
theorem dX12_times_105 : decode cX12_times 105 = .ok (.ireturn, 1) := by decide +kernel
theorem dX12_isSheet_0 : decode cX12_isSheet 0 = .ok (.iload_n 0, 1) := by decide +kernel
theorem dX12_isSheet_1 : decode cX12_isSheet 1 = .ok (.iconst 0, 1) := by decide +kernel
theorem dX12_isSheet_2 : decode cX12_isSheet 2 = .ok (.iconst 3, 1) := by decide +kernel
theorem dX12_isSheet_3 : decode cX12_isSheet 3 = .ok (.invokestatic 125, 3) := by decide +kernel
theorem dX12_isSheet_6 : decode cX12_isSheet 6 = .ok (.ireturn, 1) := by decide +kernel
theorem dX12_sheet_0 : decode cX12_sheet 0 = .ok (.iload_n 1, 1) := by decide +kernel
theorem dX12_sheet_1 : decode cX12_sheet 1 = .ok (.invokestatic 253, 3) := by decide +kernel
theorem dX12_sheet_4 : decode cX12_sheet 4 = .ok (.ifCond .eq 23, 3) := by decide +kernel
theorem dX12_sheet_7 : decode cX12_sheet 7 = .ok (.iload_n 2, 1) := by decide +kernel
theorem dX12_sheet_8 : decode cX12_sheet 8 = .ok (.iconst (-1), 1) := by decide +kernel
theorem dX12_sheet_9 : decode cX12_sheet 9 = .ok (.iconst 2, 1) := by decide +kernel
theorem dX12_sheet_10 : decode cX12_sheet 10 = .ok (.invokestatic 125, 3) := by decide +kernel
theorem dX12_sheet_13 : decode cX12_sheet 13 = .ok (.ifCond .eq 14, 3) := by decide +kernel
theorem dX12_sheet_16 : decode cX12_sheet 16 = .ok (.iload_n 2, 1) := by decide +kernel
theorem dX12_sheet_17 : decode cX12_sheet 17 = .ok (.iconst (-1), 1) := by decide +kernel
theorem dX12_sheet_18 : decode cX12_sheet 18 = .ok (.if_icmp .eq 12, 3) := by decide +kernel
theorem dX12_sheet_21 : decode cX12_sheet 21 = .ok (.iload_n 3, 1) := by decide +kernel
theorem dX12_sheet_22 : decode cX12_sheet 22 = .ok (.bipush 60, 2) := by decide +kernel
theorem dX12_sheet_24 : decode cX12_sheet 24 = .ok (.if_icmp .le 6, 3) := by decide +kernel
theorem dX12_sheet_27 : decode cX12_sheet 27 = .ok (.bipush (-2), 2) := by decide +kernel
theorem dX12_sheet_29 : decode cX12_sheet 29 = .ok (.ireturn, 1) := by decide +kernel
theorem dX12_sheet_30 : decode cX12_sheet 30 = .ok (.iload_n 2, 1) := by decide +kernel
theorem dX12_sheet_31 : decode cX12_sheet 31 = .ok (.iconst (-1), 1) := by decide +kernel
theorem dX12_sheet_32 : decode cX12_sheet 32 = .ok (.if_icmp .eq 10, 3) := by decide +kernel
theorem dX12_sheet_35 : decode cX12_sheet 35 = .ok (.iload_n 3, 1) := by decide +kernel
theorem dX12_sheet_36 : decode cX12_sheet 36 = .ok (.ifCond .ge 6, 3) := by decide +kernel
theorem dX12_sheet_39 : decode cX12_sheet 39 = .ok (.bipush (-14), 2) := by decide +kernel
theorem dX12_sheet_41 : decode cX12_sheet 41 = .ok (.ireturn, 1) := by decide +kernel
theorem dX12_sheet_42 : decode cX12_sheet 42 = .ok (.aload_n 0, 1) := by decide +kernel
theorem dX12_sheet_43 : decode cX12_sheet 43 = .ok (.getfield 97, 3) := by decide +kernel
theorem dX12_sheet_46 : decode cX12_sheet 46 = .ok (.iload_n 1, 1) := by decide +kernel
theorem dX12_sheet_47 : decode cX12_sheet 47 = .ok (.iload_n 2, 1) := by decide +kernel
theorem dX12_sheet_48 : decode cX12_sheet 48 = .ok (.iastore, 1) := by decide +kernel
theorem dX12_sheet_49 : decode cX12_sheet 49 = .ok (.aload_n 0, 1) := by decide +kernel
theorem dX12_sheet_50 : decode cX12_sheet 50 = .ok (.getfield 100, 3) := by decide +kernel
theorem dX12_sheet_53 : decode cX12_sheet 53 = .ok (.iload_n 1, 1) := by decide +kernel
theorem dX12_sheet_54 : decode cX12_sheet 54 = .ok (.iload_n 2, 1) := by decide +kernel
theorem dX12_sheet_55 : decode cX12_sheet 55 = .ok (.iconst (-1), 1) := by decide +kernel
theorem dX12_sheet_56 : decode cX12_sheet 56 = .ok (.if_icmp .ne 7, 3) := by decide +kernel
theorem dX12_sheet_59 : decode cX12_sheet 59 = .ok (.iconst 0, 1) := by decide +kernel
theorem dX12_sheet_60 : decode cX12_sheet 60 = .ok (.goto 4, 3) := by decide +kernel
theorem dX12_sheet_63 : decode cX12_sheet 63 = .ok (.iload_n 3, 1) := by decide +kernel
theorem dX12_sheet_64 : decode cX12_sheet 64 = .ok (.iastore, 1) := by decide +kernel
theorem dX12_sheet_65 : decode cX12_sheet 65 = .ok (.iconst 0, 1) := by decide +kernel
theorem dX12_sheet_66 : decode cX12_sheet 66 = .ok (.istore 4, 2) := by decide +kernel
theorem dX12_sheet_68 : decode cX12_sheet 68 = .ok (.iload 4, 2) := by decide +kernel
theorem dX12_sheet_70 : decode cX12_sheet 70 = .ok (.bipush 60, 2) := by decide +kernel
theorem dX12_sheet_72 : decode cX12_sheet 72 = .ok (.if_icmp .ge 22, 3) := by decide +kernel
theorem dX12_sheet_75 : decode cX12_sheet 75 = .ok (.aload_n 0, 1) := by decide +kernel
theorem dX12_sheet_76 : decode cX12_sheet 76 = .ok (.getfield 103, 3) := by decide +kernel
theorem dX12_sheet_79 : decode cX12_sheet 79 = .ok (.bipush 60, 2) := by decide +kernel
theorem dX12_sheet_81 : decode cX12_sheet 81 = .ok (.iload_n 1, 1) := by decide +kernel
theorem dX12_sheet_82 : decode cX12_sheet 82 = .ok (.imul, 1) := by decide +kernel
theorem dX12_sheet_83 : decode cX12_sheet 83 = .ok (.iload 4, 2) := by decide +kernel
theorem dX12_sheet_85 : decode cX12_sheet 85 = .ok (.iadd, 1) := by decide +kernel
theorem dX12_sheet_86 : decode cX12_sheet 86 = .ok (.iconst 0, 1) := by decide +kernel
theorem dX12_sheet_87 : decode cX12_sheet 87 = .ok (.iastore, 1) := by decide +kernel
theorem dX12_sheet_88 : decode cX12_sheet 88 = .ok (.iinc 4 1, 3) := by decide +kernel
theorem dX12_sheet_91 : decode cX12_sheet 91 = .ok (.goto (-23), 3) := by decide +kernel
theorem dX12_sheet_94 : decode cX12_sheet 94 = .ok (.iconst 1, 1) := by decide +kernel
theorem dX12_sheet_95 : decode cX12_sheet 95 = .ok (.ireturn, 1) := by decide +kernel
theorem dX12_wrongAt_0 : decode cX12_wrongAt 0 = .ok (.iload_n 1, 1) := by decide +kernel
theorem dX12_wrongAt_1 : decode cX12_wrongAt 1 = .ok (.invokestatic 253, 3) := by decide +kernel
theorem dX12_wrongAt_4 : decode cX12_wrongAt 4 = .ok (.ifCond .ne 8, 3) := by decide +kernel
theorem dX12_wrongAt_7 : decode cX12_wrongAt 7 = .ok (.bipush (-2), 2) := by decide +kernel
theorem dX12_wrongAt_9 : decode cX12_wrongAt 9 = .ok (.goto 40, 3) := by decide +kernel
theorem dX12_wrongAt_12 : decode cX12_wrongAt 12 = .ok (.aload_n 0, 1) := by decide +kernel
theorem dX12_wrongAt_13 : decode cX12_wrongAt 13 = .ok (.getfield 97, 3) := by decide +kernel
theorem dX12_wrongAt_16 : decode cX12_wrongAt 16 = .ok (.iload_n 1, 1) := by decide +kernel
theorem dX12_wrongAt_17 : decode cX12_wrongAt 17 = .ok (.iaload, 1) := by decide +kernel
theorem dX12_wrongAt_18 : decode cX12_wrongAt 18 = .ok (.iconst (-1), 1) := by decide +kernel
theorem dX12_wrongAt_19 : decode cX12_wrongAt 19 = .ok (.if_icmp .ne 8, 3) := by decide +kernel
theorem dX12_wrongAt_22 : decode cX12_wrongAt 22 = .ok (.bipush (-11), 2) := by decide +kernel
theorem dX12_wrongAt_24 : decode cX12_wrongAt 24 = .ok (.goto 25, 3) := by decide +kernel
theorem dX12_wrongAt_27 : decode cX12_wrongAt 27 = .ok (.iload_n 2, 1) := by decide +kernel
theorem dX12_wrongAt_28 : decode cX12_wrongAt 28 = .ok (.iconst 0, 1) := by decide +kernel
theorem dX12_wrongAt_29 : decode cX12_wrongAt 29 = .ok (.aload_n 0, 1) := by decide +kernel
theorem dX12_wrongAt_30 : decode cX12_wrongAt 30 = .ok (.getfield 100, 3) := by decide +kernel
theorem dX12_wrongAt_33 : decode cX12_wrongAt 33 = .ok (.iload_n 1, 1) := by decide +kernel
theorem dX12_wrongAt_34 : decode cX12_wrongAt 34 = .ok (.iaload, 1) := by decide +kernel
theorem dX12_wrongAt_35 : decode cX12_wrongAt 35 = .ok (.iconst 1, 1) := by decide +kernel
theorem dX12_wrongAt_36 : decode cX12_wrongAt 36 = .ok (.isub, 1) := by decide +kernel
theorem dX12_wrongAt_37 : decode cX12_wrongAt 37 = .ok (.invokestatic 125, 3) := by decide +kernel
theorem dX12_wrongAt_40 : decode cX12_wrongAt 40 = .ok (.ifCond .eq 7, 3) := by decide +kernel
theorem dX12_wrongAt_43 : decode cX12_wrongAt 43 = .ok (.iconst 0, 1) := by decide +kernel
theorem dX12_wrongAt_44 : decode cX12_wrongAt 44 = .ok (.goto 5, 3) := by decide +kernel
theorem dX12_wrongAt_47 : decode cX12_wrongAt 47 = .ok (.bipush (-12), 2) := by decide +kernel
theorem dX12_wrongAt_49 : decode cX12_wrongAt 49 = .ok (.ireturn, 1) := by decide +kernel
theorem dX12_write_0 : decode cX12_write 0 = .ok (.aload_n 0, 1) := by decide +kernel
theorem dX12_write_1 : decode cX12_write 1 = .ok (.iload_n 1, 1) := by decide +kernel
theorem dX12_write_2 : decode cX12_write 2 = .ok (.iload_n 2, 1) := by decide +kernel
theorem dX12_write_3 : decode cX12_write 3 = .ok (.invokevirtual 346, 3) := by decide +kernel
theorem dX12_write_6 : decode cX12_write 6 = .ok (.istore 4, 2) := by decide +kernel
theorem dX12_write_8 : decode cX12_write 8 = .ok (.iload 4, 2) := by decide +kernel
theorem dX12_write_10 : decode cX12_write 10 = .ok (.ifCond .eq 6, 3) := by decide +kernel
theorem dX12_write_13 : decode cX12_write 13 = .ok (.iload 4, 2) := by decide +kernel
theorem dX12_write_15 : decode cX12_write 15 = .ok (.ireturn, 1) := by decide +kernel
theorem dX12_write_16 : decode cX12_write 16 = .ok (.aload_n 0, 1) := by decide +kernel
theorem dX12_write_17 : decode cX12_write 17 = .ok (.getfield 103, 3) := by decide +kernel
theorem dX12_write_20 : decode cX12_write 20 = .ok (.bipush 60, 2) := by decide +kernel
theorem dX12_write_22 : decode cX12_write 22 = .ok (.iload_n 1, 1) := by decide +kernel
theorem dX12_write_23 : decode cX12_write 23 = .ok (.imul, 1) := by decide +kernel
theorem dX12_write_24 : decode cX12_write 24 = .ok (.iload_n 2, 1) := by decide +kernel
theorem dX12_write_25 : decode cX12_write 25 = .ok (.iadd, 1) := by decide +kernel
theorem dX12_write_26 : decode cX12_write 26 = .ok (.aload_n 0, 1) := by decide +kernel
theorem dX12_write_27 : decode cX12_write 27 = .ok (.getfield 97, 3) := by decide +kernel
theorem dX12_write_30 : decode cX12_write 30 = .ok (.iload_n 1, 1) := by decide +kernel
theorem dX12_write_31 : decode cX12_write 31 = .ok (.iaload, 1) := by decide +kernel
theorem dX12_write_32 : decode cX12_write 32 = .ok (.ifCond .ne 8, 3) := by decide +kernel
theorem dX12_write_35 : decode cX12_write 35 = .ok (.iload_n 3, 1) := by decide +kernel
theorem dX12_write_36 : decode cX12_write 36 = .ok (.i2b, 1) := by decide +kernel
theorem dX12_write_37 : decode cX12_write 37 = .ok (.goto 19, 3) := by decide +kernel
theorem dX12_write_40 : decode cX12_write 40 = .ok (.aload_n 0, 1) := by decide +kernel
theorem dX12_write_41 : decode cX12_write 41 = .ok (.getfield 97, 3) := by decide +kernel
theorem dX12_write_44 : decode cX12_write 44 = .ok (.iload_n 1, 1) := by decide +kernel
theorem dX12_write_45 : decode cX12_write 45 = .ok (.iaload, 1) := by decide +kernel
theorem dX12_write_46 : decode cX12_write 46 = .ok (.iconst 1, 1) := by decide +kernel
theorem dX12_write_47 : decode cX12_write 47 = .ok (.if_icmp .ne 8, 3) := by decide +kernel
theorem dX12_write_50 : decode cX12_write 50 = .ok (.iload_n 3, 1) := by decide +kernel
theorem dX12_write_51 : decode cX12_write 51 = .ok (.i2s, 1) := by decide +kernel
theorem dX12_write_52 : decode cX12_write 52 = .ok (.goto 4, 3) := by decide +kernel
theorem dX12_write_55 : decode cX12_write 55 = .ok (.iload_n 3, 1) := by decide +kernel
theorem dX12_write_56 : decode cX12_write 56 = .ok (.iastore, 1) := by decide +kernel
theorem dX12_write_57 : decode cX12_write 57 = .ok (.iconst 1, 1) := by decide +kernel
theorem dX12_write_58 : decode cX12_write 58 = .ok (.ireturn, 1) := by decide +kernel
theorem dX12_item_0 : decode cX12_item 0 = .ok (.aload_n 0, 1) := by decide +kernel
theorem dX12_item_1 : decode cX12_item 1 = .ok (.iload_n 1, 1) := by decide +kernel
theorem dX12_item_2 : decode cX12_item 2 = .ok (.iload_n 2, 1) := by decide +kernel
theorem dX12_item_3 : decode cX12_item 3 = .ok (.invokevirtual 346, 3) := by decide +kernel
theorem dX12_item_6 : decode cX12_item 6 = .ok (.istore_n 3, 1) := by decide +kernel
theorem dX12_item_7 : decode cX12_item 7 = .ok (.iload_n 3, 1) := by decide +kernel
theorem dX12_item_8 : decode cX12_item 8 = .ok (.ifCond .eq 7, 3) := by decide +kernel
theorem dX12_item_11 : decode cX12_item 11 = .ok (.iload_n 3, 1) := by decide +kernel
theorem dX12_item_12 : decode cX12_item 12 = .ok (.goto 14, 3) := by decide +kernel
theorem dX12_item_15 : decode cX12_item 15 = .ok (.aload_n 0, 1) := by decide +kernel
theorem dX12_item_16 : decode cX12_item 16 = .ok (.getfield 103, 3) := by decide +kernel
theorem dX12_item_19 : decode cX12_item 19 = .ok (.bipush 60, 2) := by decide +kernel
theorem dX12_item_21 : decode cX12_item 21 = .ok (.iload_n 1, 1) := by decide +kernel
theorem dX12_item_22 : decode cX12_item 22 = .ok (.imul, 1) := by decide +kernel
theorem dX12_item_23 : decode cX12_item 23 = .ok (.iload_n 2, 1) := by decide +kernel
theorem dX12_item_24 : decode cX12_item 24 = .ok (.iadd, 1) := by decide +kernel
theorem dX12_item_25 : decode cX12_item 25 = .ok (.iaload, 1) := by decide +kernel
theorem dX12_item_26 : decode cX12_item 26 = .ok (.ireturn, 1) := by decide +kernel
theorem dX12_copy_0 : decode cX12_copy 0 = .ok (.iload_n 1, 1) := by decide +kernel
theorem dX12_copy_1 : decode cX12_copy 1 = .ok (.invokestatic 253, 3) := by decide +kernel
theorem dX12_copy_4 : decode cX12_copy 4 = .ok (.ifCond .eq 10, 3) := by decide +kernel
theorem dX12_copy_7 : decode cX12_copy 7 = .ok (.iload_n 3, 1) := by decide +kernel
theorem dX12_copy_8 : decode cX12_copy 8 = .ok (.invokestatic 253, 3) := by decide +kernel
theorem dX12_copy_11 : decode cX12_copy 11 = .ok (.ifCond .ne 6, 3) := by decide +kernel
theorem dX12_copy_14 : decode cX12_copy 14 = .ok (.bipush (-2), 2) := by decide +kernel
theorem dX12_copy_16 : decode cX12_copy 16 = .ok (.ireturn, 1) := by decide +kernel
theorem dX12_copy_17 : decode cX12_copy 17 = .ok (.aload_n 0, 1) := by decide +kernel
theorem dX12_copy_18 : decode cX12_copy 18 = .ok (.getfield 97, 3) := by decide +kernel
theorem dX12_copy_21 : decode cX12_copy 21 = .ok (.iload_n 1, 1) := by decide +kernel
theorem dX12_copy_22 : decode cX12_copy 22 = .ok (.iaload, 1) := by decide +kernel
theorem dX12_copy_23 : decode cX12_copy 23 = .ok (.iconst (-1), 1) := by decide +kernel
theorem dX12_copy_24 : decode cX12_copy 24 = .ok (.if_icmp .eq 13, 3) := by decide +kernel
theorem dX12_copy_27 : decode cX12_copy 27 = .ok (.aload_n 0, 1) := by decide +kernel
theorem dX12_copy_28 : decode cX12_copy 28 = .ok (.getfield 97, 3) := by decide +kernel
theorem dX12_copy_31 : decode cX12_copy 31 = .ok (.iload_n 3, 1) := by decide +kernel
theorem dX12_copy_32 : decode cX12_copy 32 = .ok (.iaload, 1) := by decide +kernel
theorem dX12_copy_33 : decode cX12_copy 33 = .ok (.iconst (-1), 1) := by decide +kernel
theorem dX12_copy_34 : decode cX12_copy 34 = .ok (.if_icmp .ne 6, 3) := by decide +kernel
theorem dX12_copy_37 : decode cX12_copy 37 = .ok (.bipush (-11), 2) := by decide +kernel
theorem dX12_copy_39 : decode cX12_copy 39 = .ok (.ireturn, 1) := by decide +kernel
theorem dX12_copy_40 : decode cX12_copy 40 = .ok (.aload_n 0, 1) := by decide +kernel
theorem dX12_copy_41 : decode cX12_copy 41 = .ok (.getfield 97, 3) := by decide +kernel
theorem dX12_copy_44 : decode cX12_copy 44 = .ok (.iload_n 1, 1) := by decide +kernel
theorem dX12_copy_45 : decode cX12_copy 45 = .ok (.iaload, 1) := by decide +kernel
theorem dX12_copy_46 : decode cX12_copy 46 = .ok (.aload_n 0, 1) := by decide +kernel
theorem dX12_copy_47 : decode cX12_copy 47 = .ok (.getfield 97, 3) := by decide +kernel
theorem dX12_copy_50 : decode cX12_copy 50 = .ok (.iload_n 3, 1) := by decide +kernel
theorem dX12_copy_51 : decode cX12_copy 51 = .ok (.iaload, 1) := by decide +kernel
theorem dX12_copy_52 : decode cX12_copy 52 = .ok (.if_icmp .eq 6, 3) := by decide +kernel
theorem dX12_copy_55 : decode cX12_copy 55 = .ok (.bipush (-13), 2) := by decide +kernel
theorem dX12_copy_57 : decode cX12_copy 57 = .ok (.ireturn, 1) := by decide +kernel
theorem dX12_copy_58 : decode cX12_copy 58 = .ok (.iload 5, 2) := by decide +kernel
theorem dX12_copy_60 : decode cX12_copy 60 = .ok (.ifCond .lt 39, 3) := by decide +kernel
theorem dX12_copy_63 : decode cX12_copy 63 = .ok (.iload_n 2, 1) := by decide +kernel
theorem dX12_copy_64 : decode cX12_copy 64 = .ok (.ifCond .lt 35, 3) := by decide +kernel
theorem dX12_copy_67 : decode cX12_copy 67 = .ok (.iload 4, 2) := by decide +kernel
theorem dX12_copy_69 : decode cX12_copy 69 = .ok (.ifCond .lt 30, 3) := by decide +kernel
theorem dX12_copy_72 : decode cX12_copy 72 = .ok (.iload_n 2, 1) := by decide +kernel
theorem dX12_copy_73 : decode cX12_copy 73 = .ok (.aload_n 0, 1) := by decide +kernel
theorem dX12_copy_74 : decode cX12_copy 74 = .ok (.getfield 100, 3) := by decide +kernel
theorem dX12_copy_77 : decode cX12_copy 77 = .ok (.iload_n 1, 1) := by decide +kernel
theorem dX12_copy_78 : decode cX12_copy 78 = .ok (.iaload, 1) := by decide +kernel
theorem dX12_copy_79 : decode cX12_copy 79 = .ok (.iload 5, 2) := by decide +kernel
theorem dX12_copy_81 : decode cX12_copy 81 = .ok (.isub, 1) := by decide +kernel
theorem dX12_copy_82 : decode cX12_copy 82 = .ok (.if_icmp .gt 17, 3) := by decide +kernel
theorem dX12_copy_85 : decode cX12_copy 85 = .ok (.iload 4, 2) := by decide +kernel
theorem dX12_copy_87 : decode cX12_copy 87 = .ok (.aload_n 0, 1) := by decide +kernel
theorem dX12_copy_88 : decode cX12_copy 88 = .ok (.getfield 100, 3) := by decide +kernel
theorem dX12_copy_91 : decode cX12_copy 91 = .ok (.iload_n 3, 1) := by decide +kernel
theorem dX12_copy_92 : decode cX12_copy 92 = .ok (.iaload, 1) := by decide +kernel
theorem dX12_copy_93 : decode cX12_copy 93 = .ok (.iload 5, 2) := by decide +kernel
theorem dX12_copy_95 : decode cX12_copy 95 = .ok (.isub, 1) := by decide +kernel
theorem dX12_copy_96 : decode cX12_copy 96 = .ok (.if_icmp .le 6, 3) := by decide +kernel
theorem dX12_copy_99 : decode cX12_copy 99 = .ok (.bipush (-12), 2) := by decide +kernel
theorem dX12_copy_101 : decode cX12_copy 101 = .ok (.ireturn, 1) := by decide +kernel
theorem dX12_copy_102 : decode cX12_copy 102 = .ok (.bipush 60, 2) := by decide +kernel
theorem dX12_copy_104 : decode cX12_copy 104 = .ok (.iload_n 1, 1) := by decide +kernel
theorem dX12_copy_105 : decode cX12_copy 105 = .ok (.imul, 1) := by decide +kernel
theorem dX12_copy_106 : decode cX12_copy 106 = .ok (.iload_n 2, 1) := by decide +kernel
theorem dX12_copy_107 : decode cX12_copy 107 = .ok (.iadd, 1) := by decide +kernel
theorem dX12_copy_108 : decode cX12_copy 108 = .ok (.bipush 60, 2) := by decide +kernel
theorem dX12_copy_110 : decode cX12_copy 110 = .ok (.iload_n 3, 1) := by decide +kernel
theorem dX12_copy_111 : decode cX12_copy 111 = .ok (.imul, 1) := by decide +kernel
theorem dX12_copy_112 : decode cX12_copy 112 = .ok (.iload 4, 2) := by decide +kernel
theorem dX12_copy_114 : decode cX12_copy 114 = .ok (.iadd, 1) := by decide +kernel
theorem dX12_copy_115 : decode cX12_copy 115 = .ok (.if_icmp .ge 7, 3) := by decide +kernel
theorem dX12_copy_118 : decode cX12_copy 118 = .ok (.iconst 1, 1) := by decide +kernel
theorem dX12_copy_119 : decode cX12_copy 119 = .ok (.goto 4, 3) := by decide +kernel
theorem dX12_copy_122 : decode cX12_copy 122 = .ok (.iconst 0, 1) := by decide +kernel
theorem dX12_copy_123 : decode cX12_copy 123 = .ok (.istore 6, 2) := by decide +kernel
theorem dX12_copy_125 : decode cX12_copy 125 = .ok (.iconst 0, 1) := by decide +kernel
theorem dX12_copy_126 : decode cX12_copy 126 = .ok (.istore 7, 2) := by decide +kernel
theorem dX12_copy_128 : decode cX12_copy 128 = .ok (.iload 7, 2) := by decide +kernel
theorem dX12_copy_130 : decode cX12_copy 130 = .ok (.iload 5, 2) := by decide +kernel
theorem dX12_copy_132 : decode cX12_copy 132 = .ok (.if_icmp .ge 57, 3) := by decide +kernel
theorem dX12_copy_135 : decode cX12_copy 135 = .ok (.iload 6, 2) := by decide +kernel
theorem dX12_copy_137 : decode cX12_copy 137 = .ok (.ifCond .eq 13, 3) := by decide +kernel
theorem dX12_copy_140 : decode cX12_copy 140 = .ok (.iload 5, 2) := by decide +kernel
theorem dX12_copy_142 : decode cX12_copy 142 = .ok (.iconst 1, 1) := by decide +kernel
theorem dX12_copy_143 : decode cX12_copy 143 = .ok (.isub, 1) := by decide +kernel
theorem dX12_copy_144 : decode cX12_copy 144 = .ok (.iload 7, 2) := by decide +kernel
theorem dX12_copy_146 : decode cX12_copy 146 = .ok (.isub, 1) := by decide +kernel
theorem dX12_copy_147 : decode cX12_copy 147 = .ok (.goto 5, 3) := by decide +kernel
theorem dX12_copy_150 : decode cX12_copy 150 = .ok (.iload 7, 2) := by decide +kernel
theorem dX12_copy_152 : decode cX12_copy 152 = .ok (.istore 8, 2) := by decide +kernel
theorem dX12_copy_154 : decode cX12_copy 154 = .ok (.aload_n 0, 1) := by decide +kernel
theorem dX12_copy_155 : decode cX12_copy 155 = .ok (.getfield 103, 3) := by decide +kernel
theorem dX12_copy_158 : decode cX12_copy 158 = .ok (.bipush 60, 2) := by decide +kernel
theorem dX12_copy_160 : decode cX12_copy 160 = .ok (.iload_n 3, 1) := by decide +kernel
theorem dX12_copy_161 : decode cX12_copy 161 = .ok (.imul, 1) := by decide +kernel
theorem dX12_copy_162 : decode cX12_copy 162 = .ok (.iload 4, 2) := by decide +kernel
theorem dX12_copy_164 : decode cX12_copy 164 = .ok (.iadd, 1) := by decide +kernel
theorem dX12_copy_165 : decode cX12_copy 165 = .ok (.iload 8, 2) := by decide +kernel
theorem dX12_copy_167 : decode cX12_copy 167 = .ok (.iadd, 1) := by decide +kernel
theorem dX12_copy_168 : decode cX12_copy 168 = .ok (.aload_n 0, 1) := by decide +kernel
theorem dX12_copy_169 : decode cX12_copy 169 = .ok (.getfield 103, 3) := by decide +kernel
theorem dX12_copy_172 : decode cX12_copy 172 = .ok (.bipush 60, 2) := by decide +kernel
theorem dX12_copy_174 : decode cX12_copy 174 = .ok (.iload_n 1, 1) := by decide +kernel
theorem dX12_copy_175 : decode cX12_copy 175 = .ok (.imul, 1) := by decide +kernel
theorem dX12_copy_176 : decode cX12_copy 176 = .ok (.iload_n 2, 1) := by decide +kernel
theorem dX12_copy_177 : decode cX12_copy 177 = .ok (.iadd, 1) := by decide +kernel
theorem dX12_copy_178 : decode cX12_copy 178 = .ok (.iload 8, 2) := by decide +kernel
theorem dX12_copy_180 : decode cX12_copy 180 = .ok (.iadd, 1) := by decide +kernel
theorem dX12_copy_181 : decode cX12_copy 181 = .ok (.iaload, 1) := by decide +kernel
theorem dX12_copy_182 : decode cX12_copy 182 = .ok (.iastore, 1) := by decide +kernel
theorem dX12_copy_183 : decode cX12_copy 183 = .ok (.iinc 7 1, 3) := by decide +kernel
theorem dX12_copy_186 : decode cX12_copy 186 = .ok (.goto (-58), 3) := by decide +kernel
theorem dX12_copy_189 : decode cX12_copy 189 = .ok (.iload 5, 2) := by decide +kernel
theorem dX12_copy_191 : decode cX12_copy 191 = .ok (.ireturn, 1) := by decide +kernel
theorem dX12_load_0 : decode cX12_load 0 = .ok (.iload_n 1, 1) := by decide +kernel
theorem dX12_load_1 : decode cX12_load 1 = .ok (.invokestatic 253, 3) := by decide +kernel
theorem dX12_load_4 : decode cX12_load 4 = .ok (.ifCond .ne 6, 3) := by decide +kernel
theorem dX12_load_7 : decode cX12_load 7 = .ok (.bipush (-2), 2) := by decide +kernel
theorem dX12_load_9 : decode cX12_load 9 = .ok (.ireturn, 1) := by decide +kernel
theorem dX12_load_10 : decode cX12_load 10 = .ok (.aload_n 0, 1) := by decide +kernel
theorem dX12_load_11 : decode cX12_load 11 = .ok (.getfield 97, 3) := by decide +kernel
theorem dX12_load_14 : decode cX12_load 14 = .ok (.iload_n 1, 1) := by decide +kernel
theorem dX12_load_15 : decode cX12_load 15 = .ok (.iaload, 1) := by decide +kernel
theorem dX12_load_16 : decode cX12_load 16 = .ok (.iconst (-1), 1) := by decide +kernel
theorem dX12_load_17 : decode cX12_load 17 = .ok (.if_icmp .ne 6, 3) := by decide +kernel
theorem dX12_load_20 : decode cX12_load 20 = .ok (.bipush (-11), 2) := by decide +kernel
theorem dX12_load_22 : decode cX12_load 22 = .ok (.ireturn, 1) := by decide +kernel
theorem dX12_load_23 : decode cX12_load 23 = .ok (.iconst 0, 1) := by decide +kernel
theorem dX12_load_24 : decode cX12_load 24 = .ok (.istore_n 2, 1) := by decide +kernel
theorem dX12_load_25 : decode cX12_load 25 = .ok (.iload_n 2, 1) := by decide +kernel
theorem dX12_load_26 : decode cX12_load 26 = .ok (.aload_n 0, 1) := by decide +kernel
theorem dX12_load_27 : decode cX12_load 27 = .ok (.getfield 100, 3) := by decide +kernel
theorem dX12_load_30 : decode cX12_load 30 = .ok (.iload_n 1, 1) := by decide +kernel
theorem dX12_load_31 : decode cX12_load 31 = .ok (.iaload, 1) := by decide +kernel
theorem dX12_load_32 : decode cX12_load 32 = .ok (.if_icmp .ge 54, 3) := by decide +kernel
theorem dX12_load_35 : decode cX12_load 35 = .ok (.iload_n 2, 1) := by decide +kernel
theorem dX12_load_36 : decode cX12_load 36 = .ok (.aload_n 0, 1) := by decide +kernel
theorem dX12_load_37 : decode cX12_load 37 = .ok (.getfield 122, 3) := by decide +kernel
theorem dX12_load_40 : decode cX12_load 40 = .ok (.if_icmp .ge 46, 3) := by decide +kernel
theorem dX12_load_43 : decode cX12_load 43 = .ok (.aload_n 0, 1) := by decide +kernel
theorem dX12_load_44 : decode cX12_load 44 = .ok (.getfield 103, 3) := by decide +kernel
theorem dX12_load_47 : decode cX12_load 47 = .ok (.bipush 60, 2) := by decide +kernel
theorem dX12_load_49 : decode cX12_load 49 = .ok (.iload_n 1, 1) := by decide +kernel
theorem dX12_load_50 : decode cX12_load 50 = .ok (.imul, 1) := by decide +kernel
theorem dX12_load_51 : decode cX12_load 51 = .ok (.iload_n 2, 1) := by decide +kernel
theorem dX12_load_52 : decode cX12_load 52 = .ok (.iadd, 1) := by decide +kernel
theorem dX12_load_53 : decode cX12_load 53 = .ok (.iaload, 1) := by decide +kernel
theorem dX12_load_54 : decode cX12_load 54 = .ok (.iconst 1, 1) := by decide +kernel
theorem dX12_load_55 : decode cX12_load 55 = .ok (.bipush 9, 2) := by decide +kernel
theorem dX12_load_57 : decode cX12_load 57 = .ok (.invokestatic 125, 3) := by decide +kernel
theorem dX12_load_60 : decode cX12_load 60 = .ok (.ifCond .eq 26, 3) := by decide +kernel
theorem dX12_load_63 : decode cX12_load 63 = .ok (.aload_n 0, 1) := by decide +kernel
theorem dX12_load_64 : decode cX12_load 64 = .ok (.getfield 17, 3) := by decide +kernel
theorem dX12_load_67 : decode cX12_load 67 = .ok (.iload_n 2, 1) := by decide +kernel
theorem dX12_load_68 : decode cX12_load 68 = .ok (.aload_n 0, 1) := by decide +kernel
theorem dX12_load_69 : decode cX12_load 69 = .ok (.getfield 103, 3) := by decide +kernel
theorem dX12_load_72 : decode cX12_load 72 = .ok (.bipush 60, 2) := by decide +kernel
theorem dX12_load_74 : decode cX12_load 74 = .ok (.iload_n 1, 1) := by decide +kernel
theorem dX12_load_75 : decode cX12_load 75 = .ok (.imul, 1) := by decide +kernel
theorem dX12_load_76 : decode cX12_load 76 = .ok (.iload_n 2, 1) := by decide +kernel
theorem dX12_load_77 : decode cX12_load 77 = .ok (.iadd, 1) := by decide +kernel
theorem dX12_load_78 : decode cX12_load 78 = .ok (.iaload, 1) := by decide +kernel
theorem dX12_load_79 : decode cX12_load 79 = .ok (.iastore, 1) := by decide +kernel
theorem dX12_load_80 : decode cX12_load 80 = .ok (.iinc 2 1, 3) := by decide +kernel
theorem dX12_load_83 : decode cX12_load 83 = .ok (.goto (-58), 3) := by decide +kernel
theorem dX12_load_86 : decode cX12_load 86 = .ok (.iload_n 2, 1) := by decide +kernel
theorem dX12_load_87 : decode cX12_load 87 = .ok (.ireturn, 1) := by decide +kernel
theorem dX12_judge_0 : decode cX12_judge 0 = .ok (.iload_n 1, 1) := by decide +kernel
theorem dX12_judge_1 : decode cX12_judge 1 = .ok (.invokestatic 253, 3) := by decide +kernel
theorem dX12_judge_4 : decode cX12_judge 4 = .ok (.ifCond .ne 6, 3) := by decide +kernel
theorem dX12_judge_7 : decode cX12_judge 7 = .ok (.bipush (-2), 2) := by decide +kernel
theorem dX12_judge_9 : decode cX12_judge 9 = .ok (.ireturn, 1) := by decide +kernel
theorem dX12_judge_10 : decode cX12_judge 10 = .ok (.aload_n 0, 1) := by decide +kernel
theorem dX12_judge_11 : decode cX12_judge 11 = .ok (.getfield 97, 3) := by decide +kernel
theorem dX12_judge_14 : decode cX12_judge 14 = .ok (.iload_n 1, 1) := by decide +kernel
theorem dX12_judge_15 : decode cX12_judge 15 = .ok (.iaload, 1) := by decide +kernel
theorem dX12_judge_16 : decode cX12_judge 16 = .ok (.iconst (-1), 1) := by decide +kernel
theorem dX12_judge_17 : decode cX12_judge 17 = .ok (.if_icmp .ne 6, 3) := by decide +kernel
theorem dX12_judge_20 : decode cX12_judge 20 = .ok (.bipush (-11), 2) := by decide +kernel
theorem dX12_judge_22 : decode cX12_judge 22 = .ok (.ireturn, 1) := by decide +kernel
theorem dX12_judge_23 : decode cX12_judge 23 = .ok (.iconst 0, 1) := by decide +kernel
theorem dX12_judge_24 : decode cX12_judge 24 = .ok (.istore_n 2, 1) := by decide +kernel
theorem dX12_judge_25 : decode cX12_judge 25 = .ok (.iconst 0, 1) := by decide +kernel
theorem dX12_judge_26 : decode cX12_judge 26 = .ok (.istore_n 3, 1) := by decide +kernel
theorem dX12_judge_27 : decode cX12_judge 27 = .ok (.iload_n 3, 1) := by decide +kernel
theorem dX12_judge_28 : decode cX12_judge 28 = .ok (.aload_n 0, 1) := by decide +kernel
theorem dX12_judge_29 : decode cX12_judge 29 = .ok (.getfield 100, 3) := by decide +kernel
theorem dX12_judge_32 : decode cX12_judge 32 = .ok (.iload_n 1, 1) := by decide +kernel
theorem dX12_judge_33 : decode cX12_judge 33 = .ok (.iaload, 1) := by decide +kernel
theorem dX12_judge_34 : decode cX12_judge 34 = .ok (.if_icmp .ge 101, 3) := by decide +kernel
theorem dX12_judge_37 : decode cX12_judge 37 = .ok (.aload_n 0, 1) := by decide +kernel
theorem dX12_judge_38 : decode cX12_judge 38 = .ok (.getfield 103, 3) := by decide +kernel
theorem dX12_judge_41 : decode cX12_judge 41 = .ok (.bipush 60, 2) := by decide +kernel
theorem dX12_judge_43 : decode cX12_judge 43 = .ok (.iload_n 1, 1) := by decide +kernel
theorem dX12_judge_44 : decode cX12_judge 44 = .ok (.imul, 1) := by decide +kernel
theorem dX12_judge_45 : decode cX12_judge 45 = .ok (.iload_n 3, 1) := by decide +kernel
theorem dX12_judge_46 : decode cX12_judge 46 = .ok (.iadd, 1) := by decide +kernel
theorem dX12_judge_47 : decode cX12_judge 47 = .ok (.iaload, 1) := by decide +kernel
theorem dX12_judge_48 : decode cX12_judge 48 = .ok (.istore 4, 2) := by decide +kernel
theorem dX12_judge_50 : decode cX12_judge 50 = .ok (.aload_n 0, 1) := by decide +kernel
theorem dX12_judge_51 : decode cX12_judge 51 = .ok (.iload_n 3, 1) := by decide +kernel
theorem dX12_judge_52 : decode cX12_judge 52 = .ok (.invokevirtual 145, 3) := by decide +kernel
theorem dX12_judge_55 : decode cX12_judge 55 = .ok (.ifCond .eq 13, 3) := by decide +kernel
theorem dX12_judge_58 : decode cX12_judge 58 = .ok (.iload 4, 2) := by decide +kernel
theorem dX12_judge_60 : decode cX12_judge 60 = .ok (.iconst 0, 1) := by decide +kernel
theorem dX12_judge_61 : decode cX12_judge 61 = .ok (.iconst 2, 1) := by decide +kernel
theorem dX12_judge_62 : decode cX12_judge 62 = .ok (.invokestatic 125, 3) := by decide +kernel
theorem dX12_judge_65 : decode cX12_judge 65 = .ok (.ifCond .ne 7, 3) := by decide +kernel
theorem dX12_judge_68 : decode cX12_judge 68 = .ok (.iconst 1, 1) := by decide +kernel
theorem dX12_judge_69 : decode cX12_judge 69 = .ok (.iload_n 3, 1) := by decide +kernel
theorem dX12_judge_70 : decode cX12_judge 70 = .ok (.iadd, 1) := by decide +kernel
theorem dX12_judge_71 : decode cX12_judge 71 = .ok (.ireturn, 1) := by decide +kernel
theorem dX12_judge_72 : decode cX12_judge 72 = .ok (.iconst 0, 1) := by decide +kernel
theorem dX12_judge_73 : decode cX12_judge 73 = .ok (.istore 5, 2) := by decide +kernel
theorem dX12_judge_75 : decode cX12_judge 75 = .ok (.iload 5, 2) := by decide +kernel
theorem dX12_judge_77 : decode cX12_judge 77 = .ok (.iload_n 3, 1) := by decide +kernel
theorem dX12_judge_78 : decode cX12_judge 78 = .ok (.if_icmp .ge 46, 3) := by decide +kernel
theorem dX12_judge_81 : decode cX12_judge 81 = .ok (.aload_n 0, 1) := by decide +kernel
theorem dX12_judge_82 : decode cX12_judge 82 = .ok (.getfield 20, 3) := by decide +kernel
theorem dX12_judge_85 : decode cX12_judge 85 = .ok (.iload_n 3, 1) := by decide +kernel
theorem dX12_judge_86 : decode cX12_judge 86 = .ok (.iaload, 1) := by decide +kernel
theorem dX12_judge_87 : decode cX12_judge 87 = .ok (.iload 5, 2) := by decide +kernel
theorem dX12_judge_89 : decode cX12_judge 89 = .ok (.invokestatic 118, 3) := by decide +kernel
theorem dX12_judge_92 : decode cX12_judge 92 = .ok (.ifCond .eq 26, 3) := by decide +kernel
theorem dX12_judge_95 : decode cX12_judge 95 = .ok (.aload_n 0, 1) := by decide +kernel
theorem dX12_judge_96 : decode cX12_judge 96 = .ok (.getfield 103, 3) := by decide +kernel
theorem dX12_judge_99 : decode cX12_judge 99 = .ok (.bipush 60, 2) := by decide +kernel
theorem dX12_judge_101 : decode cX12_judge 101 = .ok (.iload_n 1, 1) := by decide +kernel
theorem dX12_judge_102 : decode cX12_judge 102 = .ok (.imul, 1) := by decide +kernel
theorem dX12_judge_103 : decode cX12_judge 103 = .ok (.iload 5, 2) := by decide +kernel
theorem dX12_judge_105 : decode cX12_judge 105 = .ok (.iadd, 1) := by decide +kernel
theorem dX12_judge_106 : decode cX12_judge 106 = .ok (.iaload, 1) := by decide +kernel
theorem dX12_judge_107 : decode cX12_judge 107 = .ok (.iload 4, 2) := by decide +kernel
theorem dX12_judge_109 : decode cX12_judge 109 = .ok (.iadd, 1) := by decide +kernel
theorem dX12_judge_110 : decode cX12_judge 110 = .ok (.iconst 2, 1) := by decide +kernel
theorem dX12_judge_111 : decode cX12_judge 111 = .ok (.if_icmp .ge 7, 3) := by decide +kernel
theorem dX12_judge_114 : decode cX12_judge 114 = .ok (.iconst 1, 1) := by decide +kernel
theorem dX12_judge_115 : decode cX12_judge 115 = .ok (.iload_n 3, 1) := by decide +kernel
theorem dX12_judge_116 : decode cX12_judge 116 = .ok (.iadd, 1) := by decide +kernel
theorem dX12_judge_117 : decode cX12_judge 117 = .ok (.ireturn, 1) := by decide +kernel
theorem dX12_judge_118 : decode cX12_judge 118 = .ok (.iinc 5 1, 3) := by decide +kernel
theorem dX12_judge_121 : decode cX12_judge 121 = .ok (.goto (-46), 3) := by decide +kernel
theorem dX12_judge_124 : decode cX12_judge 124 = .ok (.iload_n 2, 1) := by decide +kernel
theorem dX12_judge_125 : decode cX12_judge 125 = .ok (.iload 4, 2) := by decide +kernel
theorem dX12_judge_127 : decode cX12_judge 127 = .ok (.iadd, 1) := by decide +kernel
theorem dX12_judge_128 : decode cX12_judge 128 = .ok (.istore_n 2, 1) := by decide +kernel
theorem dX12_judge_129 : decode cX12_judge 129 = .ok (.iinc 3 1, 3) := by decide +kernel
theorem dX12_judge_132 : decode cX12_judge 132 = .ok (.goto (-105), 3) := by decide +kernel
theorem dX12_judge_135 : decode cX12_judge 135 = .ok (.aload_n 0, 1) := by decide +kernel
theorem dX12_judge_136 : decode cX12_judge 136 = .ok (.getfield 100, 3) := by decide +kernel
theorem dX12_judge_139 : decode cX12_judge 139 = .ok (.iload_n 1, 1) := by decide +kernel
theorem dX12_judge_140 : decode cX12_judge 140 = .ok (.iaload, 1) := by decide +kernel
theorem dX12_judge_141 : decode cX12_judge 141 = .ok (.aload_n 0, 1) := by decide +kernel
theorem dX12_judge_142 : decode cX12_judge 142 = .ok (.getfield 122, 3) := by decide +kernel
theorem dX12_judge_145 : decode cX12_judge 145 = .ok (.if_icmp .ne 19, 3) := by decide +kernel
theorem dX12_judge_148 : decode cX12_judge 148 = .ok (.iload_n 2, 1) := by decide +kernel
theorem dX12_judge_149 : decode cX12_judge 149 = .ok (.aload_n 0, 1) := by decide +kernel
theorem dX12_judge_150 : decode cX12_judge 150 = .ok (.aload_n 0, 1) := by decide +kernel
theorem dX12_judge_151 : decode cX12_judge 151 = .ok (.invokevirtual 129, 3) := by decide +kernel
theorem dX12_judge_154 : decode cX12_judge 154 = .ok (.invokevirtual 203, 3) := by decide +kernel
theorem dX12_judge_157 : decode cX12_judge 157 = .ok (.if_icmp .ne 7, 3) := by decide +kernel
theorem dX12_judge_160 : decode cX12_judge 160 = .ok (.iconst 0, 1) := by decide +kernel
theorem dX12_judge_161 : decode cX12_judge 161 = .ok (.goto 5, 3) := by decide +kernel
theorem dX12_judge_164 : decode cX12_judge 164 = .ok (.bipush 100, 2) := by decide +kernel
theorem dX12_judge_166 : decode cX12_judge 166 = .ok (.ireturn, 1) := by decide +kernel
theorem dX12_isShelf_0 : decode cX12_isShelf 0 = .ok (.iload_n 0, 1) := by decide +kernel
theorem dX12_isShelf_1 : decode cX12_isShelf 1 = .ok (.iconst 0, 1) := by decide +kernel
theorem dX12_isShelf_2 : decode cX12_isShelf 2 = .ok (.iconst 3, 1) := by decide +kernel
theorem dX12_isShelf_3 : decode cX12_isShelf 3 = .ok (.invokestatic 125, 3) := by decide +kernel
theorem dX12_isShelf_6 : decode cX12_isShelf 6 = .ok (.ireturn, 1) := by decide +kernel
theorem dX12_shelf_0 : decode cX12_shelf 0 = .ok (.iload_n 1, 1) := by decide +kernel
theorem dX12_shelf_1 : decode cX12_shelf 1 = .ok (.invokestatic 349, 3) := by decide +kernel
theorem dX12_shelf_4 : decode cX12_shelf 4 = .ok (.ifCond .eq 36, 3) := by decide +kernel
theorem dX12_shelf_7 : decode cX12_shelf 7 = .ok (.iload_n 2, 1) := by decide +kernel
theorem dX12_shelf_8 : decode cX12_shelf 8 = .ok (.iconst 0, 1) := by decide +kernel
theorem dX12_shelf_9 : decode cX12_shelf 9 = .ok (.iconst 2, 1) := by decide +kernel
theorem dX12_shelf_10 : decode cX12_shelf 10 = .ok (.invokestatic 125, 3) := by decide +kernel
theorem dX12_shelf_13 : decode cX12_shelf 13 = .ok (.ifCond .eq 27, 3) := by decide +kernel
theorem dX12_shelf_16 : decode cX12_shelf 16 = .ok (.iload_n 2, 1) := by decide +kernel
theorem dX12_shelf_17 : decode cX12_shelf 17 = .ok (.ifCond .ne 11, 3) := by decide +kernel
theorem dX12_shelf_20 : decode cX12_shelf 20 = .ok (.aload_n 0, 1) := by decide +kernel
theorem dX12_shelf_21 : decode cX12_shelf 21 = .ok (.iload_n 3, 1) := by decide +kernel
theorem dX12_shelf_22 : decode cX12_shelf 22 = .ok (.invokevirtual 145, 3) := by decide +kernel
theorem dX12_shelf_25 : decode cX12_shelf 25 = .ok (.ifCond .eq 15, 3) := by decide +kernel
theorem dX12_shelf_28 : decode cX12_shelf 28 = .ok (.iload_n 2, 1) := by decide +kernel
theorem dX12_shelf_29 : decode cX12_shelf 29 = .ok (.iconst 1, 1) := by decide +kernel
theorem dX12_shelf_30 : decode cX12_shelf 30 = .ok (.if_icmp .ne 13, 3) := by decide +kernel
theorem dX12_shelf_33 : decode cX12_shelf 33 = .ok (.iload_n 3, 1) := by decide +kernel
theorem dX12_shelf_34 : decode cX12_shelf 34 = .ok (.invokestatic 253, 3) := by decide +kernel
theorem dX12_shelf_37 : decode cX12_shelf 37 = .ok (.ifCond .ne 6, 3) := by decide +kernel
theorem dX12_shelf_40 : decode cX12_shelf 40 = .ok (.bipush (-2), 2) := by decide +kernel
theorem dX12_shelf_42 : decode cX12_shelf 42 = .ok (.ireturn, 1) := by decide +kernel
theorem dX12_shelf_43 : decode cX12_shelf 43 = .ok (.aload_n 0, 1) := by decide +kernel
theorem dX12_shelf_44 : decode cX12_shelf 44 = .ok (.getfield 106, 3) := by decide +kernel
theorem dX12_shelf_47 : decode cX12_shelf 47 = .ok (.iload_n 1, 1) := by decide +kernel
theorem dX12_shelf_48 : decode cX12_shelf 48 = .ok (.iload_n 2, 1) := by decide +kernel
theorem dX12_shelf_49 : decode cX12_shelf 49 = .ok (.iconst 1, 1) := by decide +kernel
theorem dX12_shelf_50 : decode cX12_shelf 50 = .ok (.if_icmp .ne 17, 3) := by decide +kernel
theorem dX12_shelf_53 : decode cX12_shelf 53 = .ok (.aload_n 0, 1) := by decide +kernel
theorem dX12_shelf_54 : decode cX12_shelf 54 = .ok (.getfield 97, 3) := by decide +kernel
theorem dX12_shelf_57 : decode cX12_shelf 57 = .ok (.iload_n 3, 1) := by decide +kernel
theorem dX12_shelf_58 : decode cX12_shelf 58 = .ok (.iaload, 1) := by decide +kernel
theorem dX12_shelf_59 : decode cX12_shelf 59 = .ok (.iconst (-1), 1) := by decide +kernel
theorem dX12_shelf_60 : decode cX12_shelf 60 = .ok (.if_icmp .ne 7, 3) := by decide +kernel
theorem dX12_shelf_63 : decode cX12_shelf 63 = .ok (.iconst 2, 1) := by decide +kernel
theorem dX12_shelf_64 : decode cX12_shelf 64 = .ok (.goto 4, 3) := by decide +kernel
theorem dX12_shelf_67 : decode cX12_shelf 67 = .ok (.iload_n 2, 1) := by decide +kernel
theorem dX12_shelf_68 : decode cX12_shelf 68 = .ok (.iastore, 1) := by decide +kernel
theorem dX12_shelf_69 : decode cX12_shelf 69 = .ok (.aload_n 0, 1) := by decide +kernel
theorem dX12_shelf_70 : decode cX12_shelf 70 = .ok (.getfield 109, 3) := by decide +kernel
theorem dX12_shelf_73 : decode cX12_shelf 73 = .ok (.iload_n 1, 1) := by decide +kernel
theorem dX12_shelf_74 : decode cX12_shelf 74 = .ok (.iload_n 3, 1) := by decide +kernel
theorem dX12_shelf_75 : decode cX12_shelf 75 = .ok (.iastore, 1) := by decide +kernel
theorem dX12_shelf_76 : decode cX12_shelf 76 = .ok (.aload_n 0, 1) := by decide +kernel
theorem dX12_shelf_77 : decode cX12_shelf 77 = .ok (.getfield 112, 3) := by decide +kernel
theorem dX12_shelf_80 : decode cX12_shelf 80 = .ok (.iload_n 1, 1) := by decide +kernel
theorem dX12_shelf_81 : decode cX12_shelf 81 = .ok (.iload_n 2, 1) := by decide +kernel
theorem dX12_shelf_82 : decode cX12_shelf 82 = .ok (.iconst 1, 1) := by decide +kernel
theorem dX12_shelf_83 : decode cX12_shelf 83 = .ok (.if_icmp .ne 12, 3) := by decide +kernel
theorem dX12_shelf_86 : decode cX12_shelf 86 = .ok (.aload_n 0, 1) := by decide +kernel
theorem dX12_shelf_87 : decode cX12_shelf 87 = .ok (.getfield 97, 3) := by decide +kernel
theorem dX12_shelf_90 : decode cX12_shelf 90 = .ok (.iload_n 3, 1) := by decide +kernel
theorem dX12_shelf_91 : decode cX12_shelf 91 = .ok (.iaload, 1) := by decide +kernel
theorem dX12_shelf_92 : decode cX12_shelf 92 = .ok (.goto 4, 3) := by decide +kernel
theorem dX12_shelf_95 : decode cX12_shelf 95 = .ok (.iconst (-1), 1) := by decide +kernel
theorem dX12_shelf_96 : decode cX12_shelf 96 = .ok (.iastore, 1) := by decide +kernel
theorem dX12_shelf_97 : decode cX12_shelf 97 = .ok (.aload_n 0, 1) := by decide +kernel
theorem dX12_shelf_98 : decode cX12_shelf 98 = .ok (.getfield 115, 3) := by decide +kernel
theorem dX12_shelf_101 : decode cX12_shelf 101 = .ok (.iload_n 1, 1) := by decide +kernel
theorem dX12_shelf_102 : decode cX12_shelf 102 = .ok (.iload_n 2, 1) := by decide +kernel
theorem dX12_shelf_103 : decode cX12_shelf 103 = .ok (.iconst 1, 1) := by decide +kernel
theorem dX12_shelf_104 : decode cX12_shelf 104 = .ok (.if_icmp .ne 12, 3) := by decide +kernel
theorem dX12_shelf_107 : decode cX12_shelf 107 = .ok (.aload_n 0, 1) := by decide +kernel
theorem dX12_shelf_108 : decode cX12_shelf 108 = .ok (.getfield 100, 3) := by decide +kernel
theorem dX12_shelf_111 : decode cX12_shelf 111 = .ok (.iload_n 3, 1) := by decide +kernel
theorem dX12_shelf_112 : decode cX12_shelf 112 = .ok (.iaload, 1) := by decide +kernel
theorem dX12_shelf_113 : decode cX12_shelf 113 = .ok (.goto 4, 3) := by decide +kernel
theorem dX12_shelf_116 : decode cX12_shelf 116 = .ok (.iconst 0, 1) := by decide +kernel
theorem dX12_shelf_117 : decode cX12_shelf 117 = .ok (.iastore, 1) := by decide +kernel
theorem dX12_shelf_118 : decode cX12_shelf 118 = .ok (.iconst 1, 1) := by decide +kernel
theorem dX12_shelf_119 : decode cX12_shelf 119 = .ok (.ireturn, 1) := by decide +kernel
theorem dX12_over_0 : decode cX12_over 0 = .ok (.iload_n 0, 1) := by decide +kernel
theorem dX12_over_1 : decode cX12_over 1 = .ok (.ifCond .ne 7, 3) := by decide +kernel
theorem dX12_over_4 : decode cX12_over 4 = .ok (.iconst (-1), 1) := by decide +kernel
theorem dX12_over_5 : decode cX12_over 5 = .ok (.goto 31, 3) := by decide +kernel
theorem dX12_over_8 : decode cX12_over 8 = .ok (.iload_n 0, 1) := by decide +kernel
theorem dX12_over_9 : decode cX12_over 9 = .ok (.iconst 3, 1) := by decide +kernel
theorem dX12_over_10 : decode cX12_over 10 = .ok (.if_icmp .ge 7, 3) := by decide +kernel
theorem dX12_over_13 : decode cX12_over 13 = .ok (.iconst 0, 1) := by decide +kernel
theorem dX12_over_14 : decode cX12_over 14 = .ok (.goto 22, 3) := by decide +kernel
theorem dX12_over_17 : decode cX12_over 17 = .ok (.iload_n 0, 1) := by decide +kernel
theorem dX12_over_18 : decode cX12_over 18 = .ok (.iconst 3, 1) := by decide +kernel
theorem dX12_over_19 : decode cX12_over 19 = .ok (.if_icmp .ne 7, 3) := by decide +kernel
theorem dX12_over_22 : decode cX12_over 22 = .ok (.iconst 1, 1) := by decide +kernel
theorem dX12_over_23 : decode cX12_over 23 = .ok (.goto 13, 3) := by decide +kernel
theorem dX12_over_26 : decode cX12_over 26 = .ok (.iload_n 0, 1) := by decide +kernel
theorem dX12_over_27 : decode cX12_over 27 = .ok (.iconst 4, 1) := by decide +kernel
theorem dX12_over_28 : decode cX12_over 28 = .ok (.if_icmp .ne 7, 3) := by decide +kernel
theorem dX12_over_31 : decode cX12_over 31 = .ok (.iconst 2, 1) := by decide +kernel
theorem dX12_over_32 : decode cX12_over 32 = .ok (.goto 4, 3) := by decide +kernel
theorem dX12_over_35 : decode cX12_over 35 = .ok (.iconst 3, 1) := by decide +kernel
theorem dX12_over_36 : decode cX12_over 36 = .ok (.ireturn, 1) := by decide +kernel
theorem dX12_taken_0 : decode cX12_taken 0 = .ok (.iload_n 1, 1) := by decide +kernel
theorem dX12_taken_1 : decode cX12_taken 1 = .ok (.invokestatic 349, 3) := by decide +kernel
theorem dX12_taken_4 : decode cX12_taken 4 = .ok (.ifCond .eq 23, 3) := by decide +kernel
theorem dX12_taken_7 : decode cX12_taken 7 = .ok (.iload_n 2, 1) := by decide +kernel
theorem dX12_taken_8 : decode cX12_taken 8 = .ok (.iconst 0, 1) := by decide +kernel
theorem dX12_taken_9 : decode cX12_taken 9 = .ok (.iconst 5, 1) := by decide +kernel
theorem dX12_taken_10 : decode cX12_taken 10 = .ok (.invokestatic 125, 3) := by decide +kernel
theorem dX12_taken_13 : decode cX12_taken 13 = .ok (.ifCond .ne 17, 3) := by decide +kernel
theorem dX12_taken_16 : decode cX12_taken 16 = .ok (.iload_n 2, 1) := by decide +kernel
theorem dX12_taken_17 : decode cX12_taken 17 = .ok (.bipush 10, 2) := by decide +kernel
theorem dX12_taken_19 : decode cX12_taken 19 = .ok (.bipush 12, 2) := by decide +kernel
theorem dX12_taken_21 : decode cX12_taken 21 = .ok (.invokestatic 125, 3) := by decide +kernel
theorem dX12_taken_24 : decode cX12_taken 24 = .ok (.ifCond .ne 6, 3) := by decide +kernel
theorem dX12_taken_27 : decode cX12_taken 27 = .ok (.bipush (-2), 2) := by decide +kernel
theorem dX12_taken_29 : decode cX12_taken 29 = .ok (.ireturn, 1) := by decide +kernel
theorem dX12_taken_30 : decode cX12_taken 30 = .ok (.aload_n 0, 1) := by decide +kernel
theorem dX12_taken_31 : decode cX12_taken 31 = .ok (.getfield 106, 3) := by decide +kernel
theorem dX12_taken_34 : decode cX12_taken 34 = .ok (.iload_n 1, 1) := by decide +kernel
theorem dX12_taken_35 : decode cX12_taken 35 = .ok (.iaload, 1) := by decide +kernel
theorem dX12_taken_36 : decode cX12_taken 36 = .ok (.iconst 2, 1) := by decide +kernel
theorem dX12_taken_37 : decode cX12_taken 37 = .ok (.if_icmp .eq 25, 3) := by decide +kernel
theorem dX12_taken_40 : decode cX12_taken 40 = .ok (.aload_n 0, 1) := by decide +kernel
theorem dX12_taken_41 : decode cX12_taken 41 = .ok (.getfield 106, 3) := by decide +kernel
theorem dX12_taken_44 : decode cX12_taken 44 = .ok (.iload_n 1, 1) := by decide +kernel
theorem dX12_taken_45 : decode cX12_taken 45 = .ok (.iaload, 1) := by decide +kernel
theorem dX12_taken_46 : decode cX12_taken 46 = .ok (.ifCond .ne 19, 3) := by decide +kernel
theorem dX12_taken_49 : decode cX12_taken 49 = .ok (.aload_n 0, 1) := by decide +kernel
theorem dX12_taken_50 : decode cX12_taken 50 = .ok (.aload_n 0, 1) := by decide +kernel
theorem dX12_taken_51 : decode cX12_taken 51 = .ok (.getfield 109, 3) := by decide +kernel
theorem dX12_taken_54 : decode cX12_taken 54 = .ok (.iload_n 1, 1) := by decide +kernel
theorem dX12_taken_55 : decode cX12_taken 55 = .ok (.iaload, 1) := by decide +kernel
theorem dX12_taken_56 : decode cX12_taken 56 = .ok (.invokevirtual 145, 3) := by decide +kernel
theorem dX12_taken_59 : decode cX12_taken 59 = .ok (.ifCond .ne 6, 3) := by decide +kernel
theorem dX12_taken_62 : decode cX12_taken 62 = .ok (.bipush (-11), 2) := by decide +kernel
theorem dX12_taken_64 : decode cX12_taken 64 = .ok (.ireturn, 1) := by decide +kernel
theorem dX12_taken_65 : decode cX12_taken 65 = .ok (.aload_n 0, 1) := by decide +kernel
theorem dX12_taken_66 : decode cX12_taken 66 = .ok (.getfield 106, 3) := by decide +kernel
theorem dX12_taken_69 : decode cX12_taken 69 = .ok (.iload_n 1, 1) := by decide +kernel
theorem dX12_taken_70 : decode cX12_taken 70 = .ok (.iaload, 1) := by decide +kernel
theorem dX12_taken_71 : decode cX12_taken 71 = .ok (.iconst 1, 1) := by decide +kernel
theorem dX12_taken_72 : decode cX12_taken 72 = .ok (.if_icmp .ne 28, 3) := by decide +kernel
theorem dX12_taken_75 : decode cX12_taken 75 = .ok (.aload_n 0, 1) := by decide +kernel
theorem dX12_taken_76 : decode cX12_taken 76 = .ok (.getfield 112, 3) := by decide +kernel
theorem dX12_taken_79 : decode cX12_taken 79 = .ok (.iload_n 1, 1) := by decide +kernel
theorem dX12_taken_80 : decode cX12_taken 80 = .ok (.iaload, 1) := by decide +kernel
theorem dX12_taken_81 : decode cX12_taken 81 = .ok (.iload_n 2, 1) := by decide +kernel
theorem dX12_taken_82 : decode cX12_taken 82 = .ok (.bipush 10, 2) := by decide +kernel
theorem dX12_taken_84 : decode cX12_taken 84 = .ok (.isub, 1) := by decide +kernel
theorem dX12_taken_85 : decode cX12_taken 85 = .ok (.if_icmp .ne 12, 3) := by decide +kernel
theorem dX12_taken_88 : decode cX12_taken 88 = .ok (.aload_n 0, 1) := by decide +kernel
theorem dX12_taken_89 : decode cX12_taken 89 = .ok (.getfield 115, 3) := by decide +kernel
theorem dX12_taken_92 : decode cX12_taken 92 = .ok (.iload_n 1, 1) := by decide +kernel
theorem dX12_taken_93 : decode cX12_taken 93 = .ok (.iaload, 1) := by decide +kernel
theorem dX12_taken_94 : decode cX12_taken 94 = .ok (.goto 5, 3) := by decide +kernel
theorem dX12_taken_97 : decode cX12_taken 97 = .ok (.bipush (-13), 2) := by decide +kernel
theorem dX12_taken_99 : decode cX12_taken 99 = .ok (.ireturn, 1) := by decide +kernel
theorem dX12_taken_100 : decode cX12_taken 100 = .ok (.aload_n 0, 1) := by decide +kernel
theorem dX12_taken_101 : decode cX12_taken 101 = .ok (.getfield 13, 3) := by decide +kernel
theorem dX12_taken_104 : decode cX12_taken 104 = .ok (.aload_n 0, 1) := by decide +kernel
theorem dX12_taken_105 : decode cX12_taken 105 = .ok (.getfield 109, 3) := by decide +kernel
theorem dX12_taken_108 : decode cX12_taken 108 = .ok (.iload_n 1, 1) := by decide +kernel
theorem dX12_taken_109 : decode cX12_taken 109 = .ok (.iaload, 1) := by decide +kernel
theorem dX12_taken_110 : decode cX12_taken 110 = .ok (.iaload, 1) := by decide +kernel
theorem dX12_taken_111 : decode cX12_taken 111 = .ok (.istore_n 3, 1) := by decide +kernel
theorem dX12_taken_112 : decode cX12_taken 112 = .ok (.iload_n 3, 1) := by decide +kernel
theorem dX12_taken_113 : decode cX12_taken 113 = .ok (.iconst (-1), 1) := by decide +kernel
theorem dX12_taken_114 : decode cX12_taken 114 = .ok (.if_icmp .eq 16, 3) := by decide +kernel
theorem dX12_taken_117 : decode cX12_taken 117 = .ok (.iload_n 3, 1) := by decide +kernel
theorem dX12_taken_118 : decode cX12_taken 118 = .ok (.iload_n 2, 1) := by decide +kernel
theorem dX12_taken_119 : decode cX12_taken 119 = .ok (.if_icmp .eq 11, 3) := by decide +kernel
theorem dX12_taken_122 : decode cX12_taken 122 = .ok (.iload_n 3, 1) := by decide +kernel
theorem dX12_taken_123 : decode cX12_taken 123 = .ok (.invokestatic 352, 3) := by decide +kernel
theorem dX12_taken_126 : decode cX12_taken 126 = .ok (.istore_n 3, 1) := by decide +kernel
theorem dX12_taken_127 : decode cX12_taken 127 = .ok (.goto (-15), 3) := by decide +kernel
theorem dX12_taken_130 : decode cX12_taken 130 = .ok (.iload_n 3, 1) := by decide +kernel
theorem dX12_taken_131 : decode cX12_taken 131 = .ok (.iload_n 2, 1) := by decide +kernel
theorem dX12_taken_132 : decode cX12_taken 132 = .ok (.if_icmp .ne 12, 3) := by decide +kernel
theorem dX12_taken_135 : decode cX12_taken 135 = .ok (.aload_n 0, 1) := by decide +kernel
theorem dX12_taken_136 : decode cX12_taken 136 = .ok (.getfield 109, 3) := by decide +kernel
theorem dX12_taken_139 : decode cX12_taken 139 = .ok (.iload_n 1, 1) := by decide +kernel
theorem dX12_taken_140 : decode cX12_taken 140 = .ok (.iaload, 1) := by decide +kernel
theorem dX12_taken_141 : decode cX12_taken 141 = .ok (.goto 5, 3) := by decide +kernel
theorem dX12_taken_144 : decode cX12_taken 144 = .ok (.bipush (-13), 2) := by decide +kernel
theorem dX12_taken_146 : decode cX12_taken 146 = .ok (.ireturn, 1) := by decide +kernel
theorem dX12_image_0 : decode cX12_image 0 = .ok (.aload_n 0, 1) := by decide +kernel
theorem dX12_image_1 : decode cX12_image 1 = .ok (.aload_n 0, 1) := by decide +kernel
theorem dX12_image_2 : decode cX12_image 2 = .ok (.getfield 94, 3) := by decide +kernel
theorem dX12_image_5 : decode cX12_image 5 = .ok (.invokevirtual 339, 3) := by decide +kernel
theorem dX12_image_8 : decode cX12_image 8 = .ok (.aload_n 0, 1) := by decide +kernel
theorem dX12_image_9 : decode cX12_image 9 = .ok (.iconst 1, 1) := by decide +kernel
theorem dX12_image_10 : decode cX12_image 10 = .ok (.putfield 355, 3) := by decide +kernel
theorem dX12_image_13 : decode cX12_image 13 = .ok (.aload_n 0, 1) := by decide +kernel
theorem dX12_image_14 : decode cX12_image 14 = .ok (.getfield 122, 3) := by decide +kernel
theorem dX12_image_17 : decode cX12_image 17 = .ok (.ireturn, 1) := by decide +kernel
theorem dX12_back_0 : decode cX12_back 0 = .ok (.aload_n 0, 1) := by decide +kernel
theorem dX12_back_1 : decode cX12_back 1 = .ok (.getfield 355, 3) := by decide +kernel
theorem dX12_back_4 : decode cX12_back 4 = .ok (.ifCond .ne 6, 3) := by decide +kernel
theorem dX12_back_7 : decode cX12_back 7 = .ok (.bipush (-3), 2) := by decide +kernel
theorem dX12_back_9 : decode cX12_back 9 = .ok (.ireturn, 1) := by decide +kernel
theorem dX12_back_10 : decode cX12_back 10 = .ok (.aload_n 0, 1) := by decide +kernel
theorem dX12_back_11 : decode cX12_back 11 = .ok (.aload_n 0, 1) := by decide +kernel
theorem dX12_back_12 : decode cX12_back 12 = .ok (.getfield 94, 3) := by decide +kernel
theorem dX12_back_15 : decode cX12_back 15 = .ok (.invokevirtual 343, 3) := by decide +kernel
theorem dX12_back_18 : decode cX12_back 18 = .ok (.aload_n 0, 1) := by decide +kernel
theorem dX12_back_19 : decode cX12_back 19 = .ok (.getfield 122, 3) := by decide +kernel
theorem dX12_back_22 : decode cX12_back 22 = .ok (.ireturn, 1) := by decide +kernel
