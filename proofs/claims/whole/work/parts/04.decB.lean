theorem dX11_init_0 : decode cX11_init 0 = .ok (.aload_n 0, 1) := by decide +kernel
theorem dX11_init_1 : decode cX11_init 1 = .ok (.invokespecial 1, 3) := by decide +kernel
theorem dX11_init_4 : decode cX11_init 4 = .ok (.aload_n 0, 1) := by decide +kernel
theorem dX11_init_5 : decode cX11_init 5 = .ok (.new 7, 3) := by decide +kernel
theorem dX11_init_8 : decode cX11_init 8 = .ok (.dup, 1) := by decide +kernel
theorem dX11_init_9 : decode cX11_init 9 = .ok (.invokespecial 9, 3) := by decide +kernel
theorem dX11_init_12 : decode cX11_init 12 = .ok (.putfield 10, 3) := by decide +kernel
theorem dX11_init_15 : decode cX11_init 15 = .ok (.aload_n 0, 1) := by decide +kernel
theorem dX11_init_16 : decode cX11_init 16 = .ok (.new 7, 3) := by decide +kernel
theorem dX11_init_19 : decode cX11_init 19 = .ok (.dup, 1) := by decide +kernel
theorem dX11_init_20 : decode cX11_init 20 = .ok (.invokespecial 9, 3) := by decide +kernel
theorem dX11_init_23 : decode cX11_init 23 = .ok (.putfield 16, 3) := by decide +kernel
theorem dX11_init_26 : decode cX11_init 26 = .ok (.aload_n 0, 1) := by decide +kernel
theorem dX11_init_27 : decode cX11_init 27 = .ok (.new 7, 3) := by decide +kernel
theorem dX11_init_30 : decode cX11_init 30 = .ok (.dup, 1) := by decide +kernel
theorem dX11_init_31 : decode cX11_init 31 = .ok (.invokespecial 9, 3) := by decide +kernel
theorem dX11_init_34 : decode cX11_init 34 = .ok (.putfield 19, 3) := by decide +kernel
theorem dX11_init_37 : decode cX11_init 37 = .ok (.aload_n 0, 1) := by decide +kernel
theorem dX11_init_38 : decode cX11_init 38 = .ok (.new 22, 3) := by decide +kernel
theorem dX11_init_41 : decode cX11_init 41 = .ok (.dup, 1) := by decide +kernel
theorem dX11_init_42 : decode cX11_init 42 = .ok (.invokespecial 24, 3) := by decide +kernel
theorem dX11_init_45 : decode cX11_init 45 = .ok (.putfield 25, 3) := by decide +kernel
theorem dX11_init_48 : decode cX11_init 48 = .ok (.sipush 4096, 3) := by decide +kernel
theorem dX11_init_51 : decode cX11_init 51 = .ok (.newarray .int, 2) := by decide +kernel
theorem dX11_init_53 : decode cX11_init 53 = .ok (.astore_n 1, 1) := by decide +kernel
theorem dX11_init_54 : decode cX11_init 54 = .ok (.aload_n 0, 1) := by decide +kernel
theorem dX11_init_55 : decode cX11_init 55 = .ok (.new 29, 3) := by decide +kernel
theorem dX11_init_58 : decode cX11_init 58 = .ok (.dup, 1) := by decide +kernel
theorem dX11_init_59 : decode cX11_init 59 = .ok (.aload_n 1, 1) := by decide +kernel
theorem dX11_init_60 : decode cX11_init 60 = .ok (.invokespecial 31, 3) := by decide +kernel
theorem dX11_init_63 : decode cX11_init 63 = .ok (.putfield 34, 3) := by decide +kernel
theorem dX11_init_66 : decode cX11_init 66 = .ok (.aload_n 0, 1) := by decide +kernel
theorem dX11_init_67 : decode cX11_init 67 = .ok (.new 38, 3) := by decide +kernel
theorem dX11_init_70 : decode cX11_init 70 = .ok (.dup, 1) := by decide +kernel
theorem dX11_init_71 : decode cX11_init 71 = .ok (.invokespecial 40, 3) := by decide +kernel
theorem dX11_init_74 : decode cX11_init 74 = .ok (.putfield 41, 3) := by decide +kernel
theorem dX11_init_77 : decode cX11_init 77 = .ok (.aload_n 0, 1) := by decide +kernel
theorem dX11_init_78 : decode cX11_init 78 = .ok (.new 45, 3) := by decide +kernel
theorem dX11_init_81 : decode cX11_init 81 = .ok (.dup, 1) := by decide +kernel
theorem dX11_init_82 : decode cX11_init 82 = .ok (.invokespecial 47, 3) := by decide +kernel
theorem dX11_init_85 : decode cX11_init 85 = .ok (.putfield 48, 3) := by decide +kernel
theorem dX11_init_88 : decode cX11_init 88 = .ok (.aload_n 0, 1) := by decide +kernel
theorem dX11_init_89 : decode cX11_init 89 = .ok (.new 52, 3) := by decide +kernel
theorem dX11_init_92 : decode cX11_init 92 = .ok (.dup, 1) := by decide +kernel
theorem dX11_init_93 : decode cX11_init 93 = .ok (.aload_n 1, 1) := by decide +kernel
theorem dX11_init_94 : decode cX11_init 94 = .ok (.invokespecial 54, 3) := by decide +kernel
theorem dX11_init_97 : decode cX11_init 97 = .ok (.putfield 55, 3) := by decide +kernel
theorem dX11_init_100 : decode cX11_init 100 = .ok (.aload_n 0, 1) := by decide +kernel
theorem dX11_init_101 : decode cX11_init 101 = .ok (.new 59, 3) := by decide +kernel
theorem dX11_init_104 : decode cX11_init 104 = .ok (.dup, 1) := by decide +kernel
theorem dX11_init_105 : decode cX11_init 105 = .ok (.invokespecial 61, 3) := by decide +kernel
theorem dX11_init_108 : decode cX11_init 108 = .ok (.putfield 62, 3) := by decide +kernel
theorem dX11_init_111 : decode cX11_init 111 = .ok (.aload_n 0, 1) := by decide +kernel
theorem dX11_init_112 : decode cX11_init 112 = .ok (.new 66, 3) := by decide +kernel
theorem dX11_init_115 : decode cX11_init 115 = .ok (.dup, 1) := by decide +kernel
theorem dX11_init_116 : decode cX11_init 116 = .ok (.invokespecial 68, 3) := by decide +kernel
theorem dX11_init_119 : decode cX11_init 119 = .ok (.putfield 69, 3) := by decide +kernel
theorem dX11_init_122 : decode cX11_init 122 = .ok (.aload_n 0, 1) := by decide +kernel
theorem dX11_init_123 : decode cX11_init 123 = .ok (.new 73, 3) := by decide +kernel
theorem dX11_init_126 : decode cX11_init 126 = .ok (.dup, 1) := by decide +kernel
theorem dX11_init_127 : decode cX11_init 127 = .ok (.invokespecial 75, 3) := by decide +kernel
theorem dX11_init_130 : decode cX11_init 130 = .ok (.putfield 76, 3) := by decide +kernel
theorem dX11_init_133 : decode cX11_init 133 = .ok (.aload_n 0, 1) := by decide +kernel
theorem dX11_init_134 : decode cX11_init 134 = .ok (.new 80, 3) := by decide +kernel
theorem dX11_init_137 : decode cX11_init 137 = .ok (.dup, 1) := by decide +kernel
theorem dX11_init_138 : decode cX11_init 138 = .ok (.invokespecial 82, 3) := by decide +kernel
theorem dX11_init_141 : decode cX11_init 141 = .ok (.putfield 83, 3) := by decide +kernel
theorem dX11_init_144 : decode cX11_init 144 = .ok (.aload_n 0, 1) := by decide +kernel
theorem dX11_init_145 : decode cX11_init 145 = .ok (.new 87, 3) := by decide +kernel
theorem dX11_init_148 : decode cX11_init 148 = .ok (.dup, 1) := by decide +kernel
theorem dX11_init_149 : decode cX11_init 149 = .ok (.invokespecial 89, 3) := by decide +kernel
theorem dX11_init_152 : decode cX11_init 152 = .ok (.putfield 90, 3) := by decide +kernel
theorem dX11_init_155 : decode cX11_init 155 = .ok (.aload_n 0, 1) := by decide +kernel
theorem dX11_init_156 : decode cX11_init 156 = .ok (.new 87, 3) := by decide +kernel
theorem dX11_init_159 : decode cX11_init 159 = .ok (.dup, 1) := by decide +kernel
theorem dX11_init_160 : decode cX11_init 160 = .ok (.invokespecial 89, 3) := by decide +kernel
theorem dX11_init_163 : decode cX11_init 163 = .ok (.putfield 94, 3) := by decide +kernel
theorem dX11_init_166 : decode cX11_init 166 = .ok (.aload_n 0, 1) := by decide +kernel
theorem dX11_init_167 : decode cX11_init 167 = .ok (.iconst 1, 1) := by decide +kernel
theorem dX11_init_168 : decode cX11_init 168 = .ok (.putfield 97, 3) := by decide +kernel
theorem dX11_init_171 : decode cX11_init 171 = .ok (.aload_n 0, 1) := by decide +kernel
theorem dX11_init_172 : decode cX11_init 172 = .ok (.iconst 1, 1) := by decide +kernel
theorem dX11_init_173 : decode cX11_init 173 = .ok (.putfield 101, 3) := by decide +kernel
theorem dX11_init_176 : decode cX11_init 176 = .ok (.aload_n 0, 1) := by decide +kernel
theorem dX11_init_177 : decode cX11_init 177 = .ok (.iconst 0, 1) := by decide +kernel
theorem dX11_init_178 : decode cX11_init 178 = .ok (.putfield 104, 3) := by decide +kernel
theorem dX11_init_181 : decode cX11_init 181 = .ok (.return_, 1) := by decide +kernel
theorem dX11_point_0 : decode cX11_point 0 = .ok (.iload_n 1, 1) := by decide +kernel
theorem dX11_point_1 : decode cX11_point 1 = .ok (.invokestatic 108, 3) := by decide +kernel
theorem dX11_point_4 : decode cX11_point 4 = .ok (.ifCond .eq 10, 3) := by decide +kernel
theorem dX11_point_7 : decode cX11_point 7 = .ok (.iload_n 2, 1) := by decide +kernel
theorem dX11_point_8 : decode cX11_point 8 = .ok (.invokestatic 112, 3) := by decide +kernel
theorem dX11_point_11 : decode cX11_point 11 = .ok (.ifCond .ne 6, 3) := by decide +kernel
theorem dX11_point_14 : decode cX11_point 14 = .ok (.bipush (-2), 2) := by decide +kernel
theorem dX11_point_16 : decode cX11_point 16 = .ok (.ireturn, 1) := by decide +kernel
theorem dX11_point_17 : decode cX11_point 17 = .ok (.aload_n 0, 1) := by decide +kernel
theorem dX11_point_18 : decode cX11_point 18 = .ok (.getfield 10, 3) := by decide +kernel
theorem dX11_point_21 : decode cX11_point 21 = .ok (.getfield 115, 3) := by decide +kernel
theorem dX11_point_24 : decode cX11_point 24 = .ok (.bipush 12, 2) := by decide +kernel
theorem dX11_point_26 : decode cX11_point 26 = .ok (.if_icmp .lt 6, 3) := by decide +kernel
theorem dX11_point_29 : decode cX11_point 29 = .ok (.bipush (-4), 2) := by decide +kernel
theorem dX11_point_31 : decode cX11_point 31 = .ok (.ireturn, 1) := by decide +kernel
theorem dX11_point_32 : decode cX11_point 32 = .ok (.aload_n 0, 1) := by decide +kernel
theorem dX11_point_33 : decode cX11_point 33 = .ok (.getfield 10, 3) := by decide +kernel
theorem dX11_point_36 : decode cX11_point 36 = .ok (.iload_n 1, 1) := by decide +kernel
theorem dX11_point_37 : decode cX11_point 37 = .ok (.iload_n 2, 1) := by decide +kernel
theorem dX11_point_38 : decode cX11_point 38 = .ok (.invokevirtual 118, 3) := by decide +kernel
theorem dX11_point_41 : decode cX11_point 41 = .ok (.ireturn, 1) := by decide +kernel
theorem dX11_line_0 : decode cX11_line 0 = .ok (.aload_n 0, 1) := by decide +kernel
theorem dX11_line_1 : decode cX11_line 1 = .ok (.getfield 10, 3) := by decide +kernel
theorem dX11_line_4 : decode cX11_line 4 = .ok (.iload_n 1, 1) := by decide +kernel
theorem dX11_line_5 : decode cX11_line 5 = .ok (.iload_n 2, 1) := by decide +kernel
theorem dX11_line_6 : decode cX11_line 6 = .ok (.invokevirtual 122, 3) := by decide +kernel
theorem dX11_line_9 : decode cX11_line 9 = .ok (.ifCond .eq 12, 3) := by decide +kernel
theorem dX11_line_12 : decode cX11_line 12 = .ok (.iload_n 3, 1) := by decide +kernel
theorem dX11_line_13 : decode cX11_line 13 = .ok (.iconst 0, 1) := by decide +kernel
theorem dX11_line_14 : decode cX11_line 14 = .ok (.iconst 1, 1) := by decide +kernel
theorem dX11_line_15 : decode cX11_line 15 = .ok (.invokestatic 126, 3) := by decide +kernel
theorem dX11_line_18 : decode cX11_line 18 = .ok (.ifCond .ne 6, 3) := by decide +kernel
theorem dX11_line_21 : decode cX11_line 21 = .ok (.bipush (-2), 2) := by decide +kernel
theorem dX11_line_23 : decode cX11_line 23 = .ok (.ireturn, 1) := by decide +kernel
theorem dX11_line_24 : decode cX11_line 24 = .ok (.aload_n 0, 1) := by decide +kernel
theorem dX11_line_25 : decode cX11_line 25 = .ok (.getfield 10, 3) := by decide +kernel
theorem dX11_line_28 : decode cX11_line 28 = .ok (.iload_n 1, 1) := by decide +kernel
theorem dX11_line_29 : decode cX11_line 29 = .ok (.iload_n 2, 1) := by decide +kernel
theorem dX11_line_30 : decode cX11_line 30 = .ok (.invokevirtual 130, 3) := by decide +kernel
theorem dX11_line_33 : decode cX11_line 33 = .ok (.ifCond .eq 7, 3) := by decide +kernel
theorem dX11_line_36 : decode cX11_line 36 = .ok (.iconst 1, 1) := by decide +kernel
theorem dX11_line_37 : decode cX11_line 37 = .ok (.goto 4, 3) := by decide +kernel
theorem dX11_line_40 : decode cX11_line 40 = .ok (.iconst 0, 1) := by decide +kernel
theorem dX11_line_41 : decode cX11_line 41 = .ok (.istore 4, 2) := by decide +kernel
theorem dX11_line_43 : decode cX11_line 43 = .ok (.aload_n 0, 1) := by decide +kernel
theorem dX11_line_44 : decode cX11_line 44 = .ok (.getfield 10, 3) := by decide +kernel
theorem dX11_line_47 : decode cX11_line 47 = .ok (.iload_n 1, 1) := by decide +kernel
theorem dX11_line_48 : decode cX11_line 48 = .ok (.iload_n 2, 1) := by decide +kernel
theorem dX11_line_49 : decode cX11_line 49 = .ok (.iload_n 3, 1) := by decide +kernel
theorem dX11_line_50 : decode cX11_line 50 = .ok (.iconst 1, 1) := by decide +kernel
theorem dX11_line_51 : decode cX11_line 51 = .ok (.if_icmp .ne 7, 3) := by decide +kernel
theorem dX11_line_54 : decode cX11_line 54 = .ok (.iconst 1, 1) := by decide +kernel
theorem dX11_line_55 : decode cX11_line 55 = .ok (.goto 4, 3) := by decide +kernel
theorem dX11_line_58 : decode cX11_line 58 = .ok (.iconst 0, 1) := by decide +kernel
theorem dX11_line_59 : decode cX11_line 59 = .ok (.invokevirtual 133, 3) := by decide +kernel
theorem dX11_line_62 : decode cX11_line 62 = .ok (.iload 4, 2) := by decide +kernel
theorem dX11_line_64 : decode cX11_line 64 = .ok (.ireturn, 1) := by decide +kernel
theorem dX11_pointOf_0 : decode cX11_pointOf 0 = .ok (.aload_n 0, 1) := by decide +kernel
theorem dX11_pointOf_1 : decode cX11_pointOf 1 = .ok (.getfield 10, 3) := by decide +kernel
theorem dX11_pointOf_4 : decode cX11_pointOf 4 = .ok (.iload_n 1, 1) := by decide +kernel
theorem dX11_pointOf_5 : decode cX11_pointOf 5 = .ok (.invokevirtual 137, 3) := by decide +kernel
theorem dX11_pointOf_8 : decode cX11_pointOf 8 = .ok (.ifCond .ne 6, 3) := by decide +kernel
theorem dX11_pointOf_11 : decode cX11_pointOf 11 = .ok (.bipush (-2), 2) := by decide +kernel
theorem dX11_pointOf_13 : decode cX11_pointOf 13 = .ok (.ireturn, 1) := by decide +kernel
theorem dX11_pointOf_14 : decode cX11_pointOf 14 = .ok (.iload_n 2, 1) := by decide +kernel
theorem dX11_pointOf_15 : decode cX11_pointOf 15 = .ok (.tableswitch 81 0 4 #[33, 43, 53, 62, 72], 33) := by decide +kernel
theorem dX11_pointOf_48 : decode cX11_pointOf 48 = .ok (.aload_n 0, 1) := by decide +kernel
theorem dX11_pointOf_49 : decode cX11_pointOf 49 = .ok (.getfield 10, 3) := by decide +kernel
theorem dX11_pointOf_52 : decode cX11_pointOf 52 = .ok (.getfield 140, 3) := by decide +kernel
theorem dX11_pointOf_55 : decode cX11_pointOf 55 = .ok (.iload_n 1, 1) := by decide +kernel
theorem dX11_pointOf_56 : decode cX11_pointOf 56 = .ok (.iaload, 1) := by decide +kernel
theorem dX11_pointOf_57 : decode cX11_pointOf 57 = .ok (.ireturn, 1) := by decide +kernel
theorem dX11_pointOf_58 : decode cX11_pointOf 58 = .ok (.aload_n 0, 1) := by decide +kernel
theorem dX11_pointOf_59 : decode cX11_pointOf 59 = .ok (.getfield 10, 3) := by decide +kernel
theorem dX11_pointOf_62 : decode cX11_pointOf 62 = .ok (.getfield 144, 3) := by decide +kernel
theorem dX11_pointOf_65 : decode cX11_pointOf 65 = .ok (.iload_n 1, 1) := by decide +kernel
theorem dX11_pointOf_66 : decode cX11_pointOf 66 = .ok (.iaload, 1) := by decide +kernel
theorem dX11_pointOf_67 : decode cX11_pointOf 67 = .ok (.ireturn, 1) := by decide +kernel
theorem dX11_pointOf_68 : decode cX11_pointOf 68 = .ok (.aload_n 0, 1) := by decide +kernel
theorem dX11_pointOf_69 : decode cX11_pointOf 69 = .ok (.getfield 10, 3) := by decide +kernel
theorem dX11_pointOf_72 : decode cX11_pointOf 72 = .ok (.iload_n 1, 1) := by decide +kernel
theorem dX11_pointOf_73 : decode cX11_pointOf 73 = .ok (.invokevirtual 147, 3) := by decide +kernel
theorem dX11_pointOf_76 : decode cX11_pointOf 76 = .ok (.ireturn, 1) := by decide +kernel
theorem dX11_pointOf_77 : decode cX11_pointOf 77 = .ok (.aload_n 0, 1) := by decide +kernel
theorem dX11_pointOf_78 : decode cX11_pointOf 78 = .ok (.getfield 10, 3) := by decide +kernel
theorem dX11_pointOf_81 : decode cX11_pointOf 81 = .ok (.getfield 151, 3) := by decide +kernel
theorem dX11_pointOf_84 : decode cX11_pointOf 84 = .ok (.iload_n 1, 1) := by decide +kernel
theorem dX11_pointOf_85 : decode cX11_pointOf 85 = .ok (.iaload, 1) := by decide +kernel
theorem dX11_pointOf_86 : decode cX11_pointOf 86 = .ok (.ireturn, 1) := by decide +kernel
theorem dX11_pointOf_87 : decode cX11_pointOf 87 = .ok (.aload_n 0, 1) := by decide +kernel
theorem dX11_pointOf_88 : decode cX11_pointOf 88 = .ok (.getfield 10, 3) := by decide +kernel
theorem dX11_pointOf_91 : decode cX11_pointOf 91 = .ok (.iload_n 1, 1) := by decide +kernel
theorem dX11_pointOf_92 : decode cX11_pointOf 92 = .ok (.invokevirtual 154, 3) := by decide +kernel
theorem dX11_pointOf_95 : decode cX11_pointOf 95 = .ok (.ireturn, 1) := by decide +kernel
theorem dX11_pointOf_96 : decode cX11_pointOf 96 = .ok (.bipush (-2), 2) := by decide +kernel
theorem dX11_pointOf_98 : decode cX11_pointOf 98 = .ok (.ireturn, 1) := by decide +kernel
theorem dX11_change_0 : decode cX11_change 0 = .ok (.aload_n 0, 1) := by decide +kernel
theorem dX11_change_1 : decode cX11_change 1 = .ok (.getfield 10, 3) := by decide +kernel
theorem dX11_change_4 : decode cX11_change 4 = .ok (.iload_n 1, 1) := by decide +kernel
theorem dX11_change_5 : decode cX11_change 5 = .ok (.invokevirtual 137, 3) := by decide +kernel
theorem dX11_change_8 : decode cX11_change 8 = .ok (.ifCond .ne 6, 3) := by decide +kernel
theorem dX11_change_11 : decode cX11_change 11 = .ok (.bipush (-2), 2) := by decide +kernel
theorem dX11_change_13 : decode cX11_change 13 = .ok (.ireturn, 1) := by decide +kernel
theorem dX11_change_14 : decode cX11_change 14 = .ok (.iload_n 2, 1) := by decide +kernel
theorem dX11_change_15 : decode cX11_change 15 = .ok (.ifCond .ne 34, 3) := by decide +kernel
theorem dX11_change_18 : decode cX11_change 18 = .ok (.iload_n 3, 1) := by decide +kernel
theorem dX11_change_19 : decode cX11_change 19 = .ok (.invokestatic 108, 3) := by decide +kernel
theorem dX11_change_22 : decode cX11_change 22 = .ok (.ifCond .eq 27, 3) := by decide +kernel
theorem dX11_change_25 : decode cX11_change 25 = .ok (.aload_n 0, 1) := by decide +kernel
theorem dX11_change_26 : decode cX11_change 26 = .ok (.getfield 10, 3) := by decide +kernel
theorem dX11_change_29 : decode cX11_change 29 = .ok (.getfield 140, 3) := by decide +kernel
theorem dX11_change_32 : decode cX11_change 32 = .ok (.iload_n 1, 1) := by decide +kernel
theorem dX11_change_33 : decode cX11_change 33 = .ok (.iaload, 1) := by decide +kernel
theorem dX11_change_34 : decode cX11_change 34 = .ok (.istore 4, 2) := by decide +kernel
theorem dX11_change_36 : decode cX11_change 36 = .ok (.aload_n 0, 1) := by decide +kernel
theorem dX11_change_37 : decode cX11_change 37 = .ok (.getfield 10, 3) := by decide +kernel
theorem dX11_change_40 : decode cX11_change 40 = .ok (.getfield 140, 3) := by decide +kernel
theorem dX11_change_43 : decode cX11_change 43 = .ok (.iload_n 1, 1) := by decide +kernel
theorem dX11_change_44 : decode cX11_change 44 = .ok (.iload_n 3, 1) := by decide +kernel
theorem dX11_change_45 : decode cX11_change 45 = .ok (.iastore, 1) := by decide +kernel
theorem dX11_change_46 : decode cX11_change 46 = .ok (.iload 4, 2) := by decide +kernel
theorem dX11_change_48 : decode cX11_change 48 = .ok (.ireturn, 1) := by decide +kernel
theorem dX11_change_49 : decode cX11_change 49 = .ok (.iload_n 2, 1) := by decide +kernel
theorem dX11_change_50 : decode cX11_change 50 = .ok (.iconst 1, 1) := by decide +kernel
theorem dX11_change_51 : decode cX11_change 51 = .ok (.if_icmp .ne 34, 3) := by decide +kernel
theorem dX11_change_54 : decode cX11_change 54 = .ok (.iload_n 3, 1) := by decide +kernel
theorem dX11_change_55 : decode cX11_change 55 = .ok (.invokestatic 112, 3) := by decide +kernel
theorem dX11_change_58 : decode cX11_change 58 = .ok (.ifCond .eq 27, 3) := by decide +kernel
theorem dX11_change_61 : decode cX11_change 61 = .ok (.aload_n 0, 1) := by decide +kernel
theorem dX11_change_62 : decode cX11_change 62 = .ok (.getfield 10, 3) := by decide +kernel
theorem dX11_change_65 : decode cX11_change 65 = .ok (.getfield 144, 3) := by decide +kernel
theorem dX11_change_68 : decode cX11_change 68 = .ok (.iload_n 1, 1) := by decide +kernel
theorem dX11_change_69 : decode cX11_change 69 = .ok (.iaload, 1) := by decide +kernel
theorem dX11_change_70 : decode cX11_change 70 = .ok (.istore 4, 2) := by decide +kernel
theorem dX11_change_72 : decode cX11_change 72 = .ok (.aload_n 0, 1) := by decide +kernel
theorem dX11_change_73 : decode cX11_change 73 = .ok (.getfield 10, 3) := by decide +kernel
theorem dX11_change_76 : decode cX11_change 76 = .ok (.getfield 144, 3) := by decide +kernel
theorem dX11_change_79 : decode cX11_change 79 = .ok (.iload_n 1, 1) := by decide +kernel
theorem dX11_change_80 : decode cX11_change 80 = .ok (.iload_n 3, 1) := by decide +kernel
theorem dX11_change_81 : decode cX11_change 81 = .ok (.iastore, 1) := by decide +kernel
theorem dX11_change_82 : decode cX11_change 82 = .ok (.iload 4, 2) := by decide +kernel
theorem dX11_change_84 : decode cX11_change 84 = .ok (.ireturn, 1) := by decide +kernel
theorem dX11_change_85 : decode cX11_change 85 = .ok (.bipush (-2), 2) := by decide +kernel
theorem dX11_change_87 : decode cX11_change 87 = .ok (.ireturn, 1) := by decide +kernel
theorem dX11_count_0 : decode cX11_count 0 = .ok (.iload_n 1, 1) := by decide +kernel
theorem dX11_count_1 : decode cX11_count 1 = .ok (.tableswitch 84 0 5 #[39, 47, 55, 63, 71, 76], 39) := by decide +kernel
theorem dX11_count_40 : decode cX11_count 40 = .ok (.aload_n 0, 1) := by decide +kernel
theorem dX11_count_41 : decode cX11_count 41 = .ok (.getfield 10, 3) := by decide +kernel
theorem dX11_count_44 : decode cX11_count 44 = .ok (.getfield 115, 3) := by decide +kernel
theorem dX11_count_47 : decode cX11_count 47 = .ok (.ireturn, 1) := by decide +kernel
theorem dX11_count_48 : decode cX11_count 48 = .ok (.aload_n 0, 1) := by decide +kernel
theorem dX11_count_49 : decode cX11_count 49 = .ok (.getfield 10, 3) := by decide +kernel
theorem dX11_count_52 : decode cX11_count 52 = .ok (.invokevirtual 157, 3) := by decide +kernel
theorem dX11_count_55 : decode cX11_count 55 = .ok (.ireturn, 1) := by decide +kernel
theorem dX11_count_56 : decode cX11_count 56 = .ok (.aload_n 0, 1) := by decide +kernel
theorem dX11_count_57 : decode cX11_count 57 = .ok (.getfield 10, 3) := by decide +kernel
theorem dX11_count_60 : decode cX11_count 60 = .ok (.invokevirtual 161, 3) := by decide +kernel
theorem dX11_count_63 : decode cX11_count 63 = .ok (.ireturn, 1) := by decide +kernel
theorem dX11_count_64 : decode cX11_count 64 = .ok (.aload_n 0, 1) := by decide +kernel
theorem dX11_count_65 : decode cX11_count 65 = .ok (.getfield 69, 3) := by decide +kernel
theorem dX11_count_68 : decode cX11_count 68 = .ok (.getfield 164, 3) := by decide +kernel
theorem dX11_count_71 : decode cX11_count 71 = .ok (.ireturn, 1) := by decide +kernel
theorem dX11_count_72 : decode cX11_count 72 = .ok (.aload_n 0, 1) := by decide +kernel
theorem dX11_count_73 : decode cX11_count 73 = .ok (.getfield 97, 3) := by decide +kernel
theorem dX11_count_76 : decode cX11_count 76 = .ok (.ireturn, 1) := by decide +kernel
theorem dX11_count_77 : decode cX11_count 77 = .ok (.aload_n 0, 1) := by decide +kernel
theorem dX11_count_78 : decode cX11_count 78 = .ok (.getfield 90, 3) := by decide +kernel
theorem dX11_count_81 : decode cX11_count 81 = .ok (.getfield 165, 3) := by decide +kernel
theorem dX11_count_84 : decode cX11_count 84 = .ok (.ireturn, 1) := by decide +kernel
theorem dX11_count_85 : decode cX11_count 85 = .ok (.bipush (-2), 2) := by decide +kernel
theorem dX11_count_87 : decode cX11_count 87 = .ok (.ireturn, 1) := by decide +kernel
theorem dX11_isCover_0 : decode cX11_isCover 0 = .ok (.aload_n 0, 1) := by decide +kernel
theorem dX11_isCover_1 : decode cX11_isCover 1 = .ok (.getfield 10, 3) := by decide +kernel
theorem dX11_isCover_4 : decode cX11_isCover 4 = .ok (.iload_n 1, 1) := by decide +kernel
theorem dX11_isCover_5 : decode cX11_isCover 5 = .ok (.invokevirtual 166, 3) := by decide +kernel
theorem dX11_isCover_8 : decode cX11_isCover 8 = .ok (.ifCond .ne 6, 3) := by decide +kernel
theorem dX11_isCover_11 : decode cX11_isCover 11 = .ok (.bipush (-2), 2) := by decide +kernel
theorem dX11_isCover_13 : decode cX11_isCover 13 = .ok (.ireturn, 1) := by decide +kernel
theorem dX11_isCover_14 : decode cX11_isCover 14 = .ok (.aload_n 0, 1) := by decide +kernel
theorem dX11_isCover_15 : decode cX11_isCover 15 = .ok (.getfield 10, 3) := by decide +kernel
theorem dX11_isCover_18 : decode cX11_isCover 18 = .ok (.iload_n 1, 1) := by decide +kernel
theorem dX11_isCover_19 : decode cX11_isCover 19 = .ok (.invokevirtual 169, 3) := by decide +kernel
theorem dX11_isCover_22 : decode cX11_isCover 22 = .ok (.ifCond .ne 5, 3) := by decide +kernel
theorem dX11_isCover_25 : decode cX11_isCover 25 = .ok (.iconst 0, 1) := by decide +kernel
theorem dX11_isCover_26 : decode cX11_isCover 26 = .ok (.ireturn, 1) := by decide +kernel
theorem dX11_isCover_27 : decode cX11_isCover 27 = .ok (.aload_n 0, 1) := by decide +kernel
theorem dX11_isCover_28 : decode cX11_isCover 28 = .ok (.getfield 10, 3) := by decide +kernel
theorem dX11_isCover_31 : decode cX11_isCover 31 = .ok (.iload_n 1, 1) := by decide +kernel
theorem dX11_isCover_32 : decode cX11_isCover 32 = .ok (.invokevirtual 172, 3) := by decide +kernel
theorem dX11_isCover_35 : decode cX11_isCover 35 = .ok (.ifCond .eq 7, 3) := by decide +kernel
theorem dX11_isCover_38 : decode cX11_isCover 38 = .ok (.iconst 2, 1) := by decide +kernel
theorem dX11_isCover_39 : decode cX11_isCover 39 = .ok (.goto 4, 3) := by decide +kernel
theorem dX11_isCover_42 : decode cX11_isCover 42 = .ok (.iconst 1, 1) := by decide +kernel
theorem dX11_isCover_43 : decode cX11_isCover 43 = .ok (.ireturn, 1) := by decide +kernel
theorem dX11_costOf_0 : decode cX11_costOf 0 = .ok (.aload_n 0, 1) := by decide +kernel
theorem dX11_costOf_1 : decode cX11_costOf 1 = .ok (.getfield 10, 3) := by decide +kernel
theorem dX11_costOf_4 : decode cX11_costOf 4 = .ok (.iload_n 1, 1) := by decide +kernel
theorem dX11_costOf_5 : decode cX11_costOf 5 = .ok (.invokevirtual 166, 3) := by decide +kernel
theorem dX11_costOf_8 : decode cX11_costOf 8 = .ok (.ifCond .ne 6, 3) := by decide +kernel
theorem dX11_costOf_11 : decode cX11_costOf 11 = .ok (.bipush (-2), 2) := by decide +kernel
theorem dX11_costOf_13 : decode cX11_costOf 13 = .ok (.ireturn, 1) := by decide +kernel
theorem dX11_costOf_14 : decode cX11_costOf 14 = .ok (.aload_n 0, 1) := by decide +kernel
theorem dX11_costOf_15 : decode cX11_costOf 15 = .ok (.getfield 10, 3) := by decide +kernel
theorem dX11_costOf_18 : decode cX11_costOf 18 = .ok (.iload_n 1, 1) := by decide +kernel
theorem dX11_costOf_19 : decode cX11_costOf 19 = .ok (.invokevirtual 175, 3) := by decide +kernel
theorem dX11_costOf_22 : decode cX11_costOf 22 = .ok (.ireturn, 1) := by decide +kernel
theorem dX11_fewest_0 : decode cX11_fewest 0 = .ok (.iload_n 1, 1) := by decide +kernel
theorem dX11_fewest_1 : decode cX11_fewest 1 = .ok (.iconst 0, 1) := by decide +kernel
theorem dX11_fewest_2 : decode cX11_fewest 2 = .ok (.iconst 4, 1) := by decide +kernel
theorem dX11_fewest_3 : decode cX11_fewest 3 = .ok (.invokestatic 126, 3) := by decide +kernel
theorem dX11_fewest_6 : decode cX11_fewest 6 = .ok (.ifCond .ne 6, 3) := by decide +kernel
theorem dX11_fewest_9 : decode cX11_fewest 9 = .ok (.bipush (-2), 2) := by decide +kernel
theorem dX11_fewest_11 : decode cX11_fewest 11 = .ok (.ireturn, 1) := by decide +kernel
theorem dX11_fewest_12 : decode cX11_fewest 12 = .ok (.aload_n 0, 1) := by decide +kernel
theorem dX11_fewest_13 : decode cX11_fewest 13 = .ok (.getfield 34, 3) := by decide +kernel
theorem dX11_fewest_16 : decode cX11_fewest 16 = .ok (.aload_n 0, 1) := by decide +kernel
theorem dX11_fewest_17 : decode cX11_fewest 17 = .ok (.getfield 10, 3) := by decide +kernel
theorem dX11_fewest_20 : decode cX11_fewest 20 = .ok (.invokevirtual 178, 3) := by decide +kernel
theorem dX11_fewest_23 : decode cX11_fewest 23 = .ok (.iload_n 1, 1) := by decide +kernel
theorem dX11_fewest_24 : decode cX11_fewest 24 = .ok (.tableswitch 64 0 3 #[32, 40, 48, 56], 32) := by decide +kernel
theorem dX11_fewest_56 : decode cX11_fewest 56 = .ok (.aload_n 0, 1) := by decide +kernel
theorem dX11_fewest_57 : decode cX11_fewest 57 = .ok (.getfield 34, 3) := by decide +kernel
theorem dX11_fewest_60 : decode cX11_fewest 60 = .ok (.getfield 182, 3) := by decide +kernel
theorem dX11_fewest_63 : decode cX11_fewest 63 = .ok (.ireturn, 1) := by decide +kernel
theorem dX11_fewest_64 : decode cX11_fewest 64 = .ok (.aload_n 0, 1) := by decide +kernel
theorem dX11_fewest_65 : decode cX11_fewest 65 = .ok (.getfield 34, 3) := by decide +kernel
theorem dX11_fewest_68 : decode cX11_fewest 68 = .ok (.getfield 185, 3) := by decide +kernel
theorem dX11_fewest_71 : decode cX11_fewest 71 = .ok (.ireturn, 1) := by decide +kernel
theorem dX11_fewest_72 : decode cX11_fewest 72 = .ok (.aload_n 0, 1) := by decide +kernel
theorem dX11_fewest_73 : decode cX11_fewest 73 = .ok (.getfield 34, 3) := by decide +kernel
theorem dX11_fewest_76 : decode cX11_fewest 76 = .ok (.getfield 188, 3) := by decide +kernel
theorem dX11_fewest_79 : decode cX11_fewest 79 = .ok (.ireturn, 1) := by decide +kernel
theorem dX11_fewest_80 : decode cX11_fewest 80 = .ok (.aload_n 0, 1) := by decide +kernel
theorem dX11_fewest_81 : decode cX11_fewest 81 = .ok (.getfield 34, 3) := by decide +kernel
theorem dX11_fewest_84 : decode cX11_fewest 84 = .ok (.getfield 191, 3) := by decide +kernel
theorem dX11_fewest_87 : decode cX11_fewest 87 = .ok (.ireturn, 1) := by decide +kernel
theorem dX11_fewest_88 : decode cX11_fewest 88 = .ok (.aload_n 0, 1) := by decide +kernel
theorem dX11_fewest_89 : decode cX11_fewest 89 = .ok (.getfield 10, 3) := by decide +kernel
theorem dX11_fewest_92 : decode cX11_fewest 92 = .ok (.invokevirtual 194, 3) := by decide +kernel
theorem dX11_fewest_95 : decode cX11_fewest 95 = .ok (.aload_n 0, 1) := by decide +kernel
theorem dX11_fewest_96 : decode cX11_fewest 96 = .ok (.getfield 34, 3) := by decide +kernel
theorem dX11_fewest_99 : decode cX11_fewest 99 = .ok (.getfield 197, 3) := by decide +kernel
theorem dX11_fewest_102 : decode cX11_fewest 102 = .ok (.iconst (-1), 1) := by decide +kernel
theorem dX11_fewest_103 : decode cX11_fewest 103 = .ok (.ixor, 1) := by decide +kernel
theorem dX11_fewest_104 : decode cX11_fewest 104 = .ok (.iand, 1) := by decide +kernel
theorem dX11_fewest_105 : decode cX11_fewest 105 = .ok (.ireturn, 1) := by decide +kernel
theorem dX11_dear_0 : decode cX11_dear 0 = .ok (.iload_n 1, 1) := by decide +kernel
theorem dX11_dear_1 : decode cX11_dear 1 = .ok (.iconst 0, 1) := by decide +kernel
theorem dX11_dear_2 : decode cX11_dear 2 = .ok (.iconst 2, 1) := by decide +kernel
theorem dX11_dear_3 : decode cX11_dear 3 = .ok (.invokestatic 126, 3) := by decide +kernel
theorem dX11_dear_6 : decode cX11_dear 6 = .ok (.ifCond .ne 6, 3) := by decide +kernel
theorem dX11_dear_9 : decode cX11_dear 9 = .ok (.bipush (-2), 2) := by decide +kernel
theorem dX11_dear_11 : decode cX11_dear 11 = .ok (.ireturn, 1) := by decide +kernel
theorem dX11_dear_12 : decode cX11_dear 12 = .ok (.aload_n 0, 1) := by decide +kernel
theorem dX11_dear_13 : decode cX11_dear 13 = .ok (.getfield 34, 3) := by decide +kernel
theorem dX11_dear_16 : decode cX11_dear 16 = .ok (.aload_n 0, 1) := by decide +kernel
theorem dX11_dear_17 : decode cX11_dear 17 = .ok (.getfield 10, 3) := by decide +kernel
theorem dX11_dear_20 : decode cX11_dear 20 = .ok (.invokevirtual 200, 3) := by decide +kernel
theorem dX11_dear_23 : decode cX11_dear 23 = .ok (.iload_n 1, 1) := by decide +kernel
theorem dX11_dear_24 : decode cX11_dear 24 = .ok (.lookupswitch 44 #[(0, 28), (1, 36)], 28) := by decide +kernel
theorem dX11_dear_52 : decode cX11_dear 52 = .ok (.aload_n 0, 1) := by decide +kernel
theorem dX11_dear_53 : decode cX11_dear 53 = .ok (.getfield 34, 3) := by decide +kernel
theorem dX11_dear_56 : decode cX11_dear 56 = .ok (.getfield 182, 3) := by decide +kernel
theorem dX11_dear_59 : decode cX11_dear 59 = .ok (.ireturn, 1) := by decide +kernel
theorem dX11_dear_60 : decode cX11_dear 60 = .ok (.aload_n 0, 1) := by decide +kernel
theorem dX11_dear_61 : decode cX11_dear 61 = .ok (.getfield 34, 3) := by decide +kernel
theorem dX11_dear_64 : decode cX11_dear 64 = .ok (.getfield 185, 3) := by decide +kernel
theorem dX11_dear_67 : decode cX11_dear 67 = .ok (.ireturn, 1) := by decide +kernel
theorem dX11_dear_68 : decode cX11_dear 68 = .ok (.aload_n 0, 1) := by decide +kernel
theorem dX11_dear_69 : decode cX11_dear 69 = .ok (.getfield 34, 3) := by decide +kernel
theorem dX11_dear_72 : decode cX11_dear 72 = .ok (.getfield 188, 3) := by decide +kernel
theorem dX11_dear_75 : decode cX11_dear 75 = .ok (.ireturn, 1) := by decide +kernel
theorem dX11_sized_0 : decode cX11_sized 0 = .ok (.iload_n 1, 1) := by decide +kernel
theorem dX11_sized_1 : decode cX11_sized 1 = .ok (.iconst 0, 1) := by decide +kernel
theorem dX11_sized_2 : decode cX11_sized 2 = .ok (.bipush 12, 2) := by decide +kernel
theorem dX11_sized_4 : decode cX11_sized 4 = .ok (.invokestatic 126, 3) := by decide +kernel
theorem dX11_sized_7 : decode cX11_sized 7 = .ok (.ifCond .ne 6, 3) := by decide +kernel
theorem dX11_sized_10 : decode cX11_sized 10 = .ok (.bipush (-2), 2) := by decide +kernel
theorem dX11_sized_12 : decode cX11_sized 12 = .ok (.ireturn, 1) := by decide +kernel
theorem dX11_sized_13 : decode cX11_sized 13 = .ok (.aload_n 0, 1) := by decide +kernel
theorem dX11_sized_14 : decode cX11_sized 14 = .ok (.getfield 34, 3) := by decide +kernel
theorem dX11_sized_17 : decode cX11_sized 17 = .ok (.aload_n 0, 1) := by decide +kernel
theorem dX11_sized_18 : decode cX11_sized 18 = .ok (.getfield 10, 3) := by decide +kernel
theorem dX11_sized_21 : decode cX11_sized 21 = .ok (.iload_n 1, 1) := by decide +kernel
theorem dX11_sized_22 : decode cX11_sized 22 = .ok (.iconst 0, 1) := by decide +kernel
theorem dX11_sized_23 : decode cX11_sized 23 = .ok (.iconst 0, 1) := by decide +kernel
theorem dX11_sized_24 : decode cX11_sized 24 = .ok (.invokevirtual 203, 3) := by decide +kernel
theorem dX11_sized_27 : decode cX11_sized 27 = .ok (.ireturn, 1) := by decide +kernel
theorem dX11_bare_0 : decode cX11_bare 0 = .ok (.iload_n 1, 1) := by decide +kernel
theorem dX11_bare_1 : decode cX11_bare 1 = .ok (.iconst 0, 1) := by decide +kernel
theorem dX11_bare_2 : decode cX11_bare 2 = .ok (.iconst 2, 1) := by decide +kernel
theorem dX11_bare_3 : decode cX11_bare 3 = .ok (.invokestatic 126, 3) := by decide +kernel
theorem dX11_bare_6 : decode cX11_bare 6 = .ok (.ifCond .ne 6, 3) := by decide +kernel
theorem dX11_bare_9 : decode cX11_bare 9 = .ok (.bipush (-2), 2) := by decide +kernel
theorem dX11_bare_11 : decode cX11_bare 11 = .ok (.ireturn, 1) := by decide +kernel
theorem dX11_bare_12 : decode cX11_bare 12 = .ok (.aload_n 0, 1) := by decide +kernel
theorem dX11_bare_13 : decode cX11_bare 13 = .ok (.getfield 34, 3) := by decide +kernel
theorem dX11_bare_16 : decode cX11_bare 16 = .ok (.aload_n 0, 1) := by decide +kernel
theorem dX11_bare_17 : decode cX11_bare 17 = .ok (.getfield 10, 3) := by decide +kernel
theorem dX11_bare_20 : decode cX11_bare 20 = .ok (.invokevirtual 207, 3) := by decide +kernel
theorem dX11_bare_23 : decode cX11_bare 23 = .ok (.iload_n 1, 1) := by decide +kernel
theorem dX11_bare_24 : decode cX11_bare 24 = .ok (.lookupswitch 44 #[(0, 28), (1, 36)], 28) := by decide +kernel
theorem dX11_bare_52 : decode cX11_bare 52 = .ok (.aload_n 0, 1) := by decide +kernel
theorem dX11_bare_53 : decode cX11_bare 53 = .ok (.getfield 34, 3) := by decide +kernel
theorem dX11_bare_56 : decode cX11_bare 56 = .ok (.getfield 188, 3) := by decide +kernel
theorem dX11_bare_59 : decode cX11_bare 59 = .ok (.ireturn, 1) := by decide +kernel
theorem dX11_bare_60 : decode cX11_bare 60 = .ok (.aload_n 0, 1) := by decide +kernel
theorem dX11_bare_61 : decode cX11_bare 61 = .ok (.getfield 34, 3) := by decide +kernel
theorem dX11_bare_64 : decode cX11_bare 64 = .ok (.getfield 182, 3) := by decide +kernel
theorem dX11_bare_67 : decode cX11_bare 67 = .ok (.ireturn, 1) := by decide +kernel
theorem dX11_bare_68 : decode cX11_bare 68 = .ok (.aload_n 0, 1) := by decide +kernel
theorem dX11_bare_69 : decode cX11_bare 69 = .ok (.getfield 34, 3) := by decide +kernel
theorem dX11_bare_72 : decode cX11_bare 72 = .ok (.getfield 185, 3) := by decide +kernel
theorem dX11_bare_75 : decode cX11_bare 75 = .ok (.ireturn, 1) := by decide +kernel
theorem dX11_share_0 : decode cX11_share 0 = .ok (.iload_n 1, 1) := by decide +kernel
theorem dX11_share_1 : decode cX11_share 1 = .ok (.iconst 0, 1) := by decide +kernel
theorem dX11_share_2 : decode cX11_share 2 = .ok (.iconst 1, 1) := by decide +kernel
theorem dX11_share_3 : decode cX11_share 3 = .ok (.invokestatic 126, 3) := by decide +kernel
theorem dX11_share_6 : decode cX11_share 6 = .ok (.ifCond .ne 7, 3) := by decide +kernel
theorem dX11_share_9 : decode cX11_share 9 = .ok (.ldc2_w 210, 3) := by decide +kernel
theorem dX11_share_12 : decode cX11_share 12 = .ok (.lreturn, 1) := by decide +kernel
theorem dX11_share_13 : decode cX11_share 13 = .ok (.aload_n 0, 1) := by decide +kernel
theorem dX11_share_14 : decode cX11_share 14 = .ok (.getfield 34, 3) := by decide +kernel
theorem dX11_share_17 : decode cX11_share 17 = .ok (.aload_n 0, 1) := by decide +kernel
theorem dX11_share_18 : decode cX11_share 18 = .ok (.getfield 10, 3) := by decide +kernel
theorem dX11_share_21 : decode cX11_share 21 = .ok (.invokevirtual 212, 3) := by decide +kernel
theorem dX11_share_24 : decode cX11_share 24 = .ok (.i2l, 1) := by decide +kernel
theorem dX11_share_25 : decode cX11_share 25 = .ok (.lstore_n 2, 1) := by decide +kernel
theorem dX11_share_26 : decode cX11_share 26 = .ok (.lconst 1, 1) := by decide +kernel
theorem dX11_share_27 : decode cX11_share 27 = .ok (.aload_n 0, 1) := by decide +kernel
theorem dX11_share_28 : decode cX11_share 28 = .ok (.getfield 10, 3) := by decide +kernel
theorem dX11_share_31 : decode cX11_share 31 = .ok (.getfield 115, 3) := by decide +kernel
theorem dX11_share_34 : decode cX11_share 34 = .ok (.lshl, 1) := by decide +kernel
theorem dX11_share_35 : decode cX11_share 35 = .ok (.lstore 4, 2) := by decide +kernel
theorem dX11_share_37 : decode cX11_share 37 = .ok (.iconst 0, 1) := by decide +kernel
theorem dX11_share_38 : decode cX11_share 38 = .ok (.istore 6, 2) := by decide +kernel
theorem dX11_share_40 : decode cX11_share 40 = .ok (.iload 6, 2) := by decide +kernel
theorem dX11_share_42 : decode cX11_share 42 = .ok (.aload_n 0, 1) := by decide +kernel
theorem dX11_share_43 : decode cX11_share 43 = .ok (.getfield 10, 3) := by decide +kernel
theorem dX11_share_46 : decode cX11_share 46 = .ok (.getfield 115, 3) := by decide +kernel
theorem dX11_share_49 : decode cX11_share 49 = .ok (.if_icmp .ge 27, 3) := by decide +kernel
theorem dX11_share_52 : decode cX11_share 52 = .ok (.lload_n 2, 1) := by decide +kernel
theorem dX11_share_53 : decode cX11_share 53 = .ok (.lconst 1, 1) := by decide +kernel
theorem dX11_share_54 : decode cX11_share 54 = .ok (.land, 1) := by decide +kernel
theorem dX11_share_55 : decode cX11_share 55 = .ok (.lconst 0, 1) := by decide +kernel
theorem dX11_share_56 : decode cX11_share 56 = .ok (.lcmp, 1) := by decide +kernel
theorem dX11_share_57 : decode cX11_share 57 = .ok (.ifCond .ne 19, 3) := by decide +kernel
theorem dX11_share_60 : decode cX11_share 60 = .ok (.lload_n 2, 1) := by decide +kernel
theorem dX11_share_61 : decode cX11_share 61 = .ok (.iconst 1, 1) := by decide +kernel
theorem dX11_share_62 : decode cX11_share 62 = .ok (.lshr, 1) := by decide +kernel
theorem dX11_share_63 : decode cX11_share 63 = .ok (.lstore_n 2, 1) := by decide +kernel
theorem dX11_share_64 : decode cX11_share 64 = .ok (.lload 4, 2) := by decide +kernel
theorem dX11_share_66 : decode cX11_share 66 = .ok (.iconst 1, 1) := by decide +kernel
theorem dX11_share_67 : decode cX11_share 67 = .ok (.lshr, 1) := by decide +kernel
theorem dX11_share_68 : decode cX11_share 68 = .ok (.lstore 4, 2) := by decide +kernel
theorem dX11_share_70 : decode cX11_share 70 = .ok (.iinc 6 1, 3) := by decide +kernel
theorem dX11_share_73 : decode cX11_share 73 = .ok (.goto (-33), 3) := by decide +kernel
theorem dX11_share_76 : decode cX11_share 76 = .ok (.iload_n 1, 1) := by decide +kernel
theorem dX11_share_77 : decode cX11_share 77 = .ok (.ifCond .ne 7, 3) := by decide +kernel
theorem dX11_share_80 : decode cX11_share 80 = .ok (.lload_n 2, 1) := by decide +kernel
theorem dX11_share_81 : decode cX11_share 81 = .ok (.goto 5, 3) := by decide +kernel
theorem dX11_share_84 : decode cX11_share 84 = .ok (.lload 4, 2) := by decide +kernel
theorem dX11_share_86 : decode cX11_share 86 = .ok (.lreturn, 1) := by decide +kernel
theorem dX11_halves_0 : decode cX11_halves 0 = .ok (.iload_n 1, 1) := by decide +kernel
theorem dX11_halves_1 : decode cX11_halves 1 = .ok (.iconst 0, 1) := by decide +kernel
theorem dX11_halves_2 : decode cX11_halves 2 = .ok (.iconst 3, 1) := by decide +kernel
theorem dX11_halves_3 : decode cX11_halves 3 = .ok (.invokestatic 126, 3) := by decide +kernel
theorem dX11_halves_6 : decode cX11_halves 6 = .ok (.ifCond .ne 6, 3) := by decide +kernel
theorem dX11_halves_9 : decode cX11_halves 9 = .ok (.bipush (-2), 2) := by decide +kernel
theorem dX11_halves_11 : decode cX11_halves 11 = .ok (.ireturn, 1) := by decide +kernel
theorem dX11_halves_12 : decode cX11_halves 12 = .ok (.aload_n 0, 1) := by decide +kernel
theorem dX11_halves_13 : decode cX11_halves 13 = .ok (.getfield 25, 3) := by decide +kernel
theorem dX11_halves_16 : decode cX11_halves 16 = .ok (.aload_n 0, 1) := by decide +kernel
theorem dX11_halves_17 : decode cX11_halves 17 = .ok (.getfield 10, 3) := by decide +kernel
theorem dX11_halves_20 : decode cX11_halves 20 = .ok (.getfield 151, 3) := by decide +kernel
theorem dX11_halves_23 : decode cX11_halves 23 = .ok (.aload_n 0, 1) := by decide +kernel
theorem dX11_halves_24 : decode cX11_halves 24 = .ok (.getfield 10, 3) := by decide +kernel
theorem dX11_halves_27 : decode cX11_halves 27 = .ok (.invokevirtual 194, 3) := by decide +kernel
theorem dX11_halves_30 : decode cX11_halves 30 = .ok (.invokevirtual 216, 3) := by decide +kernel
theorem dX11_halves_33 : decode cX11_halves 33 = .ok (.iload_n 1, 1) := by decide +kernel
theorem dX11_halves_34 : decode cX11_halves 34 = .ok (.tableswitch 66 0 2 #[26, 50, 58], 26) := by decide +kernel
theorem dX11_halves_60 : decode cX11_halves 60 = .ok (.aload_n 0, 1) := by decide +kernel
theorem dX11_halves_61 : decode cX11_halves 61 = .ok (.getfield 25, 3) := by decide +kernel
theorem dX11_halves_64 : decode cX11_halves 64 = .ok (.getfield 220, 3) := by decide +kernel
theorem dX11_halves_67 : decode cX11_halves 67 = .ok (.invokestatic 223, 3) := by decide +kernel
theorem dX11_halves_70 : decode cX11_halves 70 = .ok (.iconst 2, 1) := by decide +kernel
theorem dX11_halves_71 : decode cX11_halves 71 = .ok (.aload_n 0, 1) := by decide +kernel
theorem dX11_halves_72 : decode cX11_halves 72 = .ok (.getfield 25, 3) := by decide +kernel
theorem dX11_halves_75 : decode cX11_halves 75 = .ok (.getfield 228, 3) := by decide +kernel
theorem dX11_halves_78 : decode cX11_halves 78 = .ok (.invokestatic 223, 3) := by decide +kernel
theorem dX11_halves_81 : decode cX11_halves 81 = .ok (.imul, 1) := by decide +kernel
theorem dX11_halves_82 : decode cX11_halves 82 = .ok (.iadd, 1) := by decide +kernel
theorem dX11_halves_83 : decode cX11_halves 83 = .ok (.ireturn, 1) := by decide +kernel
theorem dX11_halves_84 : decode cX11_halves 84 = .ok (.aload_n 0, 1) := by decide +kernel
theorem dX11_halves_85 : decode cX11_halves 85 = .ok (.getfield 25, 3) := by decide +kernel
theorem dX11_halves_88 : decode cX11_halves 88 = .ok (.getfield 231, 3) := by decide +kernel
theorem dX11_halves_91 : decode cX11_halves 91 = .ok (.ireturn, 1) := by decide +kernel
theorem dX11_halves_92 : decode cX11_halves 92 = .ok (.aload_n 0, 1) := by decide +kernel
theorem dX11_halves_93 : decode cX11_halves 93 = .ok (.getfield 25, 3) := by decide +kernel
theorem dX11_halves_96 : decode cX11_halves 96 = .ok (.getfield 220, 3) := by decide +kernel
theorem dX11_halves_99 : decode cX11_halves 99 = .ok (.ireturn, 1) := by decide +kernel
theorem dX11_halves_100 : decode cX11_halves 100 = .ok (.aload_n 0, 1) := by decide +kernel
theorem dX11_halves_101 : decode cX11_halves 101 = .ok (.getfield 25, 3) := by decide +kernel
theorem dX11_halves_104 : decode cX11_halves 104 = .ok (.getfield 228, 3) := by decide +kernel
theorem dX11_halves_107 : decode cX11_halves 107 = .ok (.ireturn, 1) := by decide +kernel
theorem dX11_half_0 : decode cX11_half 0 = .ok (.aload_n 0, 1) := by decide +kernel
theorem dX11_half_1 : decode cX11_half 1 = .ok (.getfield 10, 3) := by decide +kernel
theorem dX11_half_4 : decode cX11_half 4 = .ok (.iload_n 1, 1) := by decide +kernel
theorem dX11_half_5 : decode cX11_half 5 = .ok (.invokevirtual 137, 3) := by decide +kernel
theorem dX11_half_8 : decode cX11_half 8 = .ok (.ifCond .ne 6, 3) := by decide +kernel
theorem dX11_half_11 : decode cX11_half 11 = .ok (.bipush (-2), 2) := by decide +kernel
theorem dX11_half_13 : decode cX11_half 13 = .ok (.ireturn, 1) := by decide +kernel
theorem dX11_half_14 : decode cX11_half 14 = .ok (.aload_n 0, 1) := by decide +kernel
theorem dX11_half_15 : decode cX11_half 15 = .ok (.getfield 25, 3) := by decide +kernel
theorem dX11_half_18 : decode cX11_half 18 = .ok (.aload_n 0, 1) := by decide +kernel
theorem dX11_half_19 : decode cX11_half 19 = .ok (.getfield 10, 3) := by decide +kernel
theorem dX11_half_22 : decode cX11_half 22 = .ok (.getfield 151, 3) := by decide +kernel
theorem dX11_half_25 : decode cX11_half 25 = .ok (.aload_n 0, 1) := by decide +kernel
theorem dX11_half_26 : decode cX11_half 26 = .ok (.getfield 10, 3) := by decide +kernel
theorem dX11_half_29 : decode cX11_half 29 = .ok (.invokevirtual 194, 3) := by decide +kernel
theorem dX11_half_32 : decode cX11_half 32 = .ok (.invokevirtual 216, 3) := by decide +kernel
theorem dX11_half_35 : decode cX11_half 35 = .ok (.aload_n 0, 1) := by decide +kernel
theorem dX11_half_36 : decode cX11_half 36 = .ok (.getfield 25, 3) := by decide +kernel
theorem dX11_half_39 : decode cX11_half 39 = .ok (.getfield 231, 3) := by decide +kernel
theorem dX11_half_42 : decode cX11_half 42 = .ok (.iload_n 1, 1) := by decide +kernel
theorem dX11_half_43 : decode cX11_half 43 = .ok (.ishr, 1) := by decide +kernel
theorem dX11_half_44 : decode cX11_half 44 = .ok (.iconst 1, 1) := by decide +kernel
theorem dX11_half_45 : decode cX11_half 45 = .ok (.iand, 1) := by decide +kernel
theorem dX11_half_46 : decode cX11_half 46 = .ok (.ifCond .eq 5, 3) := by decide +kernel
theorem dX11_half_49 : decode cX11_half 49 = .ok (.iconst 0, 1) := by decide +kernel
theorem dX11_half_50 : decode cX11_half 50 = .ok (.ireturn, 1) := by decide +kernel
theorem dX11_half_51 : decode cX11_half 51 = .ok (.aload_n 0, 1) := by decide +kernel
theorem dX11_half_52 : decode cX11_half 52 = .ok (.getfield 25, 3) := by decide +kernel
theorem dX11_half_55 : decode cX11_half 55 = .ok (.getfield 220, 3) := by decide +kernel
theorem dX11_half_58 : decode cX11_half 58 = .ok (.iload_n 1, 1) := by decide +kernel
theorem dX11_half_59 : decode cX11_half 59 = .ok (.ishr, 1) := by decide +kernel
theorem dX11_half_60 : decode cX11_half 60 = .ok (.iconst 1, 1) := by decide +kernel
theorem dX11_half_61 : decode cX11_half 61 = .ok (.iand, 1) := by decide +kernel
theorem dX11_half_62 : decode cX11_half 62 = .ok (.ifCond .eq 7, 3) := by decide +kernel
theorem dX11_half_65 : decode cX11_half 65 = .ok (.iconst 1, 1) := by decide +kernel
theorem dX11_half_66 : decode cX11_half 66 = .ok (.goto 4, 3) := by decide +kernel
theorem dX11_half_69 : decode cX11_half 69 = .ok (.iconst 2, 1) := by decide +kernel
theorem dX11_half_70 : decode cX11_half 70 = .ok (.ireturn, 1) := by decide +kernel
theorem dX11_mayHave_0 : decode cX11_mayHave 0 = .ok (.aload_n 0, 1) := by decide +kernel
theorem dX11_mayHave_1 : decode cX11_mayHave 1 = .ok (.getfield 10, 3) := by decide +kernel
theorem dX11_mayHave_4 : decode cX11_mayHave 4 = .ok (.iload_n 1, 1) := by decide +kernel
theorem dX11_mayHave_5 : decode cX11_mayHave 5 = .ok (.invokevirtual 137, 3) := by decide +kernel
theorem dX11_mayHave_8 : decode cX11_mayHave 8 = .ok (.ifCond .ne 6, 3) := by decide +kernel
theorem dX11_mayHave_11 : decode cX11_mayHave 11 = .ok (.bipush (-2), 2) := by decide +kernel
theorem dX11_mayHave_13 : decode cX11_mayHave 13 = .ok (.ireturn, 1) := by decide +kernel
theorem dX11_mayHave_14 : decode cX11_mayHave 14 = .ok (.aload_n 0, 1) := by decide +kernel
theorem dX11_mayHave_15 : decode cX11_mayHave 15 = .ok (.getfield 25, 3) := by decide +kernel
theorem dX11_mayHave_18 : decode cX11_mayHave 18 = .ok (.aload_n 0, 1) := by decide +kernel
theorem dX11_mayHave_19 : decode cX11_mayHave 19 = .ok (.getfield 10, 3) := by decide +kernel
theorem dX11_mayHave_22 : decode cX11_mayHave 22 = .ok (.getfield 151, 3) := by decide +kernel
theorem dX11_mayHave_25 : decode cX11_mayHave 25 = .ok (.aload_n 0, 1) := by decide +kernel
theorem dX11_mayHave_26 : decode cX11_mayHave 26 = .ok (.getfield 10, 3) := by decide +kernel
theorem dX11_mayHave_29 : decode cX11_mayHave 29 = .ok (.invokevirtual 194, 3) := by decide +kernel
theorem dX11_mayHave_32 : decode cX11_mayHave 32 = .ok (.iload_n 1, 1) := by decide +kernel
theorem dX11_mayHave_33 : decode cX11_mayHave 33 = .ok (.invokevirtual 234, 3) := by decide +kernel
theorem dX11_mayHave_36 : decode cX11_mayHave 36 = .ok (.ireturn, 1) := by decide +kernel
theorem dX11_mate_0 : decode cX11_mate 0 = .ok (.aload_n 0, 1) := by decide +kernel
theorem dX11_mate_1 : decode cX11_mate 1 = .ok (.getfield 10, 3) := by decide +kernel
theorem dX11_mate_4 : decode cX11_mate 4 = .ok (.iload_n 1, 1) := by decide +kernel
theorem dX11_mate_5 : decode cX11_mate 5 = .ok (.invokevirtual 137, 3) := by decide +kernel
theorem dX11_mate_8 : decode cX11_mate 8 = .ok (.ifCond .ne 6, 3) := by decide +kernel
theorem dX11_mate_11 : decode cX11_mate 11 = .ok (.bipush (-2), 2) := by decide +kernel
theorem dX11_mate_13 : decode cX11_mate 13 = .ok (.ireturn, 1) := by decide +kernel
theorem dX11_mate_14 : decode cX11_mate 14 = .ok (.aload_n 0, 1) := by decide +kernel
theorem dX11_mate_15 : decode cX11_mate 15 = .ok (.getfield 25, 3) := by decide +kernel
theorem dX11_mate_18 : decode cX11_mate 18 = .ok (.aload_n 0, 1) := by decide +kernel
theorem dX11_mate_19 : decode cX11_mate 19 = .ok (.getfield 10, 3) := by decide +kernel
theorem dX11_mate_22 : decode cX11_mate 22 = .ok (.getfield 151, 3) := by decide +kernel
theorem dX11_mate_25 : decode cX11_mate 25 = .ok (.aload_n 0, 1) := by decide +kernel
theorem dX11_mate_26 : decode cX11_mate 26 = .ok (.getfield 10, 3) := by decide +kernel
theorem dX11_mate_29 : decode cX11_mate 29 = .ok (.invokevirtual 194, 3) := by decide +kernel
theorem dX11_mate_32 : decode cX11_mate 32 = .ok (.invokevirtual 216, 3) := by decide +kernel
theorem dX11_mate_35 : decode cX11_mate 35 = .ok (.aload_n 0, 1) := by decide +kernel
theorem dX11_mate_36 : decode cX11_mate 36 = .ok (.getfield 25, 3) := by decide +kernel
theorem dX11_mate_39 : decode cX11_mate 39 = .ok (.aload_n 0, 1) := by decide +kernel
theorem dX11_mate_40 : decode cX11_mate 40 = .ok (.getfield 10, 3) := by decide +kernel
theorem dX11_mate_43 : decode cX11_mate 43 = .ok (.getfield 151, 3) := by decide +kernel
theorem dX11_mate_46 : decode cX11_mate 46 = .ok (.aload_n 0, 1) := by decide +kernel
theorem dX11_mate_47 : decode cX11_mate 47 = .ok (.getfield 25, 3) := by decide +kernel
theorem dX11_mate_50 : decode cX11_mate 50 = .ok (.getfield 228, 3) := by decide +kernel
theorem dX11_mate_53 : decode cX11_mate 53 = .ok (.aload_n 0, 1) := by decide +kernel
theorem dX11_mate_54 : decode cX11_mate 54 = .ok (.getfield 25, 3) := by decide +kernel
theorem dX11_mate_57 : decode cX11_mate 57 = .ok (.getfield 231, 3) := by decide +kernel
theorem dX11_mate_60 : decode cX11_mate 60 = .ok (.iload_n 1, 1) := by decide +kernel
theorem dX11_mate_61 : decode cX11_mate 61 = .ok (.invokevirtual 238, 3) := by decide +kernel
theorem dX11_mate_64 : decode cX11_mate 64 = .ok (.ireturn, 1) := by decide +kernel
theorem dX11_persists_0 : decode cX11_persists 0 = .ok (.aload_n 0, 1) := by decide +kernel
theorem dX11_persists_1 : decode cX11_persists 1 = .ok (.getfield 25, 3) := by decide +kernel
theorem dX11_persists_4 : decode cX11_persists 4 = .ok (.aload_n 0, 1) := by decide +kernel
theorem dX11_persists_5 : decode cX11_persists 5 = .ok (.getfield 10, 3) := by decide +kernel
theorem dX11_persists_8 : decode cX11_persists 8 = .ok (.getfield 151, 3) := by decide +kernel
theorem dX11_persists_11 : decode cX11_persists 11 = .ok (.aload_n 0, 1) := by decide +kernel
theorem dX11_persists_12 : decode cX11_persists 12 = .ok (.getfield 10, 3) := by decide +kernel
theorem dX11_persists_15 : decode cX11_persists 15 = .ok (.invokevirtual 194, 3) := by decide +kernel
theorem dX11_persists_18 : decode cX11_persists 18 = .ok (.invokevirtual 216, 3) := by decide +kernel
theorem dX11_persists_21 : decode cX11_persists 21 = .ok (.aload_n 0, 1) := by decide +kernel
theorem dX11_persists_22 : decode cX11_persists 22 = .ok (.getfield 10, 3) := by decide +kernel
theorem dX11_persists_25 : decode cX11_persists 25 = .ok (.getfield 151, 3) := by decide +kernel
theorem dX11_persists_28 : decode cX11_persists 28 = .ok (.aload_n 0, 1) := by decide +kernel
theorem dX11_persists_29 : decode cX11_persists 29 = .ok (.getfield 10, 3) := by decide +kernel
theorem dX11_persists_32 : decode cX11_persists 32 = .ok (.invokevirtual 194, 3) := by decide +kernel
theorem dX11_persists_35 : decode cX11_persists 35 = .ok (.invokestatic 242, 3) := by decide +kernel
theorem dX11_persists_38 : decode cX11_persists 38 = .ok (.istore_n 1, 1) := by decide +kernel
theorem dX11_persists_39 : decode cX11_persists 39 = .ok (.aload_n 0, 1) := by decide +kernel
theorem dX11_persists_40 : decode cX11_persists 40 = .ok (.getfield 34, 3) := by decide +kernel
theorem dX11_persists_43 : decode cX11_persists 43 = .ok (.aload_n 0, 1) := by decide +kernel
theorem dX11_persists_44 : decode cX11_persists 44 = .ok (.getfield 10, 3) := by decide +kernel
theorem dX11_persists_47 : decode cX11_persists 47 = .ok (.iload_n 1, 1) := by decide +kernel
theorem dX11_persists_48 : decode cX11_persists 48 = .ok (.aload_n 0, 1) := by decide +kernel
theorem dX11_persists_49 : decode cX11_persists 49 = .ok (.getfield 25, 3) := by decide +kernel
theorem dX11_persists_52 : decode cX11_persists 52 = .ok (.getfield 228, 3) := by decide +kernel
theorem dX11_persists_55 : decode cX11_persists 55 = .ok (.aload_n 0, 1) := by decide +kernel
theorem dX11_persists_56 : decode cX11_persists 56 = .ok (.getfield 25, 3) := by decide +kernel
theorem dX11_persists_59 : decode cX11_persists 59 = .ok (.getfield 231, 3) := by decide +kernel
theorem dX11_persists_62 : decode cX11_persists 62 = .ok (.invokevirtual 203, 3) := by decide +kernel
theorem dX11_persists_65 : decode cX11_persists 65 = .ok (.ireturn, 1) := by decide +kernel
theorem dX11_isCrown_0 : decode cX11_isCrown 0 = .ok (.aload_n 0, 1) := by decide +kernel
theorem dX11_isCrown_1 : decode cX11_isCrown 1 = .ok (.getfield 10, 3) := by decide +kernel
theorem dX11_isCrown_4 : decode cX11_isCrown 4 = .ok (.iload_n 1, 1) := by decide +kernel
theorem dX11_isCrown_5 : decode cX11_isCrown 5 = .ok (.invokevirtual 166, 3) := by decide +kernel
theorem dX11_isCrown_8 : decode cX11_isCrown 8 = .ok (.ifCond .ne 6, 3) := by decide +kernel
theorem dX11_isCrown_11 : decode cX11_isCrown 11 = .ok (.bipush (-2), 2) := by decide +kernel
theorem dX11_isCrown_13 : decode cX11_isCrown 13 = .ok (.ireturn, 1) := by decide +kernel
theorem dX11_isCrown_14 : decode cX11_isCrown 14 = .ok (.aload_n 0, 1) := by decide +kernel
theorem dX11_isCrown_15 : decode cX11_isCrown 15 = .ok (.getfield 10, 3) := by decide +kernel
theorem dX11_isCrown_18 : decode cX11_isCrown 18 = .ok (.aload_n 0, 1) := by decide +kernel
theorem dX11_isCrown_19 : decode cX11_isCrown 19 = .ok (.getfield 25, 3) := by decide +kernel
theorem dX11_isCrown_22 : decode cX11_isCrown 22 = .ok (.iload_n 1, 1) := by decide +kernel
theorem dX11_isCrown_23 : decode cX11_isCrown 23 = .ok (.aload_n 0, 1) := by decide +kernel
theorem dX11_isCrown_24 : decode cX11_isCrown 24 = .ok (.getfield 10, 3) := by decide +kernel
theorem dX11_isCrown_27 : decode cX11_isCrown 27 = .ok (.iload_n 1, 1) := by decide +kernel
theorem dX11_isCrown_28 : decode cX11_isCrown 28 = .ok (.invokevirtual 246, 3) := by decide +kernel
theorem dX11_isCrown_31 : decode cX11_isCrown 31 = .ok (.invokestatic 249, 3) := by decide +kernel
theorem dX11_isCrown_34 : decode cX11_isCrown 34 = .ok (.ifCond .eq 7, 3) := by decide +kernel
theorem dX11_isCrown_37 : decode cX11_isCrown 37 = .ok (.iconst 1, 1) := by decide +kernel
theorem dX11_isCrown_38 : decode cX11_isCrown 38 = .ok (.goto 4, 3) := by decide +kernel
theorem dX11_isCrown_41 : decode cX11_isCrown 41 = .ok (.iconst 0, 1) := by decide +kernel
theorem dX11_isCrown_42 : decode cX11_isCrown 42 = .ok (.ireturn, 1) := by decide +kernel
theorem dX11_crowns_0 : decode cX11_crowns 0 = .ok (.iload_n 1, 1) := by decide +kernel
theorem dX11_crowns_1 : decode cX11_crowns 1 = .ok (.iconst 0, 1) := by decide +kernel
theorem dX11_crowns_2 : decode cX11_crowns 2 = .ok (.iconst 2, 1) := by decide +kernel
theorem dX11_crowns_3 : decode cX11_crowns 3 = .ok (.invokestatic 126, 3) := by decide +kernel
theorem dX11_crowns_6 : decode cX11_crowns 6 = .ok (.ifCond .ne 6, 3) := by decide +kernel
theorem dX11_crowns_9 : decode cX11_crowns 9 = .ok (.bipush (-2), 2) := by decide +kernel
theorem dX11_crowns_11 : decode cX11_crowns 11 = .ok (.ireturn, 1) := by decide +kernel
theorem dX11_crowns_12 : decode cX11_crowns 12 = .ok (.aload_n 0, 1) := by decide +kernel
theorem dX11_crowns_13 : decode cX11_crowns 13 = .ok (.getfield 41, 3) := by decide +kernel
theorem dX11_crowns_16 : decode cX11_crowns 16 = .ok (.aload_n 0, 1) := by decide +kernel
theorem dX11_crowns_17 : decode cX11_crowns 17 = .ok (.getfield 10, 3) := by decide +kernel
theorem dX11_crowns_20 : decode cX11_crowns 20 = .ok (.aload_n 0, 1) := by decide +kernel
theorem dX11_crowns_21 : decode cX11_crowns 21 = .ok (.getfield 25, 3) := by decide +kernel
theorem dX11_crowns_24 : decode cX11_crowns 24 = .ok (.aload_n 0, 1) := by decide +kernel
theorem dX11_crowns_25 : decode cX11_crowns 25 = .ok (.getfield 34, 3) := by decide +kernel
theorem dX11_crowns_28 : decode cX11_crowns 28 = .ok (.invokevirtual 253, 3) := by decide +kernel
theorem dX11_crowns_31 : decode cX11_crowns 31 = .ok (.iload_n 1, 1) := by decide +kernel
theorem dX11_crowns_32 : decode cX11_crowns 32 = .ok (.ifCond .ne 11, 3) := by decide +kernel
theorem dX11_crowns_35 : decode cX11_crowns 35 = .ok (.aload_n 0, 1) := by decide +kernel
theorem dX11_crowns_36 : decode cX11_crowns 36 = .ok (.getfield 41, 3) := by decide +kernel
theorem dX11_crowns_39 : decode cX11_crowns 39 = .ok (.getfield 257, 3) := by decide +kernel
theorem dX11_crowns_42 : decode cX11_crowns 42 = .ok (.ireturn, 1) := by decide +kernel
theorem dX11_crowns_43 : decode cX11_crowns 43 = .ok (.aload_n 0, 1) := by decide +kernel
theorem dX11_crowns_44 : decode cX11_crowns 44 = .ok (.getfield 41, 3) := by decide +kernel
theorem dX11_crowns_47 : decode cX11_crowns 47 = .ok (.getfield 257, 3) := by decide +kernel
theorem dX11_crowns_50 : decode cX11_crowns 50 = .ok (.ifCond .ne 5, 3) := by decide +kernel
theorem dX11_crowns_53 : decode cX11_crowns 53 = .ok (.iconst (-1), 1) := by decide +kernel
theorem dX11_crowns_54 : decode cX11_crowns 54 = .ok (.ireturn, 1) := by decide +kernel
theorem dX11_crowns_55 : decode cX11_crowns 55 = .ok (.iload_n 1, 1) := by decide +kernel
theorem dX11_crowns_56 : decode cX11_crowns 56 = .ok (.iconst 1, 1) := by decide +kernel
theorem dX11_crowns_57 : decode cX11_crowns 57 = .ok (.if_icmp .ne 13, 3) := by decide +kernel
theorem dX11_crowns_60 : decode cX11_crowns 60 = .ok (.aload_n 0, 1) := by decide +kernel
theorem dX11_crowns_61 : decode cX11_crowns 61 = .ok (.getfield 41, 3) := by decide +kernel
theorem dX11_crowns_64 : decode cX11_crowns 64 = .ok (.getfield 258, 3) := by decide +kernel
theorem dX11_crowns_67 : decode cX11_crowns 67 = .ok (.goto 17, 3) := by decide +kernel
theorem dX11_crowns_70 : decode cX11_crowns 70 = .ok (.aload_n 0, 1) := by decide +kernel
theorem dX11_crowns_71 : decode cX11_crowns 71 = .ok (.getfield 10, 3) := by decide +kernel
theorem dX11_crowns_74 : decode cX11_crowns 74 = .ok (.aload_n 0, 1) := by decide +kernel
theorem dX11_crowns_75 : decode cX11_crowns 75 = .ok (.getfield 41, 3) := by decide +kernel
theorem dX11_crowns_78 : decode cX11_crowns 78 = .ok (.getfield 258, 3) := by decide +kernel
theorem dX11_crowns_81 : decode cX11_crowns 81 = .ok (.invokevirtual 246, 3) := by decide +kernel
theorem dX11_crowns_84 : decode cX11_crowns 84 = .ok (.ireturn, 1) := by decide +kernel
theorem dX11_kernel_0 : decode cX11_kernel 0 = .ok (.iload_n 1, 1) := by decide +kernel
theorem dX11_kernel_1 : decode cX11_kernel 1 = .ok (.invokestatic 261, 3) := by decide +kernel
theorem dX11_kernel_4 : decode cX11_kernel 4 = .ok (.ifCond .eq 12, 3) := by decide +kernel
theorem dX11_kernel_7 : decode cX11_kernel 7 = .ok (.iload_n 2, 1) := by decide +kernel
theorem dX11_kernel_8 : decode cX11_kernel 8 = .ok (.iconst 0, 1) := by decide +kernel
theorem dX11_kernel_9 : decode cX11_kernel 9 = .ok (.iconst 4, 1) := by decide +kernel
theorem dX11_kernel_10 : decode cX11_kernel 10 = .ok (.invokestatic 126, 3) := by decide +kernel
theorem dX11_kernel_13 : decode cX11_kernel 13 = .ok (.ifCond .ne 6, 3) := by decide +kernel
theorem dX11_kernel_16 : decode cX11_kernel 16 = .ok (.bipush (-2), 2) := by decide +kernel
theorem dX11_kernel_18 : decode cX11_kernel 18 = .ok (.ireturn, 1) := by decide +kernel
theorem dX11_kernel_19 : decode cX11_kernel 19 = .ok (.aload_n 0, 1) := by decide +kernel
theorem dX11_kernel_20 : decode cX11_kernel 20 = .ok (.getfield 48, 3) := by decide +kernel
theorem dX11_kernel_23 : decode cX11_kernel 23 = .ok (.aload_n 0, 1) := by decide +kernel
theorem dX11_kernel_24 : decode cX11_kernel 24 = .ok (.getfield 10, 3) := by decide +kernel
theorem dX11_kernel_27 : decode cX11_kernel 27 = .ok (.iload_n 1, 1) := by decide +kernel
theorem dX11_kernel_28 : decode cX11_kernel 28 = .ok (.invokevirtual 264, 3) := by decide +kernel
theorem dX11_kernel_31 : decode cX11_kernel 31 = .ok (.iload_n 2, 1) := by decide +kernel
theorem dX11_kernel_32 : decode cX11_kernel 32 = .ok (.tableswitch 67 0 3 #[32, 40, 48, 59], 32) := by decide +kernel
theorem dX11_kernel_64 : decode cX11_kernel 64 = .ok (.aload_n 0, 1) := by decide +kernel
theorem dX11_kernel_65 : decode cX11_kernel 65 = .ok (.getfield 48, 3) := by decide +kernel
theorem dX11_kernel_68 : decode cX11_kernel 68 = .ok (.getfield 268, 3) := by decide +kernel
theorem dX11_kernel_71 : decode cX11_kernel 71 = .ok (.ireturn, 1) := by decide +kernel
theorem dX11_kernel_72 : decode cX11_kernel 72 = .ok (.aload_n 0, 1) := by decide +kernel
theorem dX11_kernel_73 : decode cX11_kernel 73 = .ok (.getfield 48, 3) := by decide +kernel
theorem dX11_kernel_76 : decode cX11_kernel 76 = .ok (.getfield 271, 3) := by decide +kernel
theorem dX11_kernel_79 : decode cX11_kernel 79 = .ok (.ireturn, 1) := by decide +kernel
theorem dX11_kernel_80 : decode cX11_kernel 80 = .ok (.aload_n 0, 1) := by decide +kernel
theorem dX11_kernel_81 : decode cX11_kernel 81 = .ok (.getfield 48, 3) := by decide +kernel
theorem dX11_kernel_84 : decode cX11_kernel 84 = .ok (.getfield 274, 3) := by decide +kernel
theorem dX11_kernel_87 : decode cX11_kernel 87 = .ok (.bipush 20, 2) := by decide +kernel
theorem dX11_kernel_89 : decode cX11_kernel 89 = .ok (.iadd, 1) := by decide +kernel
theorem dX11_kernel_90 : decode cX11_kernel 90 = .ok (.ireturn, 1) := by decide +kernel
theorem dX11_kernel_91 : decode cX11_kernel 91 = .ok (.aload_n 0, 1) := by decide +kernel
theorem dX11_kernel_92 : decode cX11_kernel 92 = .ok (.getfield 48, 3) := by decide +kernel
theorem dX11_kernel_95 : decode cX11_kernel 95 = .ok (.getfield 277, 3) := by decide +kernel
theorem dX11_kernel_98 : decode cX11_kernel 98 = .ok (.ireturn, 1) := by decide +kernel
theorem dX11_kernel_99 : decode cX11_kernel 99 = .ok (.aload_n 0, 1) := by decide +kernel
theorem dX11_kernel_100 : decode cX11_kernel 100 = .ok (.getfield 48, 3) := by decide +kernel
theorem dX11_kernel_103 : decode cX11_kernel 103 = .ok (.invokevirtual 280, 3) := by decide +kernel
theorem dX11_kernel_106 : decode cX11_kernel 106 = .ok (.ifCond .eq 7, 3) := by decide +kernel
theorem dX11_kernel_109 : decode cX11_kernel 109 = .ok (.iconst 1, 1) := by decide +kernel
theorem dX11_kernel_110 : decode cX11_kernel 110 = .ok (.goto 4, 3) := by decide +kernel
theorem dX11_kernel_113 : decode cX11_kernel 113 = .ok (.iconst 0, 1) := by decide +kernel
theorem dX11_kernel_114 : decode cX11_kernel 114 = .ok (.ireturn, 1) := by decide +kernel
theorem dX11_round_0 : decode cX11_round 0 = .ok (.iload_n 1, 1) := by decide +kernel
theorem dX11_round_1 : decode cX11_round 1 = .ok (.invokestatic 261, 3) := by decide +kernel
theorem dX11_round_4 : decode cX11_round 4 = .ok (.ifCond .eq 12, 3) := by decide +kernel
theorem dX11_round_7 : decode cX11_round 7 = .ok (.iload_n 3, 1) := by decide +kernel
theorem dX11_round_8 : decode cX11_round 8 = .ok (.iconst 0, 1) := by decide +kernel
theorem dX11_round_9 : decode cX11_round 9 = .ok (.iconst 2, 1) := by decide +kernel
theorem dX11_round_10 : decode cX11_round 10 = .ok (.invokestatic 126, 3) := by decide +kernel
theorem dX11_round_13 : decode cX11_round 13 = .ok (.ifCond .ne 6, 3) := by decide +kernel
theorem dX11_round_16 : decode cX11_round 16 = .ok (.bipush (-2), 2) := by decide +kernel
theorem dX11_round_18 : decode cX11_round 18 = .ok (.ireturn, 1) := by decide +kernel
theorem dX11_round_19 : decode cX11_round 19 = .ok (.aload_n 0, 1) := by decide +kernel
theorem dX11_round_20 : decode cX11_round 20 = .ok (.getfield 48, 3) := by decide +kernel
theorem dX11_round_23 : decode cX11_round 23 = .ok (.aload_n 0, 1) := by decide +kernel
theorem dX11_round_24 : decode cX11_round 24 = .ok (.getfield 10, 3) := by decide +kernel
theorem dX11_round_27 : decode cX11_round 27 = .ok (.iload_n 1, 1) := by decide +kernel
theorem dX11_round_28 : decode cX11_round 28 = .ok (.invokevirtual 264, 3) := by decide +kernel
theorem dX11_round_31 : decode cX11_round 31 = .ok (.iload_n 2, 1) := by decide +kernel
theorem dX11_round_32 : decode cX11_round 32 = .ok (.ifCond .lt 14, 3) := by decide +kernel
theorem dX11_round_35 : decode cX11_round 35 = .ok (.iload_n 2, 1) := by decide +kernel
theorem dX11_round_36 : decode cX11_round 36 = .ok (.aload_n 0, 1) := by decide +kernel
theorem dX11_round_37 : decode cX11_round 37 = .ok (.getfield 48, 3) := by decide +kernel
theorem dX11_round_40 : decode cX11_round 40 = .ok (.getfield 277, 3) := by decide +kernel
theorem dX11_round_43 : decode cX11_round 43 = .ok (.if_icmp .lt 6, 3) := by decide +kernel
theorem dX11_round_46 : decode cX11_round 46 = .ok (.bipush (-2), 2) := by decide +kernel
theorem dX11_round_48 : decode cX11_round 48 = .ok (.ireturn, 1) := by decide +kernel
theorem dX11_round_49 : decode cX11_round 49 = .ok (.iload_n 3, 1) := by decide +kernel
theorem dX11_round_50 : decode cX11_round 50 = .ok (.lookupswitch 46 #[(0, 26), (1, 36)], 26) := by decide +kernel
theorem dX11_round_76 : decode cX11_round 76 = .ok (.aload_n 0, 1) := by decide +kernel
theorem dX11_round_77 : decode cX11_round 77 = .ok (.getfield 48, 3) := by decide +kernel
theorem dX11_round_80 : decode cX11_round 80 = .ok (.getfield 284, 3) := by decide +kernel
theorem dX11_round_83 : decode cX11_round 83 = .ok (.iload_n 2, 1) := by decide +kernel
theorem dX11_round_84 : decode cX11_round 84 = .ok (.iaload, 1) := by decide +kernel
theorem dX11_round_85 : decode cX11_round 85 = .ok (.ireturn, 1) := by decide +kernel
theorem dX11_round_86 : decode cX11_round 86 = .ok (.aload_n 0, 1) := by decide +kernel
theorem dX11_round_87 : decode cX11_round 87 = .ok (.getfield 48, 3) := by decide +kernel
theorem dX11_round_90 : decode cX11_round 90 = .ok (.getfield 287, 3) := by decide +kernel
theorem dX11_round_93 : decode cX11_round 93 = .ok (.iload_n 2, 1) := by decide +kernel
theorem dX11_round_94 : decode cX11_round 94 = .ok (.iaload, 1) := by decide +kernel
theorem dX11_round_95 : decode cX11_round 95 = .ok (.ireturn, 1) := by decide +kernel
theorem dX11_round_96 : decode cX11_round 96 = .ok (.aload_n 0, 1) := by decide +kernel
theorem dX11_round_97 : decode cX11_round 97 = .ok (.getfield 48, 3) := by decide +kernel
theorem dX11_round_100 : decode cX11_round 100 = .ok (.getfield 290, 3) := by decide +kernel
theorem dX11_round_103 : decode cX11_round 103 = .ok (.iload_n 2, 1) := by decide +kernel
theorem dX11_round_104 : decode cX11_round 104 = .ok (.iaload, 1) := by decide +kernel
theorem dX11_round_105 : decode cX11_round 105 = .ok (.ireturn, 1) := by decide +kernel
theorem dX11_pack_0 : decode cX11_pack 0 = .ok (.iload_n 1, 1) := by decide +kernel
theorem dX11_pack_1 : decode cX11_pack 1 = .ok (.iconst 0, 1) := by decide +kernel
theorem dX11_pack_2 : decode cX11_pack 2 = .ok (.iconst 1, 1) := by decide +kernel
theorem dX11_pack_3 : decode cX11_pack 3 = .ok (.invokestatic 126, 3) := by decide +kernel
theorem dX11_pack_6 : decode cX11_pack 6 = .ok (.ifCond .ne 6, 3) := by decide +kernel
theorem dX11_pack_9 : decode cX11_pack 9 = .ok (.bipush (-2), 2) := by decide +kernel
theorem dX11_pack_11 : decode cX11_pack 11 = .ok (.ireturn, 1) := by decide +kernel
theorem dX11_pack_12 : decode cX11_pack 12 = .ok (.aload_n 0, 1) := by decide +kernel
theorem dX11_pack_13 : decode cX11_pack 13 = .ok (.getfield 55, 3) := by decide +kernel
theorem dX11_pack_16 : decode cX11_pack 16 = .ok (.aload_n 0, 1) := by decide +kernel
theorem dX11_pack_17 : decode cX11_pack 17 = .ok (.getfield 10, 3) := by decide +kernel
theorem dX11_pack_20 : decode cX11_pack 20 = .ok (.invokevirtual 293, 3) := by decide +kernel
theorem dX11_pack_23 : decode cX11_pack 23 = .ok (.iload_n 1, 1) := by decide +kernel
theorem dX11_pack_24 : decode cX11_pack 24 = .ok (.ifCond .ne 13, 3) := by decide +kernel
theorem dX11_pack_27 : decode cX11_pack 27 = .ok (.aload_n 0, 1) := by decide +kernel
theorem dX11_pack_28 : decode cX11_pack 28 = .ok (.getfield 55, 3) := by decide +kernel
theorem dX11_pack_31 : decode cX11_pack 31 = .ok (.getfield 296, 3) := by decide +kernel
theorem dX11_pack_34 : decode cX11_pack 34 = .ok (.goto 10, 3) := by decide +kernel
theorem dX11_pack_37 : decode cX11_pack 37 = .ok (.aload_n 0, 1) := by decide +kernel
theorem dX11_pack_38 : decode cX11_pack 38 = .ok (.getfield 55, 3) := by decide +kernel
theorem dX11_pack_41 : decode cX11_pack 41 = .ok (.getfield 299, 3) := by decide +kernel
theorem dX11_pack_44 : decode cX11_pack 44 = .ok (.ireturn, 1) := by decide +kernel
theorem dX11_packs_0 : decode cX11_packs 0 = .ok (.aload_n 0, 1) := by decide +kernel
theorem dX11_packs_1 : decode cX11_packs 1 = .ok (.getfield 76, 3) := by decide +kernel
theorem dX11_packs_4 : decode cX11_packs 4 = .ok (.iload_n 1, 1) := by decide +kernel
theorem dX11_packs_5 : decode cX11_packs 5 = .ok (.invokevirtual 302, 3) := by decide +kernel
theorem dX11_packs_8 : decode cX11_packs 8 = .ok (.ifCond .ne 6, 3) := by decide +kernel
theorem dX11_packs_11 : decode cX11_packs 11 = .ok (.bipush (-2), 2) := by decide +kernel
theorem dX11_packs_13 : decode cX11_packs 13 = .ok (.ireturn, 1) := by decide +kernel
theorem dX11_packs_14 : decode cX11_packs 14 = .ok (.aload_n 0, 1) := by decide +kernel
theorem dX11_packs_15 : decode cX11_packs 15 = .ok (.getfield 76, 3) := by decide +kernel
theorem dX11_packs_18 : decode cX11_packs 18 = .ok (.iload_n 1, 1) := by decide +kernel
theorem dX11_packs_19 : decode cX11_packs 19 = .ok (.invokevirtual 303, 3) := by decide +kernel
theorem dX11_packs_22 : decode cX11_packs 22 = .ok (.ifCond .eq 6, 3) := by decide +kernel
theorem dX11_packs_25 : decode cX11_packs 25 = .ok (.bipush (-11), 2) := by decide +kernel
theorem dX11_packs_27 : decode cX11_packs 27 = .ok (.ireturn, 1) := by decide +kernel
theorem dX11_packs_28 : decode cX11_packs 28 = .ok (.iconst 0, 1) := by decide +kernel
theorem dX11_packs_29 : decode cX11_packs 29 = .ok (.istore_n 2, 1) := by decide +kernel
theorem dX11_packs_30 : decode cX11_packs 30 = .ok (.iconst 0, 1) := by decide +kernel
theorem dX11_packs_31 : decode cX11_packs 31 = .ok (.istore_n 3, 1) := by decide +kernel
theorem dX11_packs_32 : decode cX11_packs 32 = .ok (.iconst 0, 1) := by decide +kernel
theorem dX11_packs_33 : decode cX11_packs 33 = .ok (.istore 4, 2) := by decide +kernel
theorem dX11_packs_35 : decode cX11_packs 35 = .ok (.iload 4, 2) := by decide +kernel
theorem dX11_packs_37 : decode cX11_packs 37 = .ok (.aload_n 0, 1) := by decide +kernel
theorem dX11_packs_38 : decode cX11_packs 38 = .ok (.getfield 76, 3) := by decide +kernel
theorem dX11_packs_41 : decode cX11_packs 41 = .ok (.getfield 306, 3) := by decide +kernel
theorem dX11_packs_44 : decode cX11_packs 44 = .ok (.iload_n 1, 1) := by decide +kernel
theorem dX11_packs_45 : decode cX11_packs 45 = .ok (.iaload, 1) := by decide +kernel
theorem dX11_packs_46 : decode cX11_packs 46 = .ok (.if_icmp .ge 67, 3) := by decide +kernel
theorem dX11_packs_49 : decode cX11_packs 49 = .ok (.aload_n 0, 1) := by decide +kernel
theorem dX11_packs_50 : decode cX11_packs 50 = .ok (.getfield 76, 3) := by decide +kernel
theorem dX11_packs_53 : decode cX11_packs 53 = .ok (.getfield 309, 3) := by decide +kernel
theorem dX11_packs_56 : decode cX11_packs 56 = .ok (.iload_n 1, 1) := by decide +kernel
theorem dX11_packs_57 : decode cX11_packs 57 = .ok (.aaload, 1) := by decide +kernel
theorem dX11_packs_58 : decode cX11_packs 58 = .ok (.iload 4, 2) := by decide +kernel
theorem dX11_packs_60 : decode cX11_packs 60 = .ok (.iaload, 1) := by decide +kernel
theorem dX11_packs_61 : decode cX11_packs 61 = .ok (.istore 5, 2) := by decide +kernel
theorem dX11_packs_63 : decode cX11_packs 63 = .ok (.aload_n 0, 1) := by decide +kernel
theorem dX11_packs_64 : decode cX11_packs 64 = .ok (.getfield 55, 3) := by decide +kernel
theorem dX11_packs_67 : decode cX11_packs 67 = .ok (.aload_n 0, 1) := by decide +kernel
theorem dX11_packs_68 : decode cX11_packs 68 = .ok (.getfield 10, 3) := by decide +kernel
theorem dX11_packs_71 : decode cX11_packs 71 = .ok (.iload 5, 2) := by decide +kernel
theorem dX11_packs_73 : decode cX11_packs 73 = .ok (.invokevirtual 313, 3) := by decide +kernel
theorem dX11_packs_76 : decode cX11_packs 76 = .ok (.ifCond .eq 10, 3) := by decide +kernel
theorem dX11_packs_79 : decode cX11_packs 79 = .ok (.iload 5, 2) := by decide +kernel
theorem dX11_packs_81 : decode cX11_packs 81 = .ok (.iload_n 3, 1) := by decide +kernel
theorem dX11_packs_82 : decode cX11_packs 82 = .ok (.iand, 1) := by decide +kernel
theorem dX11_packs_83 : decode cX11_packs 83 = .ok (.ifCond .eq 9, 3) := by decide +kernel
theorem dX11_packs_86 : decode cX11_packs 86 = .ok (.bipush (-100), 2) := by decide +kernel
theorem dX11_packs_88 : decode cX11_packs 88 = .ok (.iload 4, 2) := by decide +kernel
theorem dX11_packs_90 : decode cX11_packs 90 = .ok (.isub, 1) := by decide +kernel
theorem dX11_packs_91 : decode cX11_packs 91 = .ok (.ireturn, 1) := by decide +kernel
theorem dX11_packs_92 : decode cX11_packs 92 = .ok (.iload_n 3, 1) := by decide +kernel
theorem dX11_packs_93 : decode cX11_packs 93 = .ok (.iload 5, 2) := by decide +kernel
theorem dX11_packs_95 : decode cX11_packs 95 = .ok (.ior, 1) := by decide +kernel
theorem dX11_packs_96 : decode cX11_packs 96 = .ok (.istore_n 3, 1) := by decide +kernel
theorem dX11_packs_97 : decode cX11_packs 97 = .ok (.iload_n 2, 1) := by decide +kernel
theorem dX11_packs_98 : decode cX11_packs 98 = .ok (.iload 5, 2) := by decide +kernel
theorem dX11_packs_100 : decode cX11_packs 100 = .ok (.invokestatic 223, 3) := by decide +kernel
theorem dX11_packs_103 : decode cX11_packs 103 = .ok (.iconst 1, 1) := by decide +kernel
theorem dX11_packs_104 : decode cX11_packs 104 = .ok (.isub, 1) := by decide +kernel
theorem dX11_packs_105 : decode cX11_packs 105 = .ok (.iadd, 1) := by decide +kernel
theorem dX11_packs_106 : decode cX11_packs 106 = .ok (.istore_n 2, 1) := by decide +kernel
theorem dX11_packs_107 : decode cX11_packs 107 = .ok (.iinc 4 1, 3) := by decide +kernel
theorem dX11_packs_110 : decode cX11_packs 110 = .ok (.goto (-75), 3) := by decide +kernel
theorem dX11_packs_113 : decode cX11_packs 113 = .ok (.iload_n 2, 1) := by decide +kernel
theorem dX11_packs_114 : decode cX11_packs 114 = .ok (.ireturn, 1) := by decide +kernel
theorem dX11_search_0 : decode cX11_search 0 = .ok (.iload_n 1, 1) := by decide +kernel
theorem dX11_search_1 : decode cX11_search 1 = .ok (.invokestatic 261, 3) := by decide +kernel
theorem dX11_search_4 : decode cX11_search 4 = .ok (.ifCond .eq 12, 3) := by decide +kernel
theorem dX11_search_7 : decode cX11_search 7 = .ok (.iload_n 2, 1) := by decide +kernel
theorem dX11_search_8 : decode cX11_search 8 = .ok (.iconst 0, 1) := by decide +kernel
theorem dX11_search_9 : decode cX11_search 9 = .ok (.iconst 4, 1) := by decide +kernel
theorem dX11_search_10 : decode cX11_search 10 = .ok (.invokestatic 126, 3) := by decide +kernel
theorem dX11_search_13 : decode cX11_search 13 = .ok (.ifCond .ne 6, 3) := by decide +kernel
theorem dX11_search_16 : decode cX11_search 16 = .ok (.bipush (-2), 2) := by decide +kernel
theorem dX11_search_18 : decode cX11_search 18 = .ok (.ireturn, 1) := by decide +kernel
theorem dX11_search_19 : decode cX11_search 19 = .ok (.aload_n 0, 1) := by decide +kernel
theorem dX11_search_20 : decode cX11_search 20 = .ok (.getfield 62, 3) := by decide +kernel
theorem dX11_search_23 : decode cX11_search 23 = .ok (.aload_n 0, 1) := by decide +kernel
theorem dX11_search_24 : decode cX11_search 24 = .ok (.getfield 10, 3) := by decide +kernel
theorem dX11_search_27 : decode cX11_search 27 = .ok (.iload_n 1, 1) := by decide +kernel
theorem dX11_search_28 : decode cX11_search 28 = .ok (.iconst (-1), 1) := by decide +kernel
theorem dX11_search_29 : decode cX11_search 29 = .ok (.invokevirtual 317, 3) := by decide +kernel
theorem dX11_search_32 : decode cX11_search 32 = .ok (.iload_n 2, 1) := by decide +kernel
theorem dX11_search_33 : decode cX11_search 33 = .ok (.tableswitch 85 0 3 #[31, 47, 55, 77], 31) := by decide +kernel
theorem dX11_search_64 : decode cX11_search 64 = .ok (.aload_n 0, 1) := by decide +kernel
theorem dX11_search_65 : decode cX11_search 65 = .ok (.getfield 62, 3) := by decide +kernel
theorem dX11_search_68 : decode cX11_search 68 = .ok (.getfield 321, 3) := by decide +kernel
theorem dX11_search_71 : decode cX11_search 71 = .ok (.ifCond .eq 7, 3) := by decide +kernel
theorem dX11_search_74 : decode cX11_search 74 = .ok (.iconst 1, 1) := by decide +kernel
theorem dX11_search_75 : decode cX11_search 75 = .ok (.goto 4, 3) := by decide +kernel
theorem dX11_search_78 : decode cX11_search 78 = .ok (.iconst 0, 1) := by decide +kernel
theorem dX11_search_79 : decode cX11_search 79 = .ok (.ireturn, 1) := by decide +kernel
theorem dX11_search_80 : decode cX11_search 80 = .ok (.aload_n 0, 1) := by decide +kernel
theorem dX11_search_81 : decode cX11_search 81 = .ok (.getfield 62, 3) := by decide +kernel
theorem dX11_search_84 : decode cX11_search 84 = .ok (.getfield 324, 3) := by decide +kernel
theorem dX11_search_87 : decode cX11_search 87 = .ok (.ireturn, 1) := by decide +kernel
theorem dX11_search_88 : decode cX11_search 88 = .ok (.aload_n 0, 1) := by decide +kernel
theorem dX11_search_89 : decode cX11_search 89 = .ok (.getfield 62, 3) := by decide +kernel
theorem dX11_search_92 : decode cX11_search 92 = .ok (.getfield 321, 3) := by decide +kernel
theorem dX11_search_95 : decode cX11_search 95 = .ok (.ifCond .eq 13, 3) := by decide +kernel
theorem dX11_search_98 : decode cX11_search 98 = .ok (.aload_n 0, 1) := by decide +kernel
theorem dX11_search_99 : decode cX11_search 99 = .ok (.getfield 62, 3) := by decide +kernel
theorem dX11_search_102 : decode cX11_search 102 = .ok (.getfield 327, 3) := by decide +kernel
theorem dX11_search_105 : decode cX11_search 105 = .ok (.goto 4, 3) := by decide +kernel
theorem dX11_search_108 : decode cX11_search 108 = .ok (.iconst (-1), 1) := by decide +kernel
theorem dX11_search_109 : decode cX11_search 109 = .ok (.ireturn, 1) := by decide +kernel
theorem dX11_search_110 : decode cX11_search 110 = .ok (.aload_n 0, 1) := by decide +kernel
theorem dX11_search_111 : decode cX11_search 111 = .ok (.getfield 62, 3) := by decide +kernel
theorem dX11_search_114 : decode cX11_search 114 = .ok (.getfield 330, 3) := by decide +kernel
theorem dX11_search_117 : decode cX11_search 117 = .ok (.ireturn, 1) := by decide +kernel
theorem dX11_search_118 : decode cX11_search 118 = .ok (.aload_n 0, 1) := by decide +kernel
theorem dX11_search_119 : decode cX11_search 119 = .ok (.getfield 62, 3) := by decide +kernel
theorem dX11_search_122 : decode cX11_search 122 = .ok (.getfield 333, 3) := by decide +kernel
theorem dX11_search_125 : decode cX11_search 125 = .ok (.ireturn, 1) := by decide +kernel
theorem dX11_node_0 : decode cX11_node 0 = .ok (.iload_n 1, 1) := by decide +kernel
theorem dX11_node_1 : decode cX11_node 1 = .ok (.invokestatic 261, 3) := by decide +kernel
theorem dX11_node_4 : decode cX11_node 4 = .ok (.ifCond .eq 12, 3) := by decide +kernel
theorem dX11_node_7 : decode cX11_node 7 = .ok (.iload_n 3, 1) := by decide +kernel
theorem dX11_node_8 : decode cX11_node 8 = .ok (.iconst 0, 1) := by decide +kernel
theorem dX11_node_9 : decode cX11_node 9 = .ok (.iconst 4, 1) := by decide +kernel
theorem dX11_node_10 : decode cX11_node 10 = .ok (.invokestatic 126, 3) := by decide +kernel
theorem dX11_node_13 : decode cX11_node 13 = .ok (.ifCond .ne 6, 3) := by decide +kernel
theorem dX11_node_16 : decode cX11_node 16 = .ok (.bipush (-2), 2) := by decide +kernel
theorem dX11_node_18 : decode cX11_node 18 = .ok (.ireturn, 1) := by decide +kernel
theorem dX11_node_19 : decode cX11_node 19 = .ok (.aload_n 0, 1) := by decide +kernel
theorem dX11_node_20 : decode cX11_node 20 = .ok (.getfield 62, 3) := by decide +kernel
theorem dX11_node_23 : decode cX11_node 23 = .ok (.aload_n 0, 1) := by decide +kernel
theorem dX11_node_24 : decode cX11_node 24 = .ok (.getfield 10, 3) := by decide +kernel
theorem dX11_node_27 : decode cX11_node 27 = .ok (.iload_n 1, 1) := by decide +kernel
theorem dX11_node_28 : decode cX11_node 28 = .ok (.iload_n 2, 1) := by decide +kernel
theorem dX11_node_29 : decode cX11_node 29 = .ok (.invokevirtual 317, 3) := by decide +kernel
theorem dX11_node_32 : decode cX11_node 32 = .ok (.iload_n 2, 1) := by decide +kernel
theorem dX11_node_33 : decode cX11_node 33 = .ok (.ifCond .lt 14, 3) := by decide +kernel
theorem dX11_node_36 : decode cX11_node 36 = .ok (.iload_n 2, 1) := by decide +kernel
theorem dX11_node_37 : decode cX11_node 37 = .ok (.aload_n 0, 1) := by decide +kernel
theorem dX11_node_38 : decode cX11_node 38 = .ok (.getfield 62, 3) := by decide +kernel
theorem dX11_node_41 : decode cX11_node 41 = .ok (.getfield 324, 3) := by decide +kernel
theorem dX11_node_44 : decode cX11_node 44 = .ok (.if_icmp .lt 6, 3) := by decide +kernel
theorem dX11_node_47 : decode cX11_node 47 = .ok (.bipush (-2), 2) := by decide +kernel
theorem dX11_node_49 : decode cX11_node 49 = .ok (.ireturn, 1) := by decide +kernel
theorem dX11_node_50 : decode cX11_node 50 = .ok (.iload_n 3, 1) := by decide +kernel
theorem dX11_node_51 : decode cX11_node 51 = .ok (.tableswitch 64 0 3 #[29, 37, 45, 53], 29) := by decide +kernel
theorem dX11_node_80 : decode cX11_node 80 = .ok (.aload_n 0, 1) := by decide +kernel
theorem dX11_node_81 : decode cX11_node 81 = .ok (.getfield 62, 3) := by decide +kernel
theorem dX11_node_84 : decode cX11_node 84 = .ok (.getfield 336, 3) := by decide +kernel
theorem dX11_node_87 : decode cX11_node 87 = .ok (.ireturn, 1) := by decide +kernel
theorem dX11_node_88 : decode cX11_node 88 = .ok (.aload_n 0, 1) := by decide +kernel
theorem dX11_node_89 : decode cX11_node 89 = .ok (.getfield 62, 3) := by decide +kernel
theorem dX11_node_92 : decode cX11_node 92 = .ok (.getfield 339, 3) := by decide +kernel
theorem dX11_node_95 : decode cX11_node 95 = .ok (.ireturn, 1) := by decide +kernel
theorem dX11_node_96 : decode cX11_node 96 = .ok (.aload_n 0, 1) := by decide +kernel
theorem dX11_node_97 : decode cX11_node 97 = .ok (.getfield 62, 3) := by decide +kernel
theorem dX11_node_100 : decode cX11_node 100 = .ok (.getfield 342, 3) := by decide +kernel
theorem dX11_node_103 : decode cX11_node 103 = .ok (.ireturn, 1) := by decide +kernel
theorem dX11_node_104 : decode cX11_node 104 = .ok (.aload_n 0, 1) := by decide +kernel
theorem dX11_node_105 : decode cX11_node 105 = .ok (.getfield 62, 3) := by decide +kernel
theorem dX11_node_108 : decode cX11_node 108 = .ok (.getfield 345, 3) := by decide +kernel
theorem dX11_node_111 : decode cX11_node 111 = .ok (.bipush 20, 2) := by decide +kernel
theorem dX11_node_113 : decode cX11_node 113 = .ok (.iadd, 1) := by decide +kernel
theorem dX11_node_114 : decode cX11_node 114 = .ok (.ireturn, 1) := by decide +kernel
theorem dX11_node_115 : decode cX11_node 115 = .ok (.aload_n 0, 1) := by decide +kernel
theorem dX11_node_116 : decode cX11_node 116 = .ok (.getfield 62, 3) := by decide +kernel
theorem dX11_node_119 : decode cX11_node 119 = .ok (.getfield 348, 3) := by decide +kernel
theorem dX11_node_122 : decode cX11_node 122 = .ok (.ireturn, 1) := by decide +kernel
theorem dX11_prove_0 : decode cX11_prove 0 = .ok (.aload_n 0, 1) := by decide +kernel
theorem dX11_prove_1 : decode cX11_prove 1 = .ok (.getfield 76, 3) := by decide +kernel
theorem dX11_prove_4 : decode cX11_prove 4 = .ok (.iload_n 1, 1) := by decide +kernel
theorem dX11_prove_5 : decode cX11_prove 5 = .ok (.invokevirtual 302, 3) := by decide +kernel
theorem dX11_prove_8 : decode cX11_prove 8 = .ok (.ifCond .eq 10, 3) := by decide +kernel
theorem dX11_prove_11 : decode cX11_prove 11 = .ok (.iload_n 2, 1) := by decide +kernel
theorem dX11_prove_12 : decode cX11_prove 12 = .ok (.invokestatic 261, 3) := by decide +kernel
theorem dX11_prove_15 : decode cX11_prove 15 = .ok (.ifCond .ne 6, 3) := by decide +kernel
theorem dX11_prove_18 : decode cX11_prove 18 = .ok (.bipush (-2), 2) := by decide +kernel
theorem dX11_prove_20 : decode cX11_prove 20 = .ok (.ireturn, 1) := by decide +kernel
theorem dX11_prove_21 : decode cX11_prove 21 = .ok (.aload_n 0, 1) := by decide +kernel
theorem dX11_prove_22 : decode cX11_prove 22 = .ok (.getfield 62, 3) := by decide +kernel
theorem dX11_prove_25 : decode cX11_prove 25 = .ok (.aload_n 0, 1) := by decide +kernel
theorem dX11_prove_26 : decode cX11_prove 26 = .ok (.getfield 10, 3) := by decide +kernel
theorem dX11_prove_29 : decode cX11_prove 29 = .ok (.iload_n 2, 1) := by decide +kernel
theorem dX11_prove_30 : decode cX11_prove 30 = .ok (.iconst (-1), 1) := by decide +kernel
theorem dX11_prove_31 : decode cX11_prove 31 = .ok (.invokevirtual 317, 3) := by decide +kernel
theorem dX11_prove_34 : decode cX11_prove 34 = .ok (.aload_n 0, 1) := by decide +kernel
theorem dX11_prove_35 : decode cX11_prove 35 = .ok (.getfield 62, 3) := by decide +kernel
theorem dX11_prove_38 : decode cX11_prove 38 = .ok (.getfield 321, 3) := by decide +kernel
theorem dX11_prove_41 : decode cX11_prove 41 = .ok (.ifCond .eq 5, 3) := by decide +kernel
theorem dX11_prove_44 : decode cX11_prove 44 = .ok (.iconst (-1), 1) := by decide +kernel
theorem dX11_prove_45 : decode cX11_prove 45 = .ok (.ireturn, 1) := by decide +kernel
theorem dX11_prove_46 : decode cX11_prove 46 = .ok (.aload_n 0, 1) := by decide +kernel
theorem dX11_prove_47 : decode cX11_prove 47 = .ok (.getfield 62, 3) := by decide +kernel
theorem dX11_prove_50 : decode cX11_prove 50 = .ok (.getfield 324, 3) := by decide +kernel
theorem dX11_prove_53 : decode cX11_prove 53 = .ok (.bipush 60, 2) := by decide +kernel
theorem dX11_prove_55 : decode cX11_prove 55 = .ok (.if_icmp .le 6, 3) := by decide +kernel
theorem dX11_prove_58 : decode cX11_prove 58 = .ok (.bipush (-4), 2) := by decide +kernel
theorem dX11_prove_60 : decode cX11_prove 60 = .ok (.ireturn, 1) := by decide +kernel
theorem dX11_prove_61 : decode cX11_prove 61 = .ok (.aload_n 0, 1) := by decide +kernel
theorem dX11_prove_62 : decode cX11_prove 62 = .ok (.getfield 76, 3) := by decide +kernel
theorem dX11_prove_65 : decode cX11_prove 65 = .ok (.iload_n 1, 1) := by decide +kernel
theorem dX11_prove_66 : decode cX11_prove 66 = .ok (.iconst 1, 1) := by decide +kernel
theorem dX11_prove_67 : decode cX11_prove 67 = .ok (.aload_n 0, 1) := by decide +kernel
theorem dX11_prove_68 : decode cX11_prove 68 = .ok (.getfield 62, 3) := by decide +kernel
theorem dX11_prove_71 : decode cX11_prove 71 = .ok (.getfield 324, 3) := by decide +kernel
theorem dX11_prove_74 : decode cX11_prove 74 = .ok (.invokevirtual 351, 3) := by decide +kernel
theorem dX11_prove_77 : decode cX11_prove 77 = .ok (.iconst 0, 1) := by decide +kernel
theorem dX11_prove_78 : decode cX11_prove 78 = .ok (.istore_n 3, 1) := by decide +kernel
theorem dX11_prove_79 : decode cX11_prove 79 = .ok (.iload_n 3, 1) := by decide +kernel
theorem dX11_prove_80 : decode cX11_prove 80 = .ok (.aload_n 0, 1) := by decide +kernel
theorem dX11_prove_81 : decode cX11_prove 81 = .ok (.getfield 62, 3) := by decide +kernel
theorem dX11_prove_84 : decode cX11_prove 84 = .ok (.getfield 324, 3) := by decide +kernel
theorem dX11_prove_87 : decode cX11_prove 87 = .ok (.if_icmp .ge 27, 3) := by decide +kernel
theorem dX11_prove_90 : decode cX11_prove 90 = .ok (.aload_n 0, 1) := by decide +kernel
theorem dX11_prove_91 : decode cX11_prove 91 = .ok (.getfield 76, 3) := by decide +kernel
theorem dX11_prove_94 : decode cX11_prove 94 = .ok (.iload_n 1, 1) := by decide +kernel
theorem dX11_prove_95 : decode cX11_prove 95 = .ok (.iload_n 3, 1) := by decide +kernel
theorem dX11_prove_96 : decode cX11_prove 96 = .ok (.aload_n 0, 1) := by decide +kernel
theorem dX11_prove_97 : decode cX11_prove 97 = .ok (.getfield 62, 3) := by decide +kernel
theorem dX11_prove_100 : decode cX11_prove 100 = .ok (.getfield 355, 3) := by decide +kernel
theorem dX11_prove_103 : decode cX11_prove 103 = .ok (.iload_n 3, 1) := by decide +kernel
theorem dX11_prove_104 : decode cX11_prove 104 = .ok (.iaload, 1) := by decide +kernel
theorem dX11_prove_105 : decode cX11_prove 105 = .ok (.invokevirtual 358, 3) := by decide +kernel
theorem dX11_prove_108 : decode cX11_prove 108 = .ok (.iinc 3 1, 3) := by decide +kernel
theorem dX11_prove_111 : decode cX11_prove 111 = .ok (.goto (-32), 3) := by decide +kernel
theorem dX11_prove_114 : decode cX11_prove 114 = .ok (.aload_n 0, 1) := by decide +kernel
theorem dX11_prove_115 : decode cX11_prove 115 = .ok (.getfield 62, 3) := by decide +kernel
theorem dX11_prove_118 : decode cX11_prove 118 = .ok (.getfield 324, 3) := by decide +kernel
theorem dX11_prove_121 : decode cX11_prove 121 = .ok (.ireturn, 1) := by decide +kernel
theorem dX11_proves_0 : decode cX11_proves 0 = .ok (.aload_n 0, 1) := by decide +kernel
theorem dX11_proves_1 : decode cX11_proves 1 = .ok (.getfield 76, 3) := by decide +kernel
theorem dX11_proves_4 : decode cX11_proves 4 = .ok (.iload_n 1, 1) := by decide +kernel
theorem dX11_proves_5 : decode cX11_proves 5 = .ok (.invokevirtual 302, 3) := by decide +kernel
theorem dX11_proves_8 : decode cX11_proves 8 = .ok (.ifCond .eq 10, 3) := by decide +kernel
theorem dX11_proves_11 : decode cX11_proves 11 = .ok (.iload_n 2, 1) := by decide +kernel
theorem dX11_proves_12 : decode cX11_proves 12 = .ok (.invokestatic 261, 3) := by decide +kernel
theorem dX11_proves_15 : decode cX11_proves 15 = .ok (.ifCond .ne 6, 3) := by decide +kernel
theorem dX11_proves_18 : decode cX11_proves 18 = .ok (.bipush (-2), 2) := by decide +kernel
theorem dX11_proves_20 : decode cX11_proves 20 = .ok (.ireturn, 1) := by decide +kernel
theorem dX11_proves_21 : decode cX11_proves 21 = .ok (.aload_n 0, 1) := by decide +kernel
theorem dX11_proves_22 : decode cX11_proves 22 = .ok (.getfield 76, 3) := by decide +kernel
theorem dX11_proves_25 : decode cX11_proves 25 = .ok (.iload_n 1, 1) := by decide +kernel
theorem dX11_proves_26 : decode cX11_proves 26 = .ok (.invokevirtual 303, 3) := by decide +kernel
theorem dX11_proves_29 : decode cX11_proves 29 = .ok (.ifCond .eq 6, 3) := by decide +kernel
theorem dX11_proves_32 : decode cX11_proves 32 = .ok (.bipush (-11), 2) := by decide +kernel
theorem dX11_proves_34 : decode cX11_proves 34 = .ok (.ireturn, 1) := by decide +kernel
theorem dX11_proves_35 : decode cX11_proves 35 = .ok (.aload_n 0, 1) := by decide +kernel
theorem dX11_proves_36 : decode cX11_proves 36 = .ok (.getfield 62, 3) := by decide +kernel
theorem dX11_proves_39 : decode cX11_proves 39 = .ok (.aload_n 0, 1) := by decide +kernel
theorem dX11_proves_40 : decode cX11_proves 40 = .ok (.getfield 10, 3) := by decide +kernel
theorem dX11_proves_43 : decode cX11_proves 43 = .ok (.iload_n 2, 1) := by decide +kernel
theorem dX11_proves_44 : decode cX11_proves 44 = .ok (.aload_n 0, 1) := by decide +kernel
theorem dX11_proves_45 : decode cX11_proves 45 = .ok (.getfield 76, 3) := by decide +kernel
theorem dX11_proves_48 : decode cX11_proves 48 = .ok (.getfield 309, 3) := by decide +kernel
theorem dX11_proves_51 : decode cX11_proves 51 = .ok (.iload_n 1, 1) := by decide +kernel
theorem dX11_proves_52 : decode cX11_proves 52 = .ok (.aaload, 1) := by decide +kernel
theorem dX11_proves_53 : decode cX11_proves 53 = .ok (.aload_n 0, 1) := by decide +kernel
theorem dX11_proves_54 : decode cX11_proves 54 = .ok (.getfield 76, 3) := by decide +kernel
theorem dX11_proves_57 : decode cX11_proves 57 = .ok (.getfield 306, 3) := by decide +kernel
theorem dX11_proves_60 : decode cX11_proves 60 = .ok (.iload_n 1, 1) := by decide +kernel
theorem dX11_proves_61 : decode cX11_proves 61 = .ok (.iaload, 1) := by decide +kernel
theorem dX11_proves_62 : decode cX11_proves 62 = .ok (.invokevirtual 361, 3) := by decide +kernel
theorem dX11_proves_65 : decode cX11_proves 65 = .ok (.istore_n 3, 1) := by decide +kernel
theorem dX11_proves_66 : decode cX11_proves 66 = .ok (.iload_n 3, 1) := by decide +kernel
theorem dX11_proves_67 : decode cX11_proves 67 = .ok (.ifCond .ge 7, 3) := by decide +kernel
theorem dX11_proves_70 : decode cX11_proves 70 = .ok (.iconst 0, 1) := by decide +kernel
theorem dX11_proves_71 : decode cX11_proves 71 = .ok (.goto 6, 3) := by decide +kernel
theorem dX11_proves_74 : decode cX11_proves 74 = .ok (.iconst 1, 1) := by decide +kernel
theorem dX11_proves_75 : decode cX11_proves 75 = .ok (.iload_n 3, 1) := by decide +kernel
theorem dX11_proves_76 : decode cX11_proves 76 = .ok (.iadd, 1) := by decide +kernel
theorem dX11_proves_77 : decode cX11_proves 77 = .ok (.ireturn, 1) := by decide +kernel
theorem dX11_without_0 : decode cX11_without 0 = .ok (.aload_n 0, 1) := by decide +kernel
theorem dX11_without_1 : decode cX11_without 1 = .ok (.getfield 10, 3) := by decide +kernel
theorem dX11_without_4 : decode cX11_without 4 = .ok (.iload_n 1, 1) := by decide +kernel
theorem dX11_without_5 : decode cX11_without 5 = .ok (.invokevirtual 137, 3) := by decide +kernel
theorem dX11_without_8 : decode cX11_without 8 = .ok (.ifCond .ne 6, 3) := by decide +kernel
theorem dX11_without_11 : decode cX11_without 11 = .ok (.bipush (-2), 2) := by decide +kernel
theorem dX11_without_13 : decode cX11_without 13 = .ok (.ireturn, 1) := by decide +kernel
theorem dX11_without_14 : decode cX11_without 14 = .ok (.aload_n 0, 1) := by decide +kernel
theorem dX11_without_15 : decode cX11_without 15 = .ok (.getfield 10, 3) := by decide +kernel
theorem dX11_without_18 : decode cX11_without 18 = .ok (.getfield 151, 3) := by decide +kernel
theorem dX11_without_21 : decode cX11_without 21 = .ok (.aload_n 0, 1) := by decide +kernel
theorem dX11_without_22 : decode cX11_without 22 = .ok (.getfield 10, 3) := by decide +kernel
theorem dX11_without_25 : decode cX11_without 25 = .ok (.invokevirtual 194, 3) := by decide +kernel
theorem dX11_without_28 : decode cX11_without 28 = .ok (.iconst 1, 1) := by decide +kernel
theorem dX11_without_29 : decode cX11_without 29 = .ok (.iload_n 1, 1) := by decide +kernel
theorem dX11_without_30 : decode cX11_without 30 = .ok (.ishl, 1) := by decide +kernel
theorem dX11_without_31 : decode cX11_without 31 = .ok (.iconst (-1), 1) := by decide +kernel
theorem dX11_without_32 : decode cX11_without 32 = .ok (.ixor, 1) := by decide +kernel
theorem dX11_without_33 : decode cX11_without 33 = .ok (.iand, 1) := by decide +kernel
theorem dX11_without_34 : decode cX11_without 34 = .ok (.invokestatic 242, 3) := by decide +kernel
theorem dX11_without_37 : decode cX11_without 37 = .ok (.ireturn, 1) := by decide +kernel
theorem dX11_cut_0 : decode cX11_cut 0 = .ok (.iload_n 1, 1) := by decide +kernel
theorem dX11_cut_1 : decode cX11_cut 1 = .ok (.iconst 0, 1) := by decide +kernel
theorem dX11_cut_2 : decode cX11_cut 2 = .ok (.iconst 1, 1) := by decide +kernel
theorem dX11_cut_3 : decode cX11_cut 3 = .ok (.invokestatic 126, 3) := by decide +kernel
theorem dX11_cut_6 : decode cX11_cut 6 = .ok (.ifCond .ne 6, 3) := by decide +kernel
theorem dX11_cut_9 : decode cX11_cut 9 = .ok (.bipush (-2), 2) := by decide +kernel
theorem dX11_cut_11 : decode cX11_cut 11 = .ok (.ireturn, 1) := by decide +kernel
theorem dX11_cut_12 : decode cX11_cut 12 = .ok (.aload_n 0, 1) := by decide +kernel
theorem dX11_cut_13 : decode cX11_cut 13 = .ok (.getfield 10, 3) := by decide +kernel
theorem dX11_cut_16 : decode cX11_cut 16 = .ok (.getfield 151, 3) := by decide +kernel
theorem dX11_cut_19 : decode cX11_cut 19 = .ok (.aload_n 0, 1) := by decide +kernel
theorem dX11_cut_20 : decode cX11_cut 20 = .ok (.getfield 10, 3) := by decide +kernel
theorem dX11_cut_23 : decode cX11_cut 23 = .ok (.invokevirtual 194, 3) := by decide +kernel
theorem dX11_cut_26 : decode cX11_cut 26 = .ok (.invokestatic 242, 3) := by decide +kernel
theorem dX11_cut_29 : decode cX11_cut 29 = .ok (.istore_n 2, 1) := by decide +kernel
theorem dX11_cut_30 : decode cX11_cut 30 = .ok (.iconst (-1), 1) := by decide +kernel
theorem dX11_cut_31 : decode cX11_cut 31 = .ok (.istore_n 3, 1) := by decide +kernel
theorem dX11_cut_32 : decode cX11_cut 32 = .ok (.iconst 0, 1) := by decide +kernel
theorem dX11_cut_33 : decode cX11_cut 33 = .ok (.istore 4, 2) := by decide +kernel
theorem dX11_cut_35 : decode cX11_cut 35 = .ok (.aload_n 0, 1) := by decide +kernel
theorem dX11_cut_36 : decode cX11_cut 36 = .ok (.getfield 16, 3) := by decide +kernel
theorem dX11_cut_39 : decode cX11_cut 39 = .ok (.aload_n 0, 1) := by decide +kernel
theorem dX11_cut_40 : decode cX11_cut 40 = .ok (.getfield 10, 3) := by decide +kernel
theorem dX11_cut_43 : decode cX11_cut 43 = .ok (.invokevirtual 365, 3) := by decide +kernel
theorem dX11_cut_46 : decode cX11_cut 46 = .ok (.iconst 0, 1) := by decide +kernel
theorem dX11_cut_47 : decode cX11_cut 47 = .ok (.istore 5, 2) := by decide +kernel
theorem dX11_cut_49 : decode cX11_cut 49 = .ok (.iload 5, 2) := by decide +kernel
theorem dX11_cut_51 : decode cX11_cut 51 = .ok (.aload_n 0, 1) := by decide +kernel
theorem dX11_cut_52 : decode cX11_cut 52 = .ok (.getfield 10, 3) := by decide +kernel
theorem dX11_cut_55 : decode cX11_cut 55 = .ok (.getfield 115, 3) := by decide +kernel
theorem dX11_cut_58 : decode cX11_cut 58 = .ok (.if_icmp .ge 112, 3) := by decide +kernel
theorem dX11_cut_61 : decode cX11_cut 61 = .ok (.iload 5, 2) := by decide +kernel
theorem dX11_cut_63 : decode cX11_cut 63 = .ok (.iconst 1, 1) := by decide +kernel
theorem dX11_cut_64 : decode cX11_cut 64 = .ok (.iadd, 1) := by decide +kernel
theorem dX11_cut_65 : decode cX11_cut 65 = .ok (.istore 6, 2) := by decide +kernel
theorem dX11_cut_67 : decode cX11_cut 67 = .ok (.iload 6, 2) := by decide +kernel
theorem dX11_cut_69 : decode cX11_cut 69 = .ok (.aload_n 0, 1) := by decide +kernel
theorem dX11_cut_70 : decode cX11_cut 70 = .ok (.getfield 10, 3) := by decide +kernel
theorem dX11_cut_73 : decode cX11_cut 73 = .ok (.getfield 115, 3) := by decide +kernel
theorem dX11_cut_76 : decode cX11_cut 76 = .ok (.if_icmp .ge 88, 3) := by decide +kernel
theorem dX11_cut_79 : decode cX11_cut 79 = .ok (.aload_n 0, 1) := by decide +kernel
theorem dX11_cut_80 : decode cX11_cut 80 = .ok (.getfield 10, 3) := by decide +kernel
theorem dX11_cut_83 : decode cX11_cut 83 = .ok (.iload 5, 2) := by decide +kernel
theorem dX11_cut_85 : decode cX11_cut 85 = .ok (.iload 6, 2) := by decide +kernel
theorem dX11_cut_87 : decode cX11_cut 87 = .ok (.invokevirtual 130, 3) := by decide +kernel
theorem dX11_cut_90 : decode cX11_cut 90 = .ok (.ifCond .ne 6, 3) := by decide +kernel
theorem dX11_cut_93 : decode cX11_cut 93 = .ok (.goto 65, 3) := by decide +kernel
theorem dX11_cut_96 : decode cX11_cut 96 = .ok (.aload_n 0, 1) := by decide +kernel
theorem dX11_cut_97 : decode cX11_cut 97 = .ok (.getfield 16, 3) := by decide +kernel
theorem dX11_cut_100 : decode cX11_cut 100 = .ok (.iload 5, 2) := by decide +kernel
theorem dX11_cut_102 : decode cX11_cut 102 = .ok (.iload 6, 2) := by decide +kernel
theorem dX11_cut_104 : decode cX11_cut 104 = .ok (.iconst 0, 1) := by decide +kernel
theorem dX11_cut_105 : decode cX11_cut 105 = .ok (.invokevirtual 133, 3) := by decide +kernel
theorem dX11_cut_108 : decode cX11_cut 108 = .ok (.aload_n 0, 1) := by decide +kernel
theorem dX11_cut_109 : decode cX11_cut 109 = .ok (.getfield 16, 3) := by decide +kernel
theorem dX11_cut_112 : decode cX11_cut 112 = .ok (.getfield 151, 3) := by decide +kernel
theorem dX11_cut_115 : decode cX11_cut 115 = .ok (.aload_n 0, 1) := by decide +kernel
theorem dX11_cut_116 : decode cX11_cut 116 = .ok (.getfield 10, 3) := by decide +kernel
theorem dX11_cut_119 : decode cX11_cut 119 = .ok (.invokevirtual 194, 3) := by decide +kernel
theorem dX11_cut_122 : decode cX11_cut 122 = .ok (.invokestatic 242, 3) := by decide +kernel
theorem dX11_cut_125 : decode cX11_cut 125 = .ok (.iload_n 2, 1) := by decide +kernel
theorem dX11_cut_126 : decode cX11_cut 126 = .ok (.if_icmp .ge 20, 3) := by decide +kernel
theorem dX11_cut_129 : decode cX11_cut 129 = .ok (.iload 4, 2) := by decide +kernel
theorem dX11_cut_131 : decode cX11_cut 131 = .ok (.ifCond .ne 12, 3) := by decide +kernel
theorem dX11_cut_134 : decode cX11_cut 134 = .ok (.bipush 12, 2) := by decide +kernel
theorem dX11_cut_136 : decode cX11_cut 136 = .ok (.iload 5, 2) := by decide +kernel
theorem dX11_cut_138 : decode cX11_cut 138 = .ok (.imul, 1) := by decide +kernel
theorem dX11_cut_139 : decode cX11_cut 139 = .ok (.iload 6, 2) := by decide +kernel
theorem dX11_cut_141 : decode cX11_cut 141 = .ok (.iadd, 1) := by decide +kernel
theorem dX11_cut_142 : decode cX11_cut 142 = .ok (.istore_n 3, 1) := by decide +kernel
theorem dX11_cut_143 : decode cX11_cut 143 = .ok (.iinc 4 1, 3) := by decide +kernel
theorem dX11_cut_146 : decode cX11_cut 146 = .ok (.aload_n 0, 1) := by decide +kernel
theorem dX11_cut_147 : decode cX11_cut 147 = .ok (.getfield 16, 3) := by decide +kernel
theorem dX11_cut_150 : decode cX11_cut 150 = .ok (.iload 5, 2) := by decide +kernel
theorem dX11_cut_152 : decode cX11_cut 152 = .ok (.iload 6, 2) := by decide +kernel
theorem dX11_cut_154 : decode cX11_cut 154 = .ok (.iconst 1, 1) := by decide +kernel
theorem dX11_cut_155 : decode cX11_cut 155 = .ok (.invokevirtual 133, 3) := by decide +kernel
theorem dX11_cut_158 : decode cX11_cut 158 = .ok (.iinc 6 1, 3) := by decide +kernel
theorem dX11_cut_161 : decode cX11_cut 161 = .ok (.goto (-94), 3) := by decide +kernel
theorem dX11_cut_164 : decode cX11_cut 164 = .ok (.iinc 5 1, 3) := by decide +kernel
theorem dX11_cut_167 : decode cX11_cut 167 = .ok (.goto (-118), 3) := by decide +kernel
theorem dX11_cut_170 : decode cX11_cut 170 = .ok (.iload_n 1, 1) := by decide +kernel
theorem dX11_cut_171 : decode cX11_cut 171 = .ok (.ifCond .ne 7, 3) := by decide +kernel
theorem dX11_cut_174 : decode cX11_cut 174 = .ok (.iload_n 3, 1) := by decide +kernel
theorem dX11_cut_175 : decode cX11_cut 175 = .ok (.goto 5, 3) := by decide +kernel
theorem dX11_cut_178 : decode cX11_cut 178 = .ok (.iload 4, 2) := by decide +kernel
theorem dX11_cut_180 : decode cX11_cut 180 = .ok (.ireturn, 1) := by decide +kernel
theorem dX11_joins_0 : decode cX11_joins 0 = .ok (.iload_n 1, 1) := by decide +kernel
theorem dX11_joins_1 : decode cX11_joins 1 = .ok (.iconst 0, 1) := by decide +kernel
theorem dX11_joins_2 : decode cX11_joins 2 = .ok (.iconst 1, 1) := by decide +kernel
theorem dX11_joins_3 : decode cX11_joins 3 = .ok (.invokestatic 126, 3) := by decide +kernel
theorem dX11_joins_6 : decode cX11_joins 6 = .ok (.ifCond .ne 6, 3) := by decide +kernel
theorem dX11_joins_9 : decode cX11_joins 9 = .ok (.bipush (-2), 2) := by decide +kernel
theorem dX11_joins_11 : decode cX11_joins 11 = .ok (.ireturn, 1) := by decide +kernel
theorem dX11_joins_12 : decode cX11_joins 12 = .ok (.aload_n 0, 1) := by decide +kernel
theorem dX11_joins_13 : decode cX11_joins 13 = .ok (.getfield 34, 3) := by decide +kernel
theorem dX11_joins_16 : decode cX11_joins 16 = .ok (.aload_n 0, 1) := by decide +kernel
theorem dX11_joins_17 : decode cX11_joins 17 = .ok (.getfield 10, 3) := by decide +kernel
theorem dX11_joins_20 : decode cX11_joins 20 = .ok (.invokevirtual 178, 3) := by decide +kernel
theorem dX11_joins_23 : decode cX11_joins 23 = .ok (.aload_n 0, 1) := by decide +kernel
theorem dX11_joins_24 : decode cX11_joins 24 = .ok (.getfield 10, 3) := by decide +kernel
theorem dX11_joins_27 : decode cX11_joins 27 = .ok (.invokevirtual 194, 3) := by decide +kernel
theorem dX11_joins_30 : decode cX11_joins 30 = .ok (.aload_n 0, 1) := by decide +kernel
theorem dX11_joins_31 : decode cX11_joins 31 = .ok (.getfield 34, 3) := by decide +kernel
theorem dX11_joins_34 : decode cX11_joins 34 = .ok (.getfield 197, 3) := by decide +kernel
theorem dX11_joins_37 : decode cX11_joins 37 = .ok (.iconst (-1), 1) := by decide +kernel
theorem dX11_joins_38 : decode cX11_joins 38 = .ok (.ixor, 1) := by decide +kernel
theorem dX11_joins_39 : decode cX11_joins 39 = .ok (.iand, 1) := by decide +kernel
theorem dX11_joins_40 : decode cX11_joins 40 = .ok (.istore_n 2, 1) := by decide +kernel
theorem dX11_joins_41 : decode cX11_joins 41 = .ok (.iload_n 2, 1) := by decide +kernel
theorem dX11_joins_42 : decode cX11_joins 42 = .ok (.invokestatic 223, 3) := by decide +kernel
theorem dX11_joins_45 : decode cX11_joins 45 = .ok (.istore_n 3, 1) := by decide +kernel
theorem dX11_joins_46 : decode cX11_joins 46 = .ok (.iload_n 1, 1) := by decide +kernel
theorem dX11_joins_47 : decode cX11_joins 47 = .ok (.iconst 1, 1) := by decide +kernel
theorem dX11_joins_48 : decode cX11_joins 48 = .ok (.if_icmp .ne 11, 3) := by decide +kernel
theorem dX11_joins_51 : decode cX11_joins 51 = .ok (.iload_n 3, 1) := by decide +kernel
theorem dX11_joins_52 : decode cX11_joins 52 = .ok (.iload_n 3, 1) := by decide +kernel
theorem dX11_joins_53 : decode cX11_joins 53 = .ok (.iconst 1, 1) := by decide +kernel
theorem dX11_joins_54 : decode cX11_joins 54 = .ok (.isub, 1) := by decide +kernel
theorem dX11_joins_55 : decode cX11_joins 55 = .ok (.imul, 1) := by decide +kernel
theorem dX11_joins_56 : decode cX11_joins 56 = .ok (.iconst 2, 1) := by decide +kernel
theorem dX11_joins_57 : decode cX11_joins 57 = .ok (.idiv, 1) := by decide +kernel
theorem dX11_joins_58 : decode cX11_joins 58 = .ok (.ireturn, 1) := by decide +kernel
theorem dX11_joins_59 : decode cX11_joins 59 = .ok (.iload_n 3, 1) := by decide +kernel
theorem dX11_joins_60 : decode cX11_joins 60 = .ok (.iconst 2, 1) := by decide +kernel
theorem dX11_joins_61 : decode cX11_joins 61 = .ok (.if_icmp .ge 5, 3) := by decide +kernel
theorem dX11_joins_64 : decode cX11_joins 64 = .ok (.iconst (-1), 1) := by decide +kernel
theorem dX11_joins_65 : decode cX11_joins 65 = .ok (.ireturn, 1) := by decide +kernel
theorem dX11_joins_66 : decode cX11_joins 66 = .ok (.iload_n 2, 1) := by decide +kernel
theorem dX11_joins_67 : decode cX11_joins 67 = .ok (.invokestatic 368, 3) := by decide +kernel
theorem dX11_joins_70 : decode cX11_joins 70 = .ok (.istore 4, 2) := by decide +kernel
theorem dX11_joins_72 : decode cX11_joins 72 = .ok (.iload_n 2, 1) := by decide +kernel
theorem dX11_joins_73 : decode cX11_joins 73 = .ok (.iload_n 2, 1) := by decide +kernel
theorem dX11_joins_74 : decode cX11_joins 74 = .ok (.iconst 1, 1) := by decide +kernel
theorem dX11_joins_75 : decode cX11_joins 75 = .ok (.isub, 1) := by decide +kernel
theorem dX11_joins_76 : decode cX11_joins 76 = .ok (.iand, 1) := by decide +kernel
theorem dX11_joins_77 : decode cX11_joins 77 = .ok (.invokestatic 368, 3) := by decide +kernel
theorem dX11_joins_80 : decode cX11_joins 80 = .ok (.istore 5, 2) := by decide +kernel
theorem dX11_joins_82 : decode cX11_joins 82 = .ok (.bipush 12, 2) := by decide +kernel
theorem dX11_joins_84 : decode cX11_joins 84 = .ok (.iload 4, 2) := by decide +kernel
theorem dX11_joins_86 : decode cX11_joins 86 = .ok (.imul, 1) := by decide +kernel
theorem dX11_joins_87 : decode cX11_joins 87 = .ok (.iload 5, 2) := by decide +kernel
theorem dX11_joins_89 : decode cX11_joins 89 = .ok (.iadd, 1) := by decide +kernel
theorem dX11_joins_90 : decode cX11_joins 90 = .ok (.ireturn, 1) := by decide +kernel
theorem dX11_pays_0 : decode cX11_pays 0 = .ok (.iload_n 1, 1) := by decide +kernel
theorem dX11_pays_1 : decode cX11_pays 1 = .ok (.iconst 0, 1) := by decide +kernel
theorem dX11_pays_2 : decode cX11_pays 2 = .ok (.iconst 2, 1) := by decide +kernel
theorem dX11_pays_3 : decode cX11_pays 3 = .ok (.invokestatic 126, 3) := by decide +kernel
theorem dX11_pays_6 : decode cX11_pays 6 = .ok (.ifCond .ne 6, 3) := by decide +kernel
theorem dX11_pays_9 : decode cX11_pays 9 = .ok (.bipush (-2), 2) := by decide +kernel
theorem dX11_pays_11 : decode cX11_pays 11 = .ok (.ireturn, 1) := by decide +kernel
theorem dX11_pays_12 : decode cX11_pays 12 = .ok (.aload_n 0, 1) := by decide +kernel
theorem dX11_pays_13 : decode cX11_pays 13 = .ok (.getfield 10, 3) := by decide +kernel
theorem dX11_pays_16 : decode cX11_pays 16 = .ok (.bipush 12, 2) := by decide +kernel
theorem dX11_pays_18 : decode cX11_pays 18 = .ok (.bipush 12, 2) := by decide +kernel
theorem dX11_pays_20 : decode cX11_pays 20 = .ok (.invokevirtual 371, 3) := by decide +kernel
theorem dX11_pays_23 : decode cX11_pays 23 = .ok (.istore_n 2, 1) := by decide +kernel
theorem dX11_pays_24 : decode cX11_pays 24 = .ok (.iload_n 1, 1) := by decide +kernel
theorem dX11_pays_25 : decode cX11_pays 25 = .ok (.ifCond .ne 5, 3) := by decide +kernel
theorem dX11_pays_28 : decode cX11_pays 28 = .ok (.iload_n 2, 1) := by decide +kernel
theorem dX11_pays_29 : decode cX11_pays 29 = .ok (.ireturn, 1) := by decide +kernel
theorem dX11_pays_30 : decode cX11_pays 30 = .ok (.aload_n 0, 1) := by decide +kernel
theorem dX11_pays_31 : decode cX11_pays 31 = .ok (.getfield 10, 3) := by decide +kernel
theorem dX11_pays_34 : decode cX11_pays 34 = .ok (.invokevirtual 374, 3) := by decide +kernel
theorem dX11_pays_37 : decode cX11_pays 37 = .ok (.istore_n 3, 1) := by decide +kernel
theorem dX11_pays_38 : decode cX11_pays 38 = .ok (.iload_n 1, 1) := by decide +kernel
theorem dX11_pays_39 : decode cX11_pays 39 = .ok (.iconst 1, 1) := by decide +kernel
theorem dX11_pays_40 : decode cX11_pays 40 = .ok (.if_icmp .ne 7, 3) := by decide +kernel
theorem dX11_pays_43 : decode cX11_pays 43 = .ok (.iload_n 3, 1) := by decide +kernel
theorem dX11_pays_44 : decode cX11_pays 44 = .ok (.goto 11, 3) := by decide +kernel
theorem dX11_pays_47 : decode cX11_pays 47 = .ok (.aload_n 0, 1) := by decide +kernel
theorem dX11_pays_48 : decode cX11_pays 48 = .ok (.getfield 10, 3) := by decide +kernel
theorem dX11_pays_51 : decode cX11_pays 51 = .ok (.iload_n 3, 1) := by decide +kernel
theorem dX11_pays_52 : decode cX11_pays 52 = .ok (.invokevirtual 175, 3) := by decide +kernel
theorem dX11_pays_55 : decode cX11_pays 55 = .ok (.ireturn, 1) := by decide +kernel
theorem dX11_paid_0 : decode cX11_paid 0 = .ok (.aload_n 0, 1) := by decide +kernel
theorem dX11_paid_1 : decode cX11_paid 1 = .ok (.getfield 10, 3) := by decide +kernel
theorem dX11_paid_4 : decode cX11_paid 4 = .ok (.iload_n 1, 1) := by decide +kernel
theorem dX11_paid_5 : decode cX11_paid 5 = .ok (.iload_n 2, 1) := by decide +kernel
theorem dX11_paid_6 : decode cX11_paid 6 = .ok (.invokevirtual 122, 3) := by decide +kernel
theorem dX11_paid_9 : decode cX11_paid 9 = .ok (.ifCond .ne 6, 3) := by decide +kernel
theorem dX11_paid_12 : decode cX11_paid 12 = .ok (.bipush (-2), 2) := by decide +kernel
theorem dX11_paid_14 : decode cX11_paid 14 = .ok (.ireturn, 1) := by decide +kernel
theorem dX11_paid_15 : decode cX11_paid 15 = .ok (.aload_n 0, 1) := by decide +kernel
theorem dX11_paid_16 : decode cX11_paid 16 = .ok (.getfield 10, 3) := by decide +kernel
theorem dX11_paid_19 : decode cX11_paid 19 = .ok (.iload_n 1, 1) := by decide +kernel
theorem dX11_paid_20 : decode cX11_paid 20 = .ok (.iload_n 2, 1) := by decide +kernel
theorem dX11_paid_21 : decode cX11_paid 21 = .ok (.invokevirtual 130, 3) := by decide +kernel
theorem dX11_paid_24 : decode cX11_paid 24 = .ok (.ifCond .ne 5, 3) := by decide +kernel
theorem dX11_paid_27 : decode cX11_paid 27 = .ok (.iconst (-1), 1) := by decide +kernel
theorem dX11_paid_28 : decode cX11_paid 28 = .ok (.ireturn, 1) := by decide +kernel
theorem dX11_paid_29 : decode cX11_paid 29 = .ok (.aload_n 0, 1) := by decide +kernel
theorem dX11_paid_30 : decode cX11_paid 30 = .ok (.getfield 10, 3) := by decide +kernel
theorem dX11_paid_33 : decode cX11_paid 33 = .ok (.iload_n 1, 1) := by decide +kernel
theorem dX11_paid_34 : decode cX11_paid 34 = .ok (.iload_n 2, 1) := by decide +kernel
theorem dX11_paid_35 : decode cX11_paid 35 = .ok (.invokestatic 377, 3) := by decide +kernel
theorem dX11_paid_38 : decode cX11_paid 38 = .ok (.iload_n 1, 1) := by decide +kernel
theorem dX11_paid_39 : decode cX11_paid 39 = .ok (.iload_n 2, 1) := by decide +kernel
theorem dX11_paid_40 : decode cX11_paid 40 = .ok (.invokestatic 382, 3) := by decide +kernel
theorem dX11_paid_43 : decode cX11_paid 43 = .ok (.invokevirtual 371, 3) := by decide +kernel
theorem dX11_paid_46 : decode cX11_paid 46 = .ok (.pop, 1) := by decide +kernel
theorem dX11_paid_47 : decode cX11_paid 47 = .ok (.aload_n 0, 1) := by decide +kernel
theorem dX11_paid_48 : decode cX11_paid 48 = .ok (.getfield 10, 3) := by decide +kernel
theorem dX11_paid_51 : decode cX11_paid 51 = .ok (.getfield 385, 3) := by decide +kernel
theorem dX11_paid_54 : decode cX11_paid 54 = .ok (.iload_n 1, 1) := by decide +kernel
theorem dX11_paid_55 : decode cX11_paid 55 = .ok (.iaload, 1) := by decide +kernel
theorem dX11_paid_56 : decode cX11_paid 56 = .ok (.aload_n 0, 1) := by decide +kernel
theorem dX11_paid_57 : decode cX11_paid 57 = .ok (.getfield 10, 3) := by decide +kernel
theorem dX11_paid_60 : decode cX11_paid 60 = .ok (.getfield 385, 3) := by decide +kernel
theorem dX11_paid_63 : decode cX11_paid 63 = .ok (.iload_n 2, 1) := by decide +kernel
theorem dX11_paid_64 : decode cX11_paid 64 = .ok (.iaload, 1) := by decide +kernel
theorem dX11_paid_65 : decode cX11_paid 65 = .ok (.invokestatic 377, 3) := by decide +kernel
theorem dX11_paid_68 : decode cX11_paid 68 = .ok (.ireturn, 1) := by decide +kernel
theorem dX11_feed_0 : decode cX11_feed 0 = .ok (.iload_n 2, 1) := by decide +kernel
theorem dX11_feed_1 : decode cX11_feed 1 = .ok (.iconst 1, 1) := by decide +kernel
theorem dX11_feed_2 : decode cX11_feed 2 = .ok (.iconst 4, 1) := by decide +kernel
theorem dX11_feed_3 : decode cX11_feed 3 = .ok (.invokestatic 126, 3) := by decide +kernel
theorem dX11_feed_6 : decode cX11_feed 6 = .ok (.ifCond .ne 6, 3) := by decide +kernel
theorem dX11_feed_9 : decode cX11_feed 9 = .ok (.bipush (-2), 2) := by decide +kernel
theorem dX11_feed_11 : decode cX11_feed 11 = .ok (.ireturn, 1) := by decide +kernel
theorem dX11_feed_12 : decode cX11_feed 12 = .ok (.aload_n 0, 1) := by decide +kernel
theorem dX11_feed_13 : decode cX11_feed 13 = .ok (.getfield 69, 3) := by decide +kernel
theorem dX11_feed_16 : decode cX11_feed 16 = .ok (.getfield 164, 3) := by decide +kernel
theorem dX11_feed_19 : decode cX11_feed 19 = .ok (.iload_n 2, 1) := by decide +kernel
theorem dX11_feed_20 : decode cX11_feed 20 = .ok (.iadd, 1) := by decide +kernel
theorem dX11_feed_21 : decode cX11_feed 21 = .ok (.sipush 200, 3) := by decide +kernel
theorem dX11_feed_24 : decode cX11_feed 24 = .ok (.if_icmp .le 6, 3) := by decide +kernel
theorem dX11_feed_27 : decode cX11_feed 27 = .ok (.bipush (-4), 2) := by decide +kernel
theorem dX11_feed_29 : decode cX11_feed 29 = .ok (.ireturn, 1) := by decide +kernel
theorem dX11_feed_30 : decode cX11_feed 30 = .ok (.iload_n 2, 1) := by decide +kernel
theorem dX11_feed_31 : decode cX11_feed 31 = .ok (.iconst 1, 1) := by decide +kernel
theorem dX11_feed_32 : decode cX11_feed 32 = .ok (.isub, 1) := by decide +kernel
theorem dX11_feed_33 : decode cX11_feed 33 = .ok (.istore_n 3, 1) := by decide +kernel
theorem dX11_feed_34 : decode cX11_feed 34 = .ok (.iload_n 3, 1) := by decide +kernel
theorem dX11_feed_35 : decode cX11_feed 35 = .ok (.ifCond .lt 26, 3) := by decide +kernel
theorem dX11_feed_38 : decode cX11_feed 38 = .ok (.aload_n 0, 1) := by decide +kernel
theorem dX11_feed_39 : decode cX11_feed 39 = .ok (.getfield 69, 3) := by decide +kernel
theorem dX11_feed_42 : decode cX11_feed 42 = .ok (.iload_n 1, 1) := by decide +kernel
theorem dX11_feed_43 : decode cX11_feed 43 = .ok (.bipush 8, 2) := by decide +kernel
theorem dX11_feed_45 : decode cX11_feed 45 = .ok (.iload_n 3, 1) := by decide +kernel
theorem dX11_feed_46 : decode cX11_feed 46 = .ok (.imul, 1) := by decide +kernel
theorem dX11_feed_47 : decode cX11_feed 47 = .ok (.iushr, 1) := by decide +kernel
theorem dX11_feed_48 : decode cX11_feed 48 = .ok (.sipush 255, 3) := by decide +kernel
theorem dX11_feed_51 : decode cX11_feed 51 = .ok (.iand, 1) := by decide +kernel
theorem dX11_feed_52 : decode cX11_feed 52 = .ok (.invokevirtual 388, 3) := by decide +kernel
theorem dX11_feed_55 : decode cX11_feed 55 = .ok (.iinc 3 (-1), 3) := by decide +kernel
theorem dX11_feed_58 : decode cX11_feed 58 = .ok (.goto (-24), 3) := by decide +kernel
theorem dX11_feed_61 : decode cX11_feed 61 = .ok (.aload_n 0, 1) := by decide +kernel
theorem dX11_feed_62 : decode cX11_feed 62 = .ok (.getfield 69, 3) := by decide +kernel
theorem dX11_feed_65 : decode cX11_feed 65 = .ok (.getfield 164, 3) := by decide +kernel
theorem dX11_feed_68 : decode cX11_feed 68 = .ok (.ireturn, 1) := by decide +kernel
theorem dX11_wipe_0 : decode cX11_wipe 0 = .ok (.aload_n 0, 1) := by decide +kernel
theorem dX11_wipe_1 : decode cX11_wipe 1 = .ok (.getfield 69, 3) := by decide +kernel
theorem dX11_wipe_4 : decode cX11_wipe 4 = .ok (.getfield 164, 3) := by decide +kernel
theorem dX11_wipe_7 : decode cX11_wipe 7 = .ok (.istore_n 1, 1) := by decide +kernel
theorem dX11_wipe_8 : decode cX11_wipe 8 = .ok (.aload_n 0, 1) := by decide +kernel
theorem dX11_wipe_9 : decode cX11_wipe 9 = .ok (.getfield 69, 3) := by decide +kernel
theorem dX11_wipe_12 : decode cX11_wipe 12 = .ok (.iconst 0, 1) := by decide +kernel
theorem dX11_wipe_13 : decode cX11_wipe 13 = .ok (.putfield 164, 3) := by decide +kernel
theorem dX11_wipe_16 : decode cX11_wipe 16 = .ok (.iload_n 1, 1) := by decide +kernel
theorem dX11_wipe_17 : decode cX11_wipe 17 = .ok (.ireturn, 1) := by decide +kernel
theorem dX11_text_0 : decode cX11_text 0 = .ok (.aload_n 0, 1) := by decide +kernel
theorem dX11_text_1 : decode cX11_text 1 = .ok (.getfield 69, 3) := by decide +kernel
theorem dX11_text_4 : decode cX11_text 4 = .ok (.aload_n 0, 1) := by decide +kernel
theorem dX11_text_5 : decode cX11_text 5 = .ok (.getfield 94, 3) := by decide +kernel
theorem dX11_text_8 : decode cX11_text 8 = .ok (.invokevirtual 391, 3) := by decide +kernel
theorem dX11_text_11 : decode cX11_text 11 = .ok (.istore_n 1, 1) := by decide +kernel
theorem dX11_text_12 : decode cX11_text 12 = .ok (.aload_n 0, 1) := by decide +kernel
theorem dX11_text_13 : decode cX11_text 13 = .ok (.getfield 69, 3) := by decide +kernel
theorem dX11_text_16 : decode cX11_text 16 = .ok (.iconst 0, 1) := by decide +kernel
theorem dX11_text_17 : decode cX11_text 17 = .ok (.putfield 164, 3) := by decide +kernel
theorem dX11_text_20 : decode cX11_text 20 = .ok (.iload_n 1, 1) := by decide +kernel
theorem dX11_text_21 : decode cX11_text 21 = .ok (.ifCond .lt 8, 3) := by decide +kernel
theorem dX11_text_24 : decode cX11_text 24 = .ok (.bipush (-100), 2) := by decide +kernel
theorem dX11_text_26 : decode cX11_text 26 = .ok (.iload_n 1, 1) := by decide +kernel
theorem dX11_text_27 : decode cX11_text 27 = .ok (.isub, 1) := by decide +kernel
theorem dX11_text_28 : decode cX11_text 28 = .ok (.ireturn, 1) := by decide +kernel
theorem dX11_text_29 : decode cX11_text 29 = .ok (.aload_n 0, 1) := by decide +kernel
theorem dX11_text_30 : decode cX11_text 30 = .ok (.getfield 90, 3) := by decide +kernel
theorem dX11_text_33 : decode cX11_text 33 = .ok (.astore_n 2, 1) := by decide +kernel
theorem dX11_text_34 : decode cX11_text 34 = .ok (.aload_n 0, 1) := by decide +kernel
theorem dX11_text_35 : decode cX11_text 35 = .ok (.aload_n 0, 1) := by decide +kernel
theorem dX11_text_36 : decode cX11_text 36 = .ok (.getfield 94, 3) := by decide +kernel
theorem dX11_text_39 : decode cX11_text 39 = .ok (.putfield 90, 3) := by decide +kernel
theorem dX11_text_42 : decode cX11_text 42 = .ok (.aload_n 0, 1) := by decide +kernel
theorem dX11_text_43 : decode cX11_text 43 = .ok (.aload_n 2, 1) := by decide +kernel
theorem dX11_text_44 : decode cX11_text 44 = .ok (.putfield 94, 3) := by decide +kernel
theorem dX11_text_47 : decode cX11_text 47 = .ok (.aload_n 0, 1) := by decide +kernel
theorem dX11_text_48 : decode cX11_text 48 = .ok (.getfield 90, 3) := by decide +kernel
theorem dX11_text_51 : decode cX11_text 51 = .ok (.getfield 165, 3) := by decide +kernel
theorem dX11_text_54 : decode cX11_text 54 = .ok (.ireturn, 1) := by decide +kernel
theorem dX11_tree_0 : decode cX11_tree 0 = .ok (.iload_n 1, 1) := by decide +kernel
theorem dX11_tree_1 : decode cX11_tree 1 = .ok (.iconst 0, 1) := by decide +kernel
theorem dX11_tree_2 : decode cX11_tree 2 = .ok (.iconst 5, 1) := by decide +kernel
theorem dX11_tree_3 : decode cX11_tree 3 = .ok (.invokestatic 126, 3) := by decide +kernel
theorem dX11_tree_6 : decode cX11_tree 6 = .ok (.ifCond .ne 7, 3) := by decide +kernel
theorem dX11_tree_9 : decode cX11_tree 9 = .ok (.ldc2_w 210, 3) := by decide +kernel
theorem dX11_tree_12 : decode cX11_tree 12 = .ok (.lreturn, 1) := by decide +kernel
theorem dX11_tree_13 : decode cX11_tree 13 = .ok (.aload_n 0, 1) := by decide +kernel
theorem dX11_tree_14 : decode cX11_tree 14 = .ok (.getfield 90, 3) := by decide +kernel
theorem dX11_tree_17 : decode cX11_tree 17 = .ok (.getfield 165, 3) := by decide +kernel
theorem dX11_tree_20 : decode cX11_tree 20 = .ok (.ifCond .ne 7, 3) := by decide +kernel
theorem dX11_tree_23 : decode cX11_tree 23 = .ok (.ldc2_w 395, 3) := by decide +kernel
theorem dX11_tree_26 : decode cX11_tree 26 = .ok (.lreturn, 1) := by decide +kernel
theorem dX11_tree_27 : decode cX11_tree 27 = .ok (.iload_n 1, 1) := by decide +kernel
theorem dX11_tree_28 : decode cX11_tree 28 = .ok (.tableswitch 83 0 4 #[36, 46, 55, 64, 74], 36) := by decide +kernel
theorem dX11_tree_64 : decode cX11_tree 64 = .ok (.aload_n 0, 1) := by decide +kernel
theorem dX11_tree_65 : decode cX11_tree 65 = .ok (.getfield 90, 3) := by decide +kernel
theorem dX11_tree_68 : decode cX11_tree 68 = .ok (.iconst 1, 1) := by decide +kernel
theorem dX11_tree_69 : decode cX11_tree 69 = .ok (.invokevirtual 397, 3) := by decide +kernel
theorem dX11_tree_72 : decode cX11_tree 72 = .ok (.i2l, 1) := by decide +kernel
theorem dX11_tree_73 : decode cX11_tree 73 = .ok (.lreturn, 1) := by decide +kernel
theorem dX11_tree_74 : decode cX11_tree 74 = .ok (.aload_n 0, 1) := by decide +kernel
theorem dX11_tree_75 : decode cX11_tree 75 = .ok (.getfield 90, 3) := by decide +kernel
theorem dX11_tree_78 : decode cX11_tree 78 = .ok (.iconst 0, 1) := by decide +kernel
theorem dX11_tree_79 : decode cX11_tree 79 = .ok (.invokevirtual 400, 3) := by decide +kernel
theorem dX11_tree_82 : decode cX11_tree 82 = .ok (.lreturn, 1) := by decide +kernel
theorem dX11_tree_83 : decode cX11_tree 83 = .ok (.aload_n 0, 1) := by decide +kernel
theorem dX11_tree_84 : decode cX11_tree 84 = .ok (.getfield 90, 3) := by decide +kernel
theorem dX11_tree_87 : decode cX11_tree 87 = .ok (.iconst 1, 1) := by decide +kernel
theorem dX11_tree_88 : decode cX11_tree 88 = .ok (.invokevirtual 400, 3) := by decide +kernel
theorem dX11_tree_91 : decode cX11_tree 91 = .ok (.lreturn, 1) := by decide +kernel
theorem dX11_tree_92 : decode cX11_tree 92 = .ok (.aload_n 0, 1) := by decide +kernel
theorem dX11_tree_93 : decode cX11_tree 93 = .ok (.getfield 90, 3) := by decide +kernel
theorem dX11_tree_96 : decode cX11_tree 96 = .ok (.iconst 2, 1) := by decide +kernel
theorem dX11_tree_97 : decode cX11_tree 97 = .ok (.invokevirtual 397, 3) := by decide +kernel
theorem dX11_tree_100 : decode cX11_tree 100 = .ok (.i2l, 1) := by decide +kernel
theorem dX11_tree_101 : decode cX11_tree 101 = .ok (.lreturn, 1) := by decide +kernel
theorem dX11_tree_102 : decode cX11_tree 102 = .ok (.aload_n 0, 1) := by decide +kernel
theorem dX11_tree_103 : decode cX11_tree 103 = .ok (.getfield 90, 3) := by decide +kernel
theorem dX11_tree_106 : decode cX11_tree 106 = .ok (.iconst 2, 1) := by decide +kernel
theorem dX11_tree_107 : decode cX11_tree 107 = .ok (.invokevirtual 400, 3) := by decide +kernel
theorem dX11_tree_110 : decode cX11_tree 110 = .ok (.lreturn, 1) := by decide +kernel
theorem dX11_tree_111 : decode cX11_tree 111 = .ok (.aload_n 0, 1) := by decide +kernel
theorem dX11_tree_112 : decode cX11_tree 112 = .ok (.getfield 90, 3) := by decide +kernel
theorem dX11_tree_115 : decode cX11_tree 115 = .ok (.invokevirtual 404, 3) := by decide +kernel
theorem dX11_tree_118 : decode cX11_tree 118 = .ok (.lreturn, 1) := by decide +kernel
theorem dX11_treeOf_0 : decode cX11_treeOf 0 = .ok (.aload_n 0, 1) := by decide +kernel
theorem dX11_treeOf_1 : decode cX11_treeOf 1 = .ok (.getfield 90, 3) := by decide +kernel
theorem dX11_treeOf_4 : decode cX11_treeOf 4 = .ok (.iload_n 1, 1) := by decide +kernel
theorem dX11_treeOf_5 : decode cX11_treeOf 5 = .ok (.invokevirtual 408, 3) := by decide +kernel
theorem dX11_treeOf_8 : decode cX11_treeOf 8 = .ok (.ifCond .ne 6, 3) := by decide +kernel
theorem dX11_treeOf_11 : decode cX11_treeOf 11 = .ok (.bipush (-2), 2) := by decide +kernel
theorem dX11_treeOf_13 : decode cX11_treeOf 13 = .ok (.ireturn, 1) := by decide +kernel
theorem dX11_treeOf_14 : decode cX11_treeOf 14 = .ok (.iload_n 2, 1) := by decide +kernel
theorem dX11_treeOf_15 : decode cX11_treeOf 15 = .ok (.tableswitch 106 0 5 #[37, 47, 57, 75, 84, 93], 37) := by decide +kernel
theorem dX11_treeOf_52 : decode cX11_treeOf 52 = .ok (.aload_n 0, 1) := by decide +kernel
theorem dX11_treeOf_53 : decode cX11_treeOf 53 = .ok (.getfield 90, 3) := by decide +kernel
theorem dX11_treeOf_56 : decode cX11_treeOf 56 = .ok (.getfield 409, 3) := by decide +kernel
theorem dX11_treeOf_59 : decode cX11_treeOf 59 = .ok (.iload_n 1, 1) := by decide +kernel
theorem dX11_treeOf_60 : decode cX11_treeOf 60 = .ok (.iaload, 1) := by decide +kernel
theorem dX11_treeOf_61 : decode cX11_treeOf 61 = .ok (.ireturn, 1) := by decide +kernel
theorem dX11_treeOf_62 : decode cX11_treeOf 62 = .ok (.aload_n 0, 1) := by decide +kernel
theorem dX11_treeOf_63 : decode cX11_treeOf 63 = .ok (.getfield 90, 3) := by decide +kernel
theorem dX11_treeOf_66 : decode cX11_treeOf 66 = .ok (.getfield 410, 3) := by decide +kernel
theorem dX11_treeOf_69 : decode cX11_treeOf 69 = .ok (.iload_n 1, 1) := by decide +kernel
theorem dX11_treeOf_70 : decode cX11_treeOf 70 = .ok (.iaload, 1) := by decide +kernel
theorem dX11_treeOf_71 : decode cX11_treeOf 71 = .ok (.ireturn, 1) := by decide +kernel
theorem dX11_treeOf_72 : decode cX11_treeOf 72 = .ok (.iload_n 1, 1) := by decide +kernel
theorem dX11_treeOf_73 : decode cX11_treeOf 73 = .ok (.ifCond .ne 7, 3) := by decide +kernel
theorem dX11_treeOf_76 : decode cX11_treeOf 76 = .ok (.iconst (-1), 1) := by decide +kernel
theorem dX11_treeOf_77 : decode cX11_treeOf 77 = .ok (.goto 12, 3) := by decide +kernel
theorem dX11_treeOf_80 : decode cX11_treeOf 80 = .ok (.aload_n 0, 1) := by decide +kernel
theorem dX11_treeOf_81 : decode cX11_treeOf 81 = .ok (.getfield 90, 3) := by decide +kernel
theorem dX11_treeOf_84 : decode cX11_treeOf 84 = .ok (.getfield 411, 3) := by decide +kernel
theorem dX11_treeOf_87 : decode cX11_treeOf 87 = .ok (.iload_n 1, 1) := by decide +kernel
theorem dX11_treeOf_88 : decode cX11_treeOf 88 = .ok (.iaload, 1) := by decide +kernel
theorem dX11_treeOf_89 : decode cX11_treeOf 89 = .ok (.ireturn, 1) := by decide +kernel
theorem dX11_treeOf_90 : decode cX11_treeOf 90 = .ok (.aload_n 0, 1) := by decide +kernel
theorem dX11_treeOf_91 : decode cX11_treeOf 91 = .ok (.getfield 90, 3) := by decide +kernel
theorem dX11_treeOf_94 : decode cX11_treeOf 94 = .ok (.iload_n 1, 1) := by decide +kernel
theorem dX11_treeOf_95 : decode cX11_treeOf 95 = .ok (.invokevirtual 414, 3) := by decide +kernel
theorem dX11_treeOf_98 : decode cX11_treeOf 98 = .ok (.ireturn, 1) := by decide +kernel
theorem dX11_treeOf_99 : decode cX11_treeOf 99 = .ok (.aload_n 0, 1) := by decide +kernel
theorem dX11_treeOf_100 : decode cX11_treeOf 100 = .ok (.getfield 90, 3) := by decide +kernel
theorem dX11_treeOf_103 : decode cX11_treeOf 103 = .ok (.iload_n 1, 1) := by decide +kernel
theorem dX11_treeOf_104 : decode cX11_treeOf 104 = .ok (.invokevirtual 417, 3) := by decide +kernel
theorem dX11_treeOf_107 : decode cX11_treeOf 107 = .ok (.ireturn, 1) := by decide +kernel
theorem dX11_treeOf_108 : decode cX11_treeOf 108 = .ok (.aload_n 0, 1) := by decide +kernel
theorem dX11_treeOf_109 : decode cX11_treeOf 109 = .ok (.getfield 90, 3) := by decide +kernel
theorem dX11_treeOf_112 : decode cX11_treeOf 112 = .ok (.invokevirtual 418, 3) := by decide +kernel
theorem dX11_treeOf_115 : decode cX11_treeOf 115 = .ok (.iload_n 1, 1) := by decide +kernel
theorem dX11_treeOf_116 : decode cX11_treeOf 116 = .ok (.lushr, 1) := by decide +kernel
theorem dX11_treeOf_117 : decode cX11_treeOf 117 = .ok (.lconst 1, 1) := by decide +kernel
theorem dX11_treeOf_118 : decode cX11_treeOf 118 = .ok (.land, 1) := by decide +kernel
theorem dX11_treeOf_119 : decode cX11_treeOf 119 = .ok (.l2i, 1) := by decide +kernel
theorem dX11_treeOf_120 : decode cX11_treeOf 120 = .ok (.ireturn, 1) := by decide +kernel
theorem dX11_treeOf_121 : decode cX11_treeOf 121 = .ok (.bipush (-2), 2) := by decide +kernel
theorem dX11_treeOf_123 : decode cX11_treeOf 123 = .ok (.ireturn, 1) := by decide +kernel
theorem dX11_plant_0 : decode cX11_plant 0 = .ok (.aload_n 0, 1) := by decide +kernel
theorem dX11_plant_1 : decode cX11_plant 1 = .ok (.getfield 90, 3) := by decide +kernel
theorem dX11_plant_4 : decode cX11_plant 4 = .ok (.getfield 165, 3) := by decide +kernel
theorem dX11_plant_7 : decode cX11_plant 7 = .ok (.ifCond .ne 5, 3) := by decide +kernel
theorem dX11_plant_10 : decode cX11_plant 10 = .ok (.iconst (-1), 1) := by decide +kernel
theorem dX11_plant_11 : decode cX11_plant 11 = .ok (.ireturn, 1) := by decide +kernel
theorem dX11_plant_12 : decode cX11_plant 12 = .ok (.aload_n 0, 1) := by decide +kernel
theorem dX11_plant_13 : decode cX11_plant 13 = .ok (.getfield 90, 3) := by decide +kernel
theorem dX11_plant_16 : decode cX11_plant 16 = .ok (.getfield 165, 3) := by decide +kernel
theorem dX11_plant_19 : decode cX11_plant 19 = .ok (.bipush 12, 2) := by decide +kernel
theorem dX11_plant_21 : decode cX11_plant 21 = .ok (.if_icmp .le 6, 3) := by decide +kernel
theorem dX11_plant_24 : decode cX11_plant 24 = .ok (.bipush (-3), 2) := by decide +kernel
theorem dX11_plant_26 : decode cX11_plant 26 = .ok (.ireturn, 1) := by decide +kernel
theorem dX11_plant_27 : decode cX11_plant 27 = .ok (.aload_n 0, 1) := by decide +kernel
theorem dX11_plant_28 : decode cX11_plant 28 = .ok (.getfield 10, 3) := by decide +kernel
theorem dX11_plant_31 : decode cX11_plant 31 = .ok (.invokevirtual 421, 3) := by decide +kernel
theorem dX11_plant_34 : decode cX11_plant 34 = .ok (.iconst 0, 1) := by decide +kernel
theorem dX11_plant_35 : decode cX11_plant 35 = .ok (.istore_n 1, 1) := by decide +kernel
theorem dX11_plant_36 : decode cX11_plant 36 = .ok (.iload_n 1, 1) := by decide +kernel
theorem dX11_plant_37 : decode cX11_plant 37 = .ok (.aload_n 0, 1) := by decide +kernel
theorem dX11_plant_38 : decode cX11_plant 38 = .ok (.getfield 90, 3) := by decide +kernel
theorem dX11_plant_41 : decode cX11_plant 41 = .ok (.getfield 165, 3) := by decide +kernel
theorem dX11_plant_44 : decode cX11_plant 44 = .ok (.if_icmp .ge 57, 3) := by decide +kernel
theorem dX11_plant_47 : decode cX11_plant 47 = .ok (.aload_n 0, 1) := by decide +kernel
theorem dX11_plant_48 : decode cX11_plant 48 = .ok (.getfield 10, 3) := by decide +kernel
theorem dX11_plant_51 : decode cX11_plant 51 = .ok (.aload_n 0, 1) := by decide +kernel
theorem dX11_plant_52 : decode cX11_plant 52 = .ok (.getfield 90, 3) := by decide +kernel
theorem dX11_plant_55 : decode cX11_plant 55 = .ok (.getfield 409, 3) := by decide +kernel
theorem dX11_plant_58 : decode cX11_plant 58 = .ok (.iload_n 1, 1) := by decide +kernel
theorem dX11_plant_59 : decode cX11_plant 59 = .ok (.iaload, 1) := by decide +kernel
theorem dX11_plant_60 : decode cX11_plant 60 = .ok (.aload_n 0, 1) := by decide +kernel
theorem dX11_plant_61 : decode cX11_plant 61 = .ok (.getfield 90, 3) := by decide +kernel
theorem dX11_plant_64 : decode cX11_plant 64 = .ok (.getfield 410, 3) := by decide +kernel
theorem dX11_plant_67 : decode cX11_plant 67 = .ok (.iload_n 1, 1) := by decide +kernel
theorem dX11_plant_68 : decode cX11_plant 68 = .ok (.iaload, 1) := by decide +kernel
theorem dX11_plant_69 : decode cX11_plant 69 = .ok (.invokevirtual 118, 3) := by decide +kernel
theorem dX11_plant_72 : decode cX11_plant 72 = .ok (.pop, 1) := by decide +kernel
theorem dX11_plant_73 : decode cX11_plant 73 = .ok (.iload_n 1, 1) := by decide +kernel
theorem dX11_plant_74 : decode cX11_plant 74 = .ok (.ifCond .le 21, 3) := by decide +kernel
theorem dX11_plant_77 : decode cX11_plant 77 = .ok (.aload_n 0, 1) := by decide +kernel
theorem dX11_plant_78 : decode cX11_plant 78 = .ok (.getfield 10, 3) := by decide +kernel
theorem dX11_plant_81 : decode cX11_plant 81 = .ok (.aload_n 0, 1) := by decide +kernel
theorem dX11_plant_82 : decode cX11_plant 82 = .ok (.getfield 90, 3) := by decide +kernel
theorem dX11_plant_85 : decode cX11_plant 85 = .ok (.getfield 411, 3) := by decide +kernel
theorem dX11_plant_88 : decode cX11_plant 88 = .ok (.iload_n 1, 1) := by decide +kernel
theorem dX11_plant_89 : decode cX11_plant 89 = .ok (.iaload, 1) := by decide +kernel
theorem dX11_plant_90 : decode cX11_plant 90 = .ok (.iload_n 1, 1) := by decide +kernel
theorem dX11_plant_91 : decode cX11_plant 91 = .ok (.iconst 1, 1) := by decide +kernel
theorem dX11_plant_92 : decode cX11_plant 92 = .ok (.invokevirtual 133, 3) := by decide +kernel
theorem dX11_plant_95 : decode cX11_plant 95 = .ok (.iinc 1 1, 3) := by decide +kernel
theorem dX11_plant_98 : decode cX11_plant 98 = .ok (.goto (-62), 3) := by decide +kernel
theorem dX11_plant_101 : decode cX11_plant 101 = .ok (.aload_n 0, 1) := by decide +kernel
theorem dX11_plant_102 : decode cX11_plant 102 = .ok (.getfield 10, 3) := by decide +kernel
theorem dX11_plant_105 : decode cX11_plant 105 = .ok (.getfield 115, 3) := by decide +kernel
theorem dX11_plant_108 : decode cX11_plant 108 = .ok (.ireturn, 1) := by decide +kernel
theorem dX11_seed_0 : decode cX11_seed 0 = .ok (.aload_n 0, 1) := by decide +kernel
theorem dX11_seed_1 : decode cX11_seed 1 = .ok (.getfield 97, 3) := by decide +kernel
theorem dX11_seed_4 : decode cX11_seed 4 = .ok (.istore_n 2, 1) := by decide +kernel
theorem dX11_seed_5 : decode cX11_seed 5 = .ok (.aload_n 0, 1) := by decide +kernel
theorem dX11_seed_6 : decode cX11_seed 6 = .ok (.iload_n 1, 1) := by decide +kernel
theorem dX11_seed_7 : decode cX11_seed 7 = .ok (.putfield 97, 3) := by decide +kernel
theorem dX11_seed_10 : decode cX11_seed 10 = .ok (.iload_n 2, 1) := by decide +kernel
theorem dX11_seed_11 : decode cX11_seed 11 = .ok (.ireturn, 1) := by decide +kernel
theorem dX11_deal_0 : decode cX11_deal 0 = .ok (.iload_n 1, 1) := by decide +kernel
theorem dX11_deal_1 : decode cX11_deal 1 = .ok (.iconst 0, 1) := by decide +kernel
theorem dX11_deal_2 : decode cX11_deal 2 = .ok (.bipush 12, 2) := by decide +kernel
theorem dX11_deal_4 : decode cX11_deal 4 = .ok (.invokestatic 126, 3) := by decide +kernel
theorem dX11_deal_7 : decode cX11_deal 7 = .ok (.ifCond .eq 13, 3) := by decide +kernel
theorem dX11_deal_10 : decode cX11_deal 10 = .ok (.iload_n 2, 1) := by decide +kernel
theorem dX11_deal_11 : decode cX11_deal 11 = .ok (.iconst 0, 1) := by decide +kernel
theorem dX11_deal_12 : decode cX11_deal 12 = .ok (.bipush 10, 2) := by decide +kernel
theorem dX11_deal_14 : decode cX11_deal 14 = .ok (.invokestatic 126, 3) := by decide +kernel
theorem dX11_deal_17 : decode cX11_deal 17 = .ok (.ifCond .ne 6, 3) := by decide +kernel
theorem dX11_deal_20 : decode cX11_deal 20 = .ok (.bipush (-2), 2) := by decide +kernel
theorem dX11_deal_22 : decode cX11_deal 22 = .ok (.ireturn, 1) := by decide +kernel
theorem dX11_deal_23 : decode cX11_deal 23 = .ok (.aload_n 0, 1) := by decide +kernel
theorem dX11_deal_24 : decode cX11_deal 24 = .ok (.aload_n 0, 1) := by decide +kernel
theorem dX11_deal_25 : decode cX11_deal 25 = .ok (.getfield 10, 3) := by decide +kernel
theorem dX11_deal_28 : decode cX11_deal 28 = .ok (.aload_n 0, 1) := by decide +kernel
theorem dX11_deal_29 : decode cX11_deal 29 = .ok (.getfield 97, 3) := by decide +kernel
theorem dX11_deal_32 : decode cX11_deal 32 = .ok (.iload_n 1, 1) := by decide +kernel
theorem dX11_deal_33 : decode cX11_deal 33 = .ok (.iload_n 2, 1) := by decide +kernel
theorem dX11_deal_34 : decode cX11_deal 34 = .ok (.invokevirtual 424, 3) := by decide +kernel
theorem dX11_deal_37 : decode cX11_deal 37 = .ok (.putfield 97, 3) := by decide +kernel
theorem dX11_deal_40 : decode cX11_deal 40 = .ok (.aload_n 0, 1) := by decide +kernel
theorem dX11_deal_41 : decode cX11_deal 41 = .ok (.getfield 10, 3) := by decide +kernel
theorem dX11_deal_44 : decode cX11_deal 44 = .ok (.invokevirtual 157, 3) := by decide +kernel
theorem dX11_deal_47 : decode cX11_deal 47 = .ok (.ireturn, 1) := by decide +kernel
theorem dX11_times_0 : decode cX11_times 0 = .ok (.iload_n 1, 1) := by decide +kernel
theorem dX11_times_1 : decode cX11_times 1 = .ok (.iconst 1, 1) := by decide +kernel
theorem dX11_times_2 : decode cX11_times 2 = .ok (.bipush 20, 2) := by decide +kernel
theorem dX11_times_4 : decode cX11_times 4 = .ok (.invokestatic 126, 3) := by decide +kernel
theorem dX11_times_7 : decode cX11_times 7 = .ok (.ifCond .eq 13, 3) := by decide +kernel
theorem dX11_times_10 : decode cX11_times 10 = .ok (.iload_n 2, 1) := by decide +kernel
theorem dX11_times_11 : decode cX11_times 11 = .ok (.iconst 0, 1) := by decide +kernel
theorem dX11_times_12 : decode cX11_times 12 = .ok (.bipush 12, 2) := by decide +kernel
theorem dX11_times_14 : decode cX11_times 14 = .ok (.invokestatic 126, 3) := by decide +kernel
theorem dX11_times_17 : decode cX11_times 17 = .ok (.ifCond .ne 6, 3) := by decide +kernel
theorem dX11_times_20 : decode cX11_times 20 = .ok (.bipush (-2), 2) := by decide +kernel
theorem dX11_times_22 : decode cX11_times 22 = .ok (.ireturn, 1) := by decide +kernel
theorem dX11_times_23 : decode cX11_times 23 = .ok (.iload_n 3, 1) := by decide +kernel
theorem dX11_times_24 : decode cX11_times 24 = .ok (.iconst 0, 1) := by decide +kernel
theorem dX11_times_25 : decode cX11_times 25 = .ok (.bipush 10, 2) := by decide +kernel
theorem dX11_times_27 : decode cX11_times 27 = .ok (.invokestatic 126, 3) := by decide +kernel
theorem dX11_times_30 : decode cX11_times 30 = .ok (.ifCond .eq 11, 3) := by decide +kernel
theorem dX11_times_33 : decode cX11_times 33 = .ok (.iload 4, 2) := by decide +kernel
theorem dX11_times_35 : decode cX11_times 35 = .ok (.invokestatic 261, 3) := by decide +kernel
theorem dX11_times_38 : decode cX11_times 38 = .ok (.ifCond .ne 6, 3) := by decide +kernel
theorem dX11_times_41 : decode cX11_times 41 = .ok (.bipush (-2), 2) := by decide +kernel
theorem dX11_times_43 : decode cX11_times 43 = .ok (.ireturn, 1) := by decide +kernel
theorem dX11_times_44 : decode cX11_times 44 = .ok (.aload_n 0, 1) := by decide +kernel
theorem dX11_times_45 : decode cX11_times 45 = .ok (.getfield 97, 3) := by decide +kernel
theorem dX11_times_48 : decode cX11_times 48 = .ok (.istore 5, 2) := by decide +kernel
theorem dX11_times_50 : decode cX11_times 50 = .ok (.iconst 0, 1) := by decide +kernel
theorem dX11_times_51 : decode cX11_times 51 = .ok (.istore 6, 2) := by decide +kernel
theorem dX11_times_53 : decode cX11_times 53 = .ok (.iconst 0, 1) := by decide +kernel
theorem dX11_times_54 : decode cX11_times 54 = .ok (.istore 7, 2) := by decide +kernel
theorem dX11_times_56 : decode cX11_times 56 = .ok (.iload 7, 2) := by decide +kernel
theorem dX11_times_58 : decode cX11_times 58 = .ok (.iload_n 1, 1) := by decide +kernel
theorem dX11_times_59 : decode cX11_times 59 = .ok (.if_icmp .ge 47, 3) := by decide +kernel
theorem dX11_times_62 : decode cX11_times 62 = .ok (.aload_n 0, 1) := by decide +kernel
theorem dX11_times_63 : decode cX11_times 63 = .ok (.getfield 16, 3) := by decide +kernel
theorem dX11_times_66 : decode cX11_times 66 = .ok (.iload 5, 2) := by decide +kernel
theorem dX11_times_68 : decode cX11_times 68 = .ok (.iload_n 2, 1) := by decide +kernel
theorem dX11_times_69 : decode cX11_times 69 = .ok (.iload_n 3, 1) := by decide +kernel
theorem dX11_times_70 : decode cX11_times 70 = .ok (.invokevirtual 424, 3) := by decide +kernel
theorem dX11_times_73 : decode cX11_times 73 = .ok (.istore 5, 2) := by decide +kernel
theorem dX11_times_75 : decode cX11_times 75 = .ok (.aload_n 0, 1) := by decide +kernel
theorem dX11_times_76 : decode cX11_times 76 = .ok (.getfield 16, 3) := by decide +kernel
theorem dX11_times_79 : decode cX11_times 79 = .ok (.getfield 151, 3) := by decide +kernel
theorem dX11_times_82 : decode cX11_times 82 = .ok (.aload_n 0, 1) := by decide +kernel
theorem dX11_times_83 : decode cX11_times 83 = .ok (.getfield 16, 3) := by decide +kernel
theorem dX11_times_86 : decode cX11_times 86 = .ok (.invokevirtual 194, 3) := by decide +kernel
theorem dX11_times_89 : decode cX11_times 89 = .ok (.invokestatic 242, 3) := by decide +kernel
theorem dX11_times_92 : decode cX11_times 92 = .ok (.iload 4, 2) := by decide +kernel
theorem dX11_times_94 : decode cX11_times 94 = .ok (.if_icmp .gt 6, 3) := by decide +kernel
theorem dX11_times_97 : decode cX11_times 97 = .ok (.iinc 6 1, 3) := by decide +kernel
theorem dX11_times_100 : decode cX11_times 100 = .ok (.iinc 7 1, 3) := by decide +kernel
theorem dX11_times_103 : decode cX11_times 103 = .ok (.goto (-47), 3) := by decide +kernel
theorem dX11_times_106 : decode cX11_times 106 = .ok (.iload 6, 2) := by decide +kernel
theorem dX11_times_108 : decode cX11_times 108 = .ok (.ireturn, 1) := by decide +kernel
theorem dX11_sheet_0 : decode cX11_sheet 0 = .ok (.aload_n 0, 1) := by decide +kernel
theorem dX11_sheet_1 : decode cX11_sheet 1 = .ok (.getfield 76, 3) := by decide +kernel
theorem dX11_sheet_4 : decode cX11_sheet 4 = .ok (.iload_n 1, 1) := by decide +kernel
theorem dX11_sheet_5 : decode cX11_sheet 5 = .ok (.invokevirtual 302, 3) := by decide +kernel
theorem dX11_sheet_8 : decode cX11_sheet 8 = .ok (.ifCond .eq 12, 3) := by decide +kernel
theorem dX11_sheet_11 : decode cX11_sheet 11 = .ok (.iload_n 2, 1) := by decide +kernel
theorem dX11_sheet_12 : decode cX11_sheet 12 = .ok (.iconst (-1), 1) := by decide +kernel
theorem dX11_sheet_13 : decode cX11_sheet 13 = .ok (.iconst 2, 1) := by decide +kernel
theorem dX11_sheet_14 : decode cX11_sheet 14 = .ok (.invokestatic 126, 3) := by decide +kernel
theorem dX11_sheet_17 : decode cX11_sheet 17 = .ok (.ifCond .ne 6, 3) := by decide +kernel
theorem dX11_sheet_20 : decode cX11_sheet 20 = .ok (.bipush (-2), 2) := by decide +kernel
theorem dX11_sheet_22 : decode cX11_sheet 22 = .ok (.ireturn, 1) := by decide +kernel
theorem dX11_sheet_23 : decode cX11_sheet 23 = .ok (.iload_n 2, 1) := by decide +kernel
theorem dX11_sheet_24 : decode cX11_sheet 24 = .ok (.iconst (-1), 1) := by decide +kernel
theorem dX11_sheet_25 : decode cX11_sheet 25 = .ok (.if_icmp .ne 15, 3) := by decide +kernel
theorem dX11_sheet_28 : decode cX11_sheet 28 = .ok (.aload_n 0, 1) := by decide +kernel
theorem dX11_sheet_29 : decode cX11_sheet 29 = .ok (.getfield 76, 3) := by decide +kernel
theorem dX11_sheet_32 : decode cX11_sheet 32 = .ok (.iload_n 1, 1) := by decide +kernel
theorem dX11_sheet_33 : decode cX11_sheet 33 = .ok (.iconst (-1), 1) := by decide +kernel
theorem dX11_sheet_34 : decode cX11_sheet 34 = .ok (.iconst 0, 1) := by decide +kernel
theorem dX11_sheet_35 : decode cX11_sheet 35 = .ok (.invokevirtual 351, 3) := by decide +kernel
theorem dX11_sheet_38 : decode cX11_sheet 38 = .ok (.iconst 1, 1) := by decide +kernel
theorem dX11_sheet_39 : decode cX11_sheet 39 = .ok (.ireturn, 1) := by decide +kernel
theorem dX11_sheet_40 : decode cX11_sheet 40 = .ok (.iload_n 3, 1) := by decide +kernel
theorem dX11_sheet_41 : decode cX11_sheet 41 = .ok (.bipush 60, 2) := by decide +kernel
theorem dX11_sheet_43 : decode cX11_sheet 43 = .ok (.if_icmp .le 6, 3) := by decide +kernel
theorem dX11_sheet_46 : decode cX11_sheet 46 = .ok (.bipush (-2), 2) := by decide +kernel
theorem dX11_sheet_48 : decode cX11_sheet 48 = .ok (.ireturn, 1) := by decide +kernel
theorem dX11_sheet_49 : decode cX11_sheet 49 = .ok (.iload_n 3, 1) := by decide +kernel
theorem dX11_sheet_50 : decode cX11_sheet 50 = .ok (.ifCond .ge 6, 3) := by decide +kernel
theorem dX11_sheet_53 : decode cX11_sheet 53 = .ok (.bipush (-14), 2) := by decide +kernel
theorem dX11_sheet_55 : decode cX11_sheet 55 = .ok (.ireturn, 1) := by decide +kernel
theorem dX11_sheet_56 : decode cX11_sheet 56 = .ok (.aload_n 0, 1) := by decide +kernel
theorem dX11_sheet_57 : decode cX11_sheet 57 = .ok (.getfield 76, 3) := by decide +kernel
theorem dX11_sheet_60 : decode cX11_sheet 60 = .ok (.iload_n 1, 1) := by decide +kernel
theorem dX11_sheet_61 : decode cX11_sheet 61 = .ok (.iload_n 2, 1) := by decide +kernel
theorem dX11_sheet_62 : decode cX11_sheet 62 = .ok (.iload_n 3, 1) := by decide +kernel
theorem dX11_sheet_63 : decode cX11_sheet 63 = .ok (.invokevirtual 351, 3) := by decide +kernel
theorem dX11_sheet_66 : decode cX11_sheet 66 = .ok (.iconst 1, 1) := by decide +kernel
theorem dX11_sheet_67 : decode cX11_sheet 67 = .ok (.ireturn, 1) := by decide +kernel
theorem dX11_write_0 : decode cX11_write 0 = .ok (.aload_n 0, 1) := by decide +kernel
theorem dX11_write_1 : decode cX11_write 1 = .ok (.getfield 76, 3) := by decide +kernel
theorem dX11_write_4 : decode cX11_write 4 = .ok (.iload_n 1, 1) := by decide +kernel
theorem dX11_write_5 : decode cX11_write 5 = .ok (.iload_n 2, 1) := by decide +kernel
theorem dX11_write_6 : decode cX11_write 6 = .ok (.invokevirtual 428, 3) := by decide +kernel
theorem dX11_write_9 : decode cX11_write 9 = .ok (.istore 4, 2) := by decide +kernel
theorem dX11_write_11 : decode cX11_write 11 = .ok (.iload 4, 2) := by decide +kernel
theorem dX11_write_13 : decode cX11_write 13 = .ok (.ifCond .eq 6, 3) := by decide +kernel
theorem dX11_write_16 : decode cX11_write 16 = .ok (.iload 4, 2) := by decide +kernel
theorem dX11_write_18 : decode cX11_write 18 = .ok (.ireturn, 1) := by decide +kernel
theorem dX11_write_19 : decode cX11_write 19 = .ok (.aload_n 0, 1) := by decide +kernel
theorem dX11_write_20 : decode cX11_write 20 = .ok (.getfield 76, 3) := by decide +kernel
theorem dX11_write_23 : decode cX11_write 23 = .ok (.iload_n 1, 1) := by decide +kernel
theorem dX11_write_24 : decode cX11_write 24 = .ok (.iload_n 2, 1) := by decide +kernel
theorem dX11_write_25 : decode cX11_write 25 = .ok (.iload_n 3, 1) := by decide +kernel
theorem dX11_write_26 : decode cX11_write 26 = .ok (.invokevirtual 358, 3) := by decide +kernel
theorem dX11_write_29 : decode cX11_write 29 = .ok (.iconst 1, 1) := by decide +kernel
theorem dX11_write_30 : decode cX11_write 30 = .ok (.ireturn, 1) := by decide +kernel
theorem dX11_item_0 : decode cX11_item 0 = .ok (.aload_n 0, 1) := by decide +kernel
theorem dX11_item_1 : decode cX11_item 1 = .ok (.getfield 76, 3) := by decide +kernel
theorem dX11_item_4 : decode cX11_item 4 = .ok (.iload_n 1, 1) := by decide +kernel
theorem dX11_item_5 : decode cX11_item 5 = .ok (.iload_n 2, 1) := by decide +kernel
theorem dX11_item_6 : decode cX11_item 6 = .ok (.invokevirtual 428, 3) := by decide +kernel
theorem dX11_item_9 : decode cX11_item 9 = .ok (.istore_n 3, 1) := by decide +kernel
theorem dX11_item_10 : decode cX11_item 10 = .ok (.iload_n 3, 1) := by decide +kernel
theorem dX11_item_11 : decode cX11_item 11 = .ok (.ifCond .eq 5, 3) := by decide +kernel
theorem dX11_item_14 : decode cX11_item 14 = .ok (.iload_n 3, 1) := by decide +kernel
theorem dX11_item_15 : decode cX11_item 15 = .ok (.ireturn, 1) := by decide +kernel
theorem dX11_item_16 : decode cX11_item 16 = .ok (.aload_n 0, 1) := by decide +kernel
theorem dX11_item_17 : decode cX11_item 17 = .ok (.getfield 76, 3) := by decide +kernel
theorem dX11_item_20 : decode cX11_item 20 = .ok (.getfield 309, 3) := by decide +kernel
theorem dX11_item_23 : decode cX11_item 23 = .ok (.iload_n 1, 1) := by decide +kernel
theorem dX11_item_24 : decode cX11_item 24 = .ok (.aaload, 1) := by decide +kernel
theorem dX11_item_25 : decode cX11_item 25 = .ok (.iload_n 2, 1) := by decide +kernel
theorem dX11_item_26 : decode cX11_item 26 = .ok (.iaload, 1) := by decide +kernel
theorem dX11_item_27 : decode cX11_item 27 = .ok (.ireturn, 1) := by decide +kernel
theorem dX11_copy_0 : decode cX11_copy 0 = .ok (.aload_n 0, 1) := by decide +kernel
theorem dX11_copy_1 : decode cX11_copy 1 = .ok (.getfield 76, 3) := by decide +kernel
theorem dX11_copy_4 : decode cX11_copy 4 = .ok (.iload_n 1, 1) := by decide +kernel
theorem dX11_copy_5 : decode cX11_copy 5 = .ok (.invokevirtual 302, 3) := by decide +kernel
theorem dX11_copy_8 : decode cX11_copy 8 = .ok (.ifCond .eq 14, 3) := by decide +kernel
theorem dX11_copy_11 : decode cX11_copy 11 = .ok (.aload_n 0, 1) := by decide +kernel
theorem dX11_copy_12 : decode cX11_copy 12 = .ok (.getfield 76, 3) := by decide +kernel
theorem dX11_copy_15 : decode cX11_copy 15 = .ok (.iload_n 3, 1) := by decide +kernel
theorem dX11_copy_16 : decode cX11_copy 16 = .ok (.invokevirtual 302, 3) := by decide +kernel
theorem dX11_copy_19 : decode cX11_copy 19 = .ok (.ifCond .ne 6, 3) := by decide +kernel
theorem dX11_copy_22 : decode cX11_copy 22 = .ok (.bipush (-2), 2) := by decide +kernel
theorem dX11_copy_24 : decode cX11_copy 24 = .ok (.ireturn, 1) := by decide +kernel
theorem dX11_copy_25 : decode cX11_copy 25 = .ok (.aload_n 0, 1) := by decide +kernel
theorem dX11_copy_26 : decode cX11_copy 26 = .ok (.getfield 76, 3) := by decide +kernel
theorem dX11_copy_29 : decode cX11_copy 29 = .ok (.iload_n 1, 1) := by decide +kernel
theorem dX11_copy_30 : decode cX11_copy 30 = .ok (.invokevirtual 303, 3) := by decide +kernel
theorem dX11_copy_33 : decode cX11_copy 33 = .ok (.ifCond .ne 14, 3) := by decide +kernel
theorem dX11_copy_36 : decode cX11_copy 36 = .ok (.aload_n 0, 1) := by decide +kernel
theorem dX11_copy_37 : decode cX11_copy 37 = .ok (.getfield 76, 3) := by decide +kernel
theorem dX11_copy_40 : decode cX11_copy 40 = .ok (.iload_n 3, 1) := by decide +kernel
theorem dX11_copy_41 : decode cX11_copy 41 = .ok (.invokevirtual 303, 3) := by decide +kernel
theorem dX11_copy_44 : decode cX11_copy 44 = .ok (.ifCond .eq 6, 3) := by decide +kernel
theorem dX11_copy_47 : decode cX11_copy 47 = .ok (.bipush (-11), 2) := by decide +kernel
theorem dX11_copy_49 : decode cX11_copy 49 = .ok (.ireturn, 1) := by decide +kernel
theorem dX11_copy_50 : decode cX11_copy 50 = .ok (.aload_n 0, 1) := by decide +kernel
theorem dX11_copy_51 : decode cX11_copy 51 = .ok (.getfield 76, 3) := by decide +kernel
theorem dX11_copy_54 : decode cX11_copy 54 = .ok (.getfield 431, 3) := by decide +kernel
theorem dX11_copy_57 : decode cX11_copy 57 = .ok (.iload_n 1, 1) := by decide +kernel
theorem dX11_copy_58 : decode cX11_copy 58 = .ok (.iaload, 1) := by decide +kernel
theorem dX11_copy_59 : decode cX11_copy 59 = .ok (.aload_n 0, 1) := by decide +kernel
theorem dX11_copy_60 : decode cX11_copy 60 = .ok (.getfield 76, 3) := by decide +kernel
theorem dX11_copy_63 : decode cX11_copy 63 = .ok (.getfield 431, 3) := by decide +kernel
theorem dX11_copy_66 : decode cX11_copy 66 = .ok (.iload_n 3, 1) := by decide +kernel
theorem dX11_copy_67 : decode cX11_copy 67 = .ok (.iaload, 1) := by decide +kernel
theorem dX11_copy_68 : decode cX11_copy 68 = .ok (.if_icmp .eq 6, 3) := by decide +kernel
theorem dX11_copy_71 : decode cX11_copy 71 = .ok (.bipush (-13), 2) := by decide +kernel
theorem dX11_copy_73 : decode cX11_copy 73 = .ok (.ireturn, 1) := by decide +kernel
theorem dX11_copy_74 : decode cX11_copy 74 = .ok (.aload_n 0, 1) := by decide +kernel
theorem dX11_copy_75 : decode cX11_copy 75 = .ok (.getfield 76, 3) := by decide +kernel
theorem dX11_copy_78 : decode cX11_copy 78 = .ok (.iload_n 1, 1) := by decide +kernel
theorem dX11_copy_79 : decode cX11_copy 79 = .ok (.iload_n 2, 1) := by decide +kernel
theorem dX11_copy_80 : decode cX11_copy 80 = .ok (.iload 5, 2) := by decide +kernel
theorem dX11_copy_82 : decode cX11_copy 82 = .ok (.invokevirtual 434, 3) := by decide +kernel
theorem dX11_copy_85 : decode cX11_copy 85 = .ok (.ifCond .eq 18, 3) := by decide +kernel
theorem dX11_copy_88 : decode cX11_copy 88 = .ok (.aload_n 0, 1) := by decide +kernel
theorem dX11_copy_89 : decode cX11_copy 89 = .ok (.getfield 76, 3) := by decide +kernel
theorem dX11_copy_92 : decode cX11_copy 92 = .ok (.iload_n 3, 1) := by decide +kernel
theorem dX11_copy_93 : decode cX11_copy 93 = .ok (.iload 4, 2) := by decide +kernel
theorem dX11_copy_95 : decode cX11_copy 95 = .ok (.iload 5, 2) := by decide +kernel
theorem dX11_copy_97 : decode cX11_copy 97 = .ok (.invokevirtual 434, 3) := by decide +kernel
theorem dX11_copy_100 : decode cX11_copy 100 = .ok (.ifCond .ne 6, 3) := by decide +kernel
theorem dX11_copy_103 : decode cX11_copy 103 = .ok (.bipush (-12), 2) := by decide +kernel
theorem dX11_copy_105 : decode cX11_copy 105 = .ok (.ireturn, 1) := by decide +kernel
theorem dX11_copy_106 : decode cX11_copy 106 = .ok (.aload_n 0, 1) := by decide +kernel
theorem dX11_copy_107 : decode cX11_copy 107 = .ok (.getfield 76, 3) := by decide +kernel
theorem dX11_copy_110 : decode cX11_copy 110 = .ok (.getfield 309, 3) := by decide +kernel
theorem dX11_copy_113 : decode cX11_copy 113 = .ok (.iload_n 1, 1) := by decide +kernel
theorem dX11_copy_114 : decode cX11_copy 114 = .ok (.aaload, 1) := by decide +kernel
theorem dX11_copy_115 : decode cX11_copy 115 = .ok (.iload_n 2, 1) := by decide +kernel
theorem dX11_copy_116 : decode cX11_copy 116 = .ok (.aload_n 0, 1) := by decide +kernel
theorem dX11_copy_117 : decode cX11_copy 117 = .ok (.getfield 76, 3) := by decide +kernel
theorem dX11_copy_120 : decode cX11_copy 120 = .ok (.getfield 309, 3) := by decide +kernel
theorem dX11_copy_123 : decode cX11_copy 123 = .ok (.iload_n 3, 1) := by decide +kernel
theorem dX11_copy_124 : decode cX11_copy 124 = .ok (.aaload, 1) := by decide +kernel
theorem dX11_copy_125 : decode cX11_copy 125 = .ok (.iload 4, 2) := by decide +kernel
theorem dX11_copy_127 : decode cX11_copy 127 = .ok (.iload 5, 2) := by decide +kernel
theorem dX11_copy_129 : decode cX11_copy 129 = .ok (.invokestatic 437, 3) := by decide +kernel
theorem dX11_copy_132 : decode cX11_copy 132 = .ok (.iload 5, 2) := by decide +kernel
theorem dX11_copy_134 : decode cX11_copy 134 = .ok (.ireturn, 1) := by decide +kernel
theorem dX11_load_0 : decode cX11_load 0 = .ok (.aload_n 0, 1) := by decide +kernel
theorem dX11_load_1 : decode cX11_load 1 = .ok (.getfield 76, 3) := by decide +kernel
theorem dX11_load_4 : decode cX11_load 4 = .ok (.iload_n 1, 1) := by decide +kernel
theorem dX11_load_5 : decode cX11_load 5 = .ok (.invokevirtual 302, 3) := by decide +kernel
theorem dX11_load_8 : decode cX11_load 8 = .ok (.ifCond .ne 6, 3) := by decide +kernel
theorem dX11_load_11 : decode cX11_load 11 = .ok (.bipush (-2), 2) := by decide +kernel
theorem dX11_load_13 : decode cX11_load 13 = .ok (.ireturn, 1) := by decide +kernel
theorem dX11_load_14 : decode cX11_load 14 = .ok (.aload_n 0, 1) := by decide +kernel
theorem dX11_load_15 : decode cX11_load 15 = .ok (.getfield 76, 3) := by decide +kernel
theorem dX11_load_18 : decode cX11_load 18 = .ok (.iload_n 1, 1) := by decide +kernel
theorem dX11_load_19 : decode cX11_load 19 = .ok (.invokevirtual 303, 3) := by decide +kernel
theorem dX11_load_22 : decode cX11_load 22 = .ok (.ifCond .eq 6, 3) := by decide +kernel
theorem dX11_load_25 : decode cX11_load 25 = .ok (.bipush (-11), 2) := by decide +kernel
theorem dX11_load_27 : decode cX11_load 27 = .ok (.ireturn, 1) := by decide +kernel
theorem dX11_load_28 : decode cX11_load 28 = .ok (.iconst 0, 1) := by decide +kernel
theorem dX11_load_29 : decode cX11_load 29 = .ok (.istore_n 2, 1) := by decide +kernel
theorem dX11_load_30 : decode cX11_load 30 = .ok (.iconst 0, 1) := by decide +kernel
theorem dX11_load_31 : decode cX11_load 31 = .ok (.istore_n 3, 1) := by decide +kernel
theorem dX11_load_32 : decode cX11_load 32 = .ok (.iload_n 3, 1) := by decide +kernel
theorem dX11_load_33 : decode cX11_load 33 = .ok (.aload_n 0, 1) := by decide +kernel
theorem dX11_load_34 : decode cX11_load 34 = .ok (.getfield 76, 3) := by decide +kernel
theorem dX11_load_37 : decode cX11_load 37 = .ok (.getfield 306, 3) := by decide +kernel
theorem dX11_load_40 : decode cX11_load 40 = .ok (.iload_n 1, 1) := by decide +kernel
theorem dX11_load_41 : decode cX11_load 41 = .ok (.iaload, 1) := by decide +kernel
theorem dX11_load_42 : decode cX11_load 42 = .ok (.if_icmp .ge 58, 3) := by decide +kernel
theorem dX11_load_45 : decode cX11_load 45 = .ok (.aload_n 0, 1) := by decide +kernel
theorem dX11_load_46 : decode cX11_load 46 = .ok (.getfield 76, 3) := by decide +kernel
theorem dX11_load_49 : decode cX11_load 49 = .ok (.getfield 309, 3) := by decide +kernel
theorem dX11_load_52 : decode cX11_load 52 = .ok (.iload_n 1, 1) := by decide +kernel
theorem dX11_load_53 : decode cX11_load 53 = .ok (.aaload, 1) := by decide +kernel
theorem dX11_load_54 : decode cX11_load 54 = .ok (.iload_n 3, 1) := by decide +kernel
theorem dX11_load_55 : decode cX11_load 55 = .ok (.iaload, 1) := by decide +kernel
theorem dX11_load_56 : decode cX11_load 56 = .ok (.istore 4, 2) := by decide +kernel
theorem dX11_load_58 : decode cX11_load 58 = .ok (.iload 4, 2) := by decide +kernel
theorem dX11_load_60 : decode cX11_load 60 = .ok (.invokestatic 112, 3) := by decide +kernel
theorem dX11_load_63 : decode cX11_load 63 = .ok (.ifCond .eq 37, 3) := by decide +kernel
theorem dX11_load_66 : decode cX11_load 66 = .ok (.aload_n 0, 1) := by decide +kernel
theorem dX11_load_67 : decode cX11_load 67 = .ok (.getfield 10, 3) := by decide +kernel
theorem dX11_load_70 : decode cX11_load 70 = .ok (.iload_n 3, 1) := by decide +kernel
theorem dX11_load_71 : decode cX11_load 71 = .ok (.invokevirtual 137, 3) := by decide +kernel
theorem dX11_load_74 : decode cX11_load 74 = .ok (.ifCond .ne 6, 3) := by decide +kernel
theorem dX11_load_77 : decode cX11_load 77 = .ok (.goto 23, 3) := by decide +kernel
theorem dX11_load_80 : decode cX11_load 80 = .ok (.aload_n 0, 1) := by decide +kernel
theorem dX11_load_81 : decode cX11_load 81 = .ok (.getfield 10, 3) := by decide +kernel
theorem dX11_load_84 : decode cX11_load 84 = .ok (.getfield 144, 3) := by decide +kernel
theorem dX11_load_87 : decode cX11_load 87 = .ok (.iload_n 3, 1) := by decide +kernel
theorem dX11_load_88 : decode cX11_load 88 = .ok (.iload 4, 2) := by decide +kernel
theorem dX11_load_90 : decode cX11_load 90 = .ok (.iastore, 1) := by decide +kernel
theorem dX11_load_91 : decode cX11_load 91 = .ok (.iinc 2 1, 3) := by decide +kernel
theorem dX11_load_94 : decode cX11_load 94 = .ok (.iinc 3 1, 3) := by decide +kernel
theorem dX11_load_97 : decode cX11_load 97 = .ok (.goto (-65), 3) := by decide +kernel
theorem dX11_load_100 : decode cX11_load 100 = .ok (.iload_n 2, 1) := by decide +kernel
theorem dX11_load_101 : decode cX11_load 101 = .ok (.ireturn, 1) := by decide +kernel
theorem dX11_judge_0 : decode cX11_judge 0 = .ok (.aload_n 0, 1) := by decide +kernel
theorem dX11_judge_1 : decode cX11_judge 1 = .ok (.getfield 76, 3) := by decide +kernel
theorem dX11_judge_4 : decode cX11_judge 4 = .ok (.iload_n 1, 1) := by decide +kernel
theorem dX11_judge_5 : decode cX11_judge 5 = .ok (.invokevirtual 302, 3) := by decide +kernel
theorem dX11_judge_8 : decode cX11_judge 8 = .ok (.ifCond .ne 6, 3) := by decide +kernel
theorem dX11_judge_11 : decode cX11_judge 11 = .ok (.bipush (-2), 2) := by decide +kernel
theorem dX11_judge_13 : decode cX11_judge 13 = .ok (.ireturn, 1) := by decide +kernel
theorem dX11_judge_14 : decode cX11_judge 14 = .ok (.aload_n 0, 1) := by decide +kernel
theorem dX11_judge_15 : decode cX11_judge 15 = .ok (.getfield 76, 3) := by decide +kernel
theorem dX11_judge_18 : decode cX11_judge 18 = .ok (.iload_n 1, 1) := by decide +kernel
theorem dX11_judge_19 : decode cX11_judge 19 = .ok (.invokevirtual 303, 3) := by decide +kernel
theorem dX11_judge_22 : decode cX11_judge 22 = .ok (.ifCond .eq 6, 3) := by decide +kernel
theorem dX11_judge_25 : decode cX11_judge 25 = .ok (.bipush (-11), 2) := by decide +kernel
theorem dX11_judge_27 : decode cX11_judge 27 = .ok (.ireturn, 1) := by decide +kernel
theorem dX11_judge_28 : decode cX11_judge 28 = .ok (.iconst 0, 1) := by decide +kernel
theorem dX11_judge_29 : decode cX11_judge 29 = .ok (.istore_n 2, 1) := by decide +kernel
theorem dX11_judge_30 : decode cX11_judge 30 = .ok (.iconst 0, 1) := by decide +kernel
theorem dX11_judge_31 : decode cX11_judge 31 = .ok (.istore_n 3, 1) := by decide +kernel
theorem dX11_judge_32 : decode cX11_judge 32 = .ok (.iload_n 3, 1) := by decide +kernel
theorem dX11_judge_33 : decode cX11_judge 33 = .ok (.aload_n 0, 1) := by decide +kernel
theorem dX11_judge_34 : decode cX11_judge 34 = .ok (.getfield 76, 3) := by decide +kernel
theorem dX11_judge_37 : decode cX11_judge 37 = .ok (.getfield 306, 3) := by decide +kernel
theorem dX11_judge_40 : decode cX11_judge 40 = .ok (.iload_n 1, 1) := by decide +kernel
theorem dX11_judge_41 : decode cX11_judge 41 = .ok (.iaload, 1) := by decide +kernel
theorem dX11_judge_42 : decode cX11_judge 42 = .ok (.if_icmp .ge 58, 3) := by decide +kernel
theorem dX11_judge_45 : decode cX11_judge 45 = .ok (.aload_n 0, 1) := by decide +kernel
theorem dX11_judge_46 : decode cX11_judge 46 = .ok (.getfield 10, 3) := by decide +kernel
theorem dX11_judge_49 : decode cX11_judge 49 = .ok (.iload_n 3, 1) := by decide +kernel
theorem dX11_judge_50 : decode cX11_judge 50 = .ok (.invokevirtual 137, 3) := by decide +kernel
theorem dX11_judge_53 : decode cX11_judge 53 = .ok (.ifCond .eq 23, 3) := by decide +kernel
theorem dX11_judge_56 : decode cX11_judge 56 = .ok (.aload_n 0, 1) := by decide +kernel
theorem dX11_judge_57 : decode cX11_judge 57 = .ok (.getfield 10, 3) := by decide +kernel
theorem dX11_judge_60 : decode cX11_judge 60 = .ok (.aload_n 0, 1) := by decide +kernel
theorem dX11_judge_61 : decode cX11_judge 61 = .ok (.getfield 76, 3) := by decide +kernel
theorem dX11_judge_64 : decode cX11_judge 64 = .ok (.getfield 309, 3) := by decide +kernel
theorem dX11_judge_67 : decode cX11_judge 67 = .ok (.iload_n 1, 1) := by decide +kernel
theorem dX11_judge_68 : decode cX11_judge 68 = .ok (.aaload, 1) := by decide +kernel
theorem dX11_judge_69 : decode cX11_judge 69 = .ok (.iload_n 3, 1) := by decide +kernel
theorem dX11_judge_70 : decode cX11_judge 70 = .ok (.invokevirtual 443, 3) := by decide +kernel
theorem dX11_judge_73 : decode cX11_judge 73 = .ok (.ifCond .ne 7, 3) := by decide +kernel
theorem dX11_judge_76 : decode cX11_judge 76 = .ok (.iconst 1, 1) := by decide +kernel
theorem dX11_judge_77 : decode cX11_judge 77 = .ok (.iload_n 3, 1) := by decide +kernel
theorem dX11_judge_78 : decode cX11_judge 78 = .ok (.iadd, 1) := by decide +kernel
theorem dX11_judge_79 : decode cX11_judge 79 = .ok (.ireturn, 1) := by decide +kernel
theorem dX11_judge_80 : decode cX11_judge 80 = .ok (.iload_n 2, 1) := by decide +kernel
theorem dX11_judge_81 : decode cX11_judge 81 = .ok (.aload_n 0, 1) := by decide +kernel
theorem dX11_judge_82 : decode cX11_judge 82 = .ok (.getfield 76, 3) := by decide +kernel
theorem dX11_judge_85 : decode cX11_judge 85 = .ok (.getfield 309, 3) := by decide +kernel
theorem dX11_judge_88 : decode cX11_judge 88 = .ok (.iload_n 1, 1) := by decide +kernel
theorem dX11_judge_89 : decode cX11_judge 89 = .ok (.aaload, 1) := by decide +kernel
theorem dX11_judge_90 : decode cX11_judge 90 = .ok (.iload_n 3, 1) := by decide +kernel
theorem dX11_judge_91 : decode cX11_judge 91 = .ok (.iaload, 1) := by decide +kernel
theorem dX11_judge_92 : decode cX11_judge 92 = .ok (.iadd, 1) := by decide +kernel
theorem dX11_judge_93 : decode cX11_judge 93 = .ok (.istore_n 2, 1) := by decide +kernel
theorem dX11_judge_94 : decode cX11_judge 94 = .ok (.iinc 3 1, 3) := by decide +kernel
theorem dX11_judge_97 : decode cX11_judge 97 = .ok (.goto (-65), 3) := by decide +kernel
theorem dX11_judge_100 : decode cX11_judge 100 = .ok (.aload_n 0, 1) := by decide +kernel
theorem dX11_judge_101 : decode cX11_judge 101 = .ok (.getfield 76, 3) := by decide +kernel
theorem dX11_judge_104 : decode cX11_judge 104 = .ok (.getfield 306, 3) := by decide +kernel
theorem dX11_judge_107 : decode cX11_judge 107 = .ok (.iload_n 1, 1) := by decide +kernel
theorem dX11_judge_108 : decode cX11_judge 108 = .ok (.iaload, 1) := by decide +kernel
theorem dX11_judge_109 : decode cX11_judge 109 = .ok (.aload_n 0, 1) := by decide +kernel
theorem dX11_judge_110 : decode cX11_judge 110 = .ok (.getfield 10, 3) := by decide +kernel
theorem dX11_judge_113 : decode cX11_judge 113 = .ok (.getfield 115, 3) := by decide +kernel
theorem dX11_judge_116 : decode cX11_judge 116 = .ok (.if_icmp .ge 6, 3) := by decide +kernel
theorem dX11_judge_119 : decode cX11_judge 119 = .ok (.bipush 100, 2) := by decide +kernel
theorem dX11_judge_121 : decode cX11_judge 121 = .ok (.ireturn, 1) := by decide +kernel
theorem dX11_judge_122 : decode cX11_judge 122 = .ok (.iload_n 2, 1) := by decide +kernel
theorem dX11_judge_123 : decode cX11_judge 123 = .ok (.aload_n 0, 1) := by decide +kernel
theorem dX11_judge_124 : decode cX11_judge 124 = .ok (.getfield 25, 3) := by decide +kernel
theorem dX11_judge_127 : decode cX11_judge 127 = .ok (.aload_n 0, 1) := by decide +kernel
theorem dX11_judge_128 : decode cX11_judge 128 = .ok (.getfield 10, 3) := by decide +kernel
theorem dX11_judge_131 : decode cX11_judge 131 = .ok (.getfield 151, 3) := by decide +kernel
theorem dX11_judge_134 : decode cX11_judge 134 = .ok (.aload_n 0, 1) := by decide +kernel
theorem dX11_judge_135 : decode cX11_judge 135 = .ok (.getfield 10, 3) := by decide +kernel
theorem dX11_judge_138 : decode cX11_judge 138 = .ok (.invokevirtual 194, 3) := by decide +kernel
theorem dX11_judge_141 : decode cX11_judge 141 = .ok (.invokevirtual 447, 3) := by decide +kernel
theorem dX11_judge_144 : decode cX11_judge 144 = .ok (.if_icmp .ne 7, 3) := by decide +kernel
theorem dX11_judge_147 : decode cX11_judge 147 = .ok (.iconst 0, 1) := by decide +kernel
theorem dX11_judge_148 : decode cX11_judge 148 = .ok (.goto 5, 3) := by decide +kernel
theorem dX11_judge_151 : decode cX11_judge 151 = .ok (.bipush 100, 2) := by decide +kernel
theorem dX11_judge_153 : decode cX11_judge 153 = .ok (.ireturn, 1) := by decide +kernel
theorem dX11_shelf_0 : decode cX11_shelf 0 = .ok (.aload_n 0, 1) := by decide +kernel
theorem dX11_shelf_1 : decode cX11_shelf 1 = .ok (.getfield 83, 3) := by decide +kernel
theorem dX11_shelf_4 : decode cX11_shelf 4 = .ok (.iload_n 1, 1) := by decide +kernel
theorem dX11_shelf_5 : decode cX11_shelf 5 = .ok (.invokevirtual 449, 3) := by decide +kernel
theorem dX11_shelf_8 : decode cX11_shelf 8 = .ok (.ifCond .eq 12, 3) := by decide +kernel
theorem dX11_shelf_11 : decode cX11_shelf 11 = .ok (.iload_n 2, 1) := by decide +kernel
theorem dX11_shelf_12 : decode cX11_shelf 12 = .ok (.iconst 0, 1) := by decide +kernel
theorem dX11_shelf_13 : decode cX11_shelf 13 = .ok (.iconst 2, 1) := by decide +kernel
theorem dX11_shelf_14 : decode cX11_shelf 14 = .ok (.invokestatic 126, 3) := by decide +kernel
theorem dX11_shelf_17 : decode cX11_shelf 17 = .ok (.ifCond .ne 6, 3) := by decide +kernel
theorem dX11_shelf_20 : decode cX11_shelf 20 = .ok (.bipush (-2), 2) := by decide +kernel
theorem dX11_shelf_22 : decode cX11_shelf 22 = .ok (.ireturn, 1) := by decide +kernel
theorem dX11_shelf_23 : decode cX11_shelf 23 = .ok (.iload_n 2, 1) := by decide +kernel
theorem dX11_shelf_24 : decode cX11_shelf 24 = .ok (.ifCond .ne 29, 3) := by decide +kernel
theorem dX11_shelf_27 : decode cX11_shelf 27 = .ok (.aload_n 0, 1) := by decide +kernel
theorem dX11_shelf_28 : decode cX11_shelf 28 = .ok (.getfield 10, 3) := by decide +kernel
theorem dX11_shelf_31 : decode cX11_shelf 31 = .ok (.iload_n 3, 1) := by decide +kernel
theorem dX11_shelf_32 : decode cX11_shelf 32 = .ok (.invokevirtual 137, 3) := by decide +kernel
theorem dX11_shelf_35 : decode cX11_shelf 35 = .ok (.ifCond .ne 6, 3) := by decide +kernel
theorem dX11_shelf_38 : decode cX11_shelf 38 = .ok (.bipush (-2), 2) := by decide +kernel
theorem dX11_shelf_40 : decode cX11_shelf 40 = .ok (.ireturn, 1) := by decide +kernel
theorem dX11_shelf_41 : decode cX11_shelf 41 = .ok (.aload_n 0, 1) := by decide +kernel
theorem dX11_shelf_42 : decode cX11_shelf 42 = .ok (.getfield 83, 3) := by decide +kernel
theorem dX11_shelf_45 : decode cX11_shelf 45 = .ok (.iload_n 1, 1) := by decide +kernel
theorem dX11_shelf_46 : decode cX11_shelf 46 = .ok (.iload_n 3, 1) := by decide +kernel
theorem dX11_shelf_47 : decode cX11_shelf 47 = .ok (.invokevirtual 450, 3) := by decide +kernel
theorem dX11_shelf_50 : decode cX11_shelf 50 = .ok (.goto 59, 3) := by decide +kernel
theorem dX11_shelf_53 : decode cX11_shelf 53 = .ok (.iload_n 2, 1) := by decide +kernel
theorem dX11_shelf_54 : decode cX11_shelf 54 = .ok (.iconst 1, 1) := by decide +kernel
theorem dX11_shelf_55 : decode cX11_shelf 55 = .ok (.if_icmp .ne 46, 3) := by decide +kernel
theorem dX11_shelf_58 : decode cX11_shelf 58 = .ok (.aload_n 0, 1) := by decide +kernel
theorem dX11_shelf_59 : decode cX11_shelf 59 = .ok (.getfield 76, 3) := by decide +kernel
theorem dX11_shelf_62 : decode cX11_shelf 62 = .ok (.iload_n 3, 1) := by decide +kernel
theorem dX11_shelf_63 : decode cX11_shelf 63 = .ok (.invokevirtual 302, 3) := by decide +kernel
theorem dX11_shelf_66 : decode cX11_shelf 66 = .ok (.ifCond .ne 6, 3) := by decide +kernel
theorem dX11_shelf_69 : decode cX11_shelf 69 = .ok (.bipush (-2), 2) := by decide +kernel
theorem dX11_shelf_71 : decode cX11_shelf 71 = .ok (.ireturn, 1) := by decide +kernel
theorem dX11_shelf_72 : decode cX11_shelf 72 = .ok (.aload_n 0, 1) := by decide +kernel
theorem dX11_shelf_73 : decode cX11_shelf 73 = .ok (.getfield 83, 3) := by decide +kernel
theorem dX11_shelf_76 : decode cX11_shelf 76 = .ok (.iload_n 1, 1) := by decide +kernel
theorem dX11_shelf_77 : decode cX11_shelf 77 = .ok (.aload_n 0, 1) := by decide +kernel
theorem dX11_shelf_78 : decode cX11_shelf 78 = .ok (.getfield 76, 3) := by decide +kernel
theorem dX11_shelf_81 : decode cX11_shelf 81 = .ok (.getfield 431, 3) := by decide +kernel
theorem dX11_shelf_84 : decode cX11_shelf 84 = .ok (.iload_n 3, 1) := by decide +kernel
theorem dX11_shelf_85 : decode cX11_shelf 85 = .ok (.iaload, 1) := by decide +kernel
theorem dX11_shelf_86 : decode cX11_shelf 86 = .ok (.aload_n 0, 1) := by decide +kernel
theorem dX11_shelf_87 : decode cX11_shelf 87 = .ok (.getfield 76, 3) := by decide +kernel
theorem dX11_shelf_90 : decode cX11_shelf 90 = .ok (.getfield 306, 3) := by decide +kernel
theorem dX11_shelf_93 : decode cX11_shelf 93 = .ok (.iload_n 3, 1) := by decide +kernel
theorem dX11_shelf_94 : decode cX11_shelf 94 = .ok (.iaload, 1) := by decide +kernel
theorem dX11_shelf_95 : decode cX11_shelf 95 = .ok (.invokevirtual 454, 3) := by decide +kernel
theorem dX11_shelf_98 : decode cX11_shelf 98 = .ok (.goto 11, 3) := by decide +kernel
theorem dX11_shelf_101 : decode cX11_shelf 101 = .ok (.aload_n 0, 1) := by decide +kernel
theorem dX11_shelf_102 : decode cX11_shelf 102 = .ok (.getfield 83, 3) := by decide +kernel
theorem dX11_shelf_105 : decode cX11_shelf 105 = .ok (.iload_n 1, 1) := by decide +kernel
theorem dX11_shelf_106 : decode cX11_shelf 106 = .ok (.invokevirtual 457, 3) := by decide +kernel
theorem dX11_shelf_109 : decode cX11_shelf 109 = .ok (.iconst 1, 1) := by decide +kernel
theorem dX11_shelf_110 : decode cX11_shelf 110 = .ok (.ireturn, 1) := by decide +kernel
theorem dX11_taken_0 : decode cX11_taken 0 = .ok (.iload_n 2, 1) := by decide +kernel
theorem dX11_taken_1 : decode cX11_taken 1 = .ok (.bipush 10, 2) := by decide +kernel
theorem dX11_taken_3 : decode cX11_taken 3 = .ok (.bipush 12, 2) := by decide +kernel
theorem dX11_taken_5 : decode cX11_taken 5 = .ok (.invokestatic 126, 3) := by decide +kernel
theorem dX11_taken_8 : decode cX11_taken 8 = .ok (.istore_n 3, 1) := by decide +kernel
theorem dX11_taken_9 : decode cX11_taken 9 = .ok (.aload_n 0, 1) := by decide +kernel
theorem dX11_taken_10 : decode cX11_taken 10 = .ok (.getfield 83, 3) := by decide +kernel
theorem dX11_taken_13 : decode cX11_taken 13 = .ok (.iload_n 1, 1) := by decide +kernel
theorem dX11_taken_14 : decode cX11_taken 14 = .ok (.invokevirtual 449, 3) := by decide +kernel
theorem dX11_taken_17 : decode cX11_taken 17 = .ok (.ifCond .eq 14, 3) := by decide +kernel
theorem dX11_taken_20 : decode cX11_taken 20 = .ok (.iload_n 2, 1) := by decide +kernel
theorem dX11_taken_21 : decode cX11_taken 21 = .ok (.invokestatic 108, 3) := by decide +kernel
theorem dX11_taken_24 : decode cX11_taken 24 = .ok (.ifCond .ne 10, 3) := by decide +kernel
theorem dX11_taken_27 : decode cX11_taken 27 = .ok (.iload_n 3, 1) := by decide +kernel
theorem dX11_taken_28 : decode cX11_taken 28 = .ok (.ifCond .ne 6, 3) := by decide +kernel
theorem dX11_taken_31 : decode cX11_taken 31 = .ok (.bipush (-2), 2) := by decide +kernel
theorem dX11_taken_33 : decode cX11_taken 33 = .ok (.ireturn, 1) := by decide +kernel
theorem dX11_taken_34 : decode cX11_taken 34 = .ok (.aload_n 0, 1) := by decide +kernel
theorem dX11_taken_35 : decode cX11_taken 35 = .ok (.getfield 83, 3) := by decide +kernel
theorem dX11_taken_38 : decode cX11_taken 38 = .ok (.getfield 460, 3) := by decide +kernel
theorem dX11_taken_41 : decode cX11_taken 41 = .ok (.iload_n 1, 1) := by decide +kernel
theorem dX11_taken_42 : decode cX11_taken 42 = .ok (.iaload, 1) := by decide +kernel
theorem dX11_taken_43 : decode cX11_taken 43 = .ok (.istore 4, 2) := by decide +kernel
theorem dX11_taken_45 : decode cX11_taken 45 = .ok (.aload_n 0, 1) := by decide +kernel
theorem dX11_taken_46 : decode cX11_taken 46 = .ok (.getfield 83, 3) := by decide +kernel
theorem dX11_taken_49 : decode cX11_taken 49 = .ok (.getfield 463, 3) := by decide +kernel
theorem dX11_taken_52 : decode cX11_taken 52 = .ok (.iload_n 1, 1) := by decide +kernel
theorem dX11_taken_53 : decode cX11_taken 53 = .ok (.iaload, 1) := by decide +kernel
theorem dX11_taken_54 : decode cX11_taken 54 = .ok (.iconst 2, 1) := by decide +kernel
theorem dX11_taken_55 : decode cX11_taken 55 = .ok (.if_icmp .ne 31, 3) := by decide +kernel
theorem dX11_taken_58 : decode cX11_taken 58 = .ok (.iload_n 3, 1) := by decide +kernel
theorem dX11_taken_59 : decode cX11_taken 59 = .ok (.ifCond .eq 24, 3) := by decide +kernel
theorem dX11_taken_62 : decode cX11_taken 62 = .ok (.aload_n 0, 1) := by decide +kernel
theorem dX11_taken_63 : decode cX11_taken 63 = .ok (.getfield 83, 3) := by decide +kernel
theorem dX11_taken_66 : decode cX11_taken 66 = .ok (.getfield 466, 3) := by decide +kernel
theorem dX11_taken_69 : decode cX11_taken 69 = .ok (.iload_n 1, 1) := by decide +kernel
theorem dX11_taken_70 : decode cX11_taken 70 = .ok (.iaload, 1) := by decide +kernel
theorem dX11_taken_71 : decode cX11_taken 71 = .ok (.iload_n 2, 1) := by decide +kernel
theorem dX11_taken_72 : decode cX11_taken 72 = .ok (.bipush 10, 2) := by decide +kernel
theorem dX11_taken_74 : decode cX11_taken 74 = .ok (.isub, 1) := by decide +kernel
theorem dX11_taken_75 : decode cX11_taken 75 = .ok (.if_icmp .ne 8, 3) := by decide +kernel
theorem dX11_taken_78 : decode cX11_taken 78 = .ok (.iload 4, 2) := by decide +kernel
theorem dX11_taken_80 : decode cX11_taken 80 = .ok (.goto 5, 3) := by decide +kernel
theorem dX11_taken_83 : decode cX11_taken 83 = .ok (.bipush (-13), 2) := by decide +kernel
theorem dX11_taken_85 : decode cX11_taken 85 = .ok (.ireturn, 1) := by decide +kernel
theorem dX11_taken_86 : decode cX11_taken 86 = .ok (.aload_n 0, 1) := by decide +kernel
theorem dX11_taken_87 : decode cX11_taken 87 = .ok (.getfield 83, 3) := by decide +kernel
theorem dX11_taken_90 : decode cX11_taken 90 = .ok (.getfield 463, 3) := by decide +kernel
theorem dX11_taken_93 : decode cX11_taken 93 = .ok (.iload_n 1, 1) := by decide +kernel
theorem dX11_taken_94 : decode cX11_taken 94 = .ok (.iaload, 1) := by decide +kernel
theorem dX11_taken_95 : decode cX11_taken 95 = .ok (.ifCond .eq 15, 3) := by decide +kernel
theorem dX11_taken_98 : decode cX11_taken 98 = .ok (.aload_n 0, 1) := by decide +kernel
theorem dX11_taken_99 : decode cX11_taken 99 = .ok (.getfield 10, 3) := by decide +kernel
theorem dX11_taken_102 : decode cX11_taken 102 = .ok (.iload 4, 2) := by decide +kernel
theorem dX11_taken_104 : decode cX11_taken 104 = .ok (.invokevirtual 137, 3) := by decide +kernel
theorem dX11_taken_107 : decode cX11_taken 107 = .ok (.ifCond .ne 6, 3) := by decide +kernel
theorem dX11_taken_110 : decode cX11_taken 110 = .ok (.bipush (-11), 2) := by decide +kernel
theorem dX11_taken_112 : decode cX11_taken 112 = .ok (.ireturn, 1) := by decide +kernel
theorem dX11_taken_113 : decode cX11_taken 113 = .ok (.iload_n 3, 1) := by decide +kernel
theorem dX11_taken_114 : decode cX11_taken 114 = .ok (.ifCond .ne 25, 3) := by decide +kernel
theorem dX11_taken_117 : decode cX11_taken 117 = .ok (.aload_n 0, 1) := by decide +kernel
theorem dX11_taken_118 : decode cX11_taken 118 = .ok (.getfield 10, 3) := by decide +kernel
theorem dX11_taken_121 : decode cX11_taken 121 = .ok (.getfield 140, 3) := by decide +kernel
theorem dX11_taken_124 : decode cX11_taken 124 = .ok (.iload 4, 2) := by decide +kernel
theorem dX11_taken_126 : decode cX11_taken 126 = .ok (.iaload, 1) := by decide +kernel
theorem dX11_taken_127 : decode cX11_taken 127 = .ok (.iload_n 2, 1) := by decide +kernel
theorem dX11_taken_128 : decode cX11_taken 128 = .ok (.invokestatic 467, 3) := by decide +kernel
theorem dX11_taken_131 : decode cX11_taken 131 = .ok (.ifCond .eq 8, 3) := by decide +kernel
theorem dX11_taken_134 : decode cX11_taken 134 = .ok (.iload 4, 2) := by decide +kernel
theorem dX11_taken_136 : decode cX11_taken 136 = .ok (.goto 5, 3) := by decide +kernel
theorem dX11_taken_139 : decode cX11_taken 139 = .ok (.bipush (-13), 2) := by decide +kernel
theorem dX11_taken_141 : decode cX11_taken 141 = .ok (.ireturn, 1) := by decide +kernel
theorem dX11_image_0 : decode cX11_image 0 = .ok (.aload_n 0, 1) := by decide +kernel
theorem dX11_image_1 : decode cX11_image 1 = .ok (.getfield 19, 3) := by decide +kernel
theorem dX11_image_4 : decode cX11_image 4 = .ok (.aload_n 0, 1) := by decide +kernel
theorem dX11_image_5 : decode cX11_image 5 = .ok (.getfield 10, 3) := by decide +kernel
theorem dX11_image_8 : decode cX11_image 8 = .ok (.invokevirtual 365, 3) := by decide +kernel
theorem dX11_image_11 : decode cX11_image 11 = .ok (.aload_n 0, 1) := by decide +kernel
theorem dX11_image_12 : decode cX11_image 12 = .ok (.aload_n 0, 1) := by decide +kernel
theorem dX11_image_13 : decode cX11_image 13 = .ok (.getfield 97, 3) := by decide +kernel
theorem dX11_image_16 : decode cX11_image 16 = .ok (.putfield 101, 3) := by decide +kernel
theorem dX11_image_19 : decode cX11_image 19 = .ok (.aload_n 0, 1) := by decide +kernel
theorem dX11_image_20 : decode cX11_image 20 = .ok (.iconst 1, 1) := by decide +kernel
theorem dX11_image_21 : decode cX11_image 21 = .ok (.putfield 104, 3) := by decide +kernel
theorem dX11_image_24 : decode cX11_image 24 = .ok (.aload_n 0, 1) := by decide +kernel
theorem dX11_image_25 : decode cX11_image 25 = .ok (.getfield 10, 3) := by decide +kernel
theorem dX11_image_28 : decode cX11_image 28 = .ok (.getfield 115, 3) := by decide +kernel
theorem dX11_image_31 : decode cX11_image 31 = .ok (.ireturn, 1) := by decide +kernel
theorem dX11_back_0 : decode cX11_back 0 = .ok (.aload_n 0, 1) := by decide +kernel
theorem dX11_back_1 : decode cX11_back 1 = .ok (.getfield 104, 3) := by decide +kernel
theorem dX11_back_4 : decode cX11_back 4 = .ok (.ifCond .ne 6, 3) := by decide +kernel
theorem dX11_back_7 : decode cX11_back 7 = .ok (.bipush (-3), 2) := by decide +kernel
theorem dX11_back_9 : decode cX11_back 9 = .ok (.ireturn, 1) := by decide +kernel
theorem dX11_back_10 : decode cX11_back 10 = .ok (.aload_n 0, 1) := by decide +kernel
theorem dX11_back_11 : decode cX11_back 11 = .ok (.getfield 10, 3) := by decide +kernel
theorem dX11_back_14 : decode cX11_back 14 = .ok (.aload_n 0, 1) := by decide +kernel
theorem dX11_back_15 : decode cX11_back 15 = .ok (.getfield 19, 3) := by decide +kernel
theorem dX11_back_18 : decode cX11_back 18 = .ok (.invokevirtual 365, 3) := by decide +kernel
theorem dX11_back_21 : decode cX11_back 21 = .ok (.aload_n 0, 1) := by decide +kernel
theorem dX11_back_22 : decode cX11_back 22 = .ok (.aload_n 0, 1) := by decide +kernel
theorem dX11_back_23 : decode cX11_back 23 = .ok (.getfield 101, 3) := by decide +kernel
theorem dX11_back_26 : decode cX11_back 26 = .ok (.putfield 97, 3) := by decide +kernel
theorem dX11_back_29 : decode cX11_back 29 = .ok (.aload_n 0, 1) := by decide +kernel
theorem dX11_back_30 : decode cX11_back 30 = .ok (.getfield 10, 3) := by decide +kernel
theorem dX11_back_33 : decode cX11_back 33 = .ok (.getfield 115, 3) := by decide +kernel
theorem dX11_back_36 : decode cX11_back 36 = .ok (.ireturn, 1) := by decide +kernel
theorem dX11_within_0 : decode cX11_within 0 = .ok (.iload_n 0, 1) := by decide +kernel
theorem dX11_within_1 : decode cX11_within 1 = .ok (.iload_n 1, 1) := by decide +kernel
theorem dX11_within_2 : decode cX11_within 2 = .ok (.if_icmp .lt 12, 3) := by decide +kernel
theorem dX11_within_5 : decode cX11_within 5 = .ok (.iload_n 0, 1) := by decide +kernel
theorem dX11_within_6 : decode cX11_within 6 = .ok (.iload_n 2, 1) := by decide +kernel
theorem dX11_within_7 : decode cX11_within 7 = .ok (.if_icmp .gt 7, 3) := by decide +kernel
theorem dX11_within_10 : decode cX11_within 10 = .ok (.iconst 1, 1) := by decide +kernel
theorem dX11_within_11 : decode cX11_within 11 = .ok (.goto 4, 3) := by decide +kernel
theorem dX11_within_14 : decode cX11_within 14 = .ok (.iconst 0, 1) := by decide +kernel
theorem dX11_within_15 : decode cX11_within 15 = .ok (.ireturn, 1) := by decide +kernel
theorem dX11_isKind_0 : decode cX11_isKind 0 = .ok (.iload_n 0, 1) := by decide +kernel
theorem dX11_isKind_1 : decode cX11_isKind 1 = .ok (.iconst 0, 1) := by decide +kernel
theorem dX11_isKind_2 : decode cX11_isKind 2 = .ok (.iconst 5, 1) := by decide +kernel
theorem dX11_isKind_3 : decode cX11_isKind 3 = .ok (.invokestatic 126, 3) := by decide +kernel
theorem dX11_isKind_6 : decode cX11_isKind 6 = .ok (.ireturn, 1) := by decide +kernel
theorem dX11_isWeight_0 : decode cX11_isWeight 0 = .ok (.iload_n 0, 1) := by decide +kernel
theorem dX11_isWeight_1 : decode cX11_isWeight 1 = .ok (.iconst 1, 1) := by decide +kernel
theorem dX11_isWeight_2 : decode cX11_isWeight 2 = .ok (.bipush 9, 2) := by decide +kernel
theorem dX11_isWeight_4 : decode cX11_isWeight 4 = .ok (.invokestatic 126, 3) := by decide +kernel
theorem dX11_isWeight_7 : decode cX11_isWeight 7 = .ok (.ireturn, 1) := by decide +kernel
theorem dX11_isK_0 : decode cX11_isK 0 = .ok (.iload_n 0, 1) := by decide +kernel
theorem dX11_isK_1 : decode cX11_isK 1 = .ok (.iconst 0, 1) := by decide +kernel
theorem dX11_isK_2 : decode cX11_isK 2 = .ok (.bipush 12, 2) := by decide +kernel
theorem dX11_isK_4 : decode cX11_isK 4 = .ok (.invokestatic 126, 3) := by decide +kernel
theorem dX11_isK_7 : decode cX11_isK 7 = .ok (.ireturn, 1) := by decide +kernel
theorem dX11_isUnderOrLike_0 : decode cX11_isUnderOrLike 0 = .ok (.iload_n 0, 1) := by decide +kernel
theorem dX11_isUnderOrLike_1 : decode cX11_isUnderOrLike 1 = .ok (.istore_n 2, 1) := by decide +kernel
theorem dX11_isUnderOrLike_2 : decode cX11_isUnderOrLike 2 = .ok (.iconst 0, 1) := by decide +kernel
theorem dX11_isUnderOrLike_3 : decode cX11_isUnderOrLike 3 = .ok (.istore_n 3, 1) := by decide +kernel
theorem dX11_isUnderOrLike_4 : decode cX11_isUnderOrLike 4 = .ok (.iload_n 3, 1) := by decide +kernel
theorem dX11_isUnderOrLike_5 : decode cX11_isUnderOrLike 5 = .ok (.bipush 6, 2) := by decide +kernel
theorem dX11_isUnderOrLike_7 : decode cX11_isUnderOrLike 7 = .ok (.if_icmp .ge 29, 3) := by decide +kernel
theorem dX11_isUnderOrLike_10 : decode cX11_isUnderOrLike 10 = .ok (.iload_n 2, 1) := by decide +kernel
theorem dX11_isUnderOrLike_11 : decode cX11_isUnderOrLike 11 = .ok (.invokestatic 108, 3) := by decide +kernel
theorem dX11_isUnderOrLike_14 : decode cX11_isUnderOrLike 14 = .ok (.ifCond .eq 22, 3) := by decide +kernel
theorem dX11_isUnderOrLike_17 : decode cX11_isUnderOrLike 17 = .ok (.iload_n 2, 1) := by decide +kernel
theorem dX11_isUnderOrLike_18 : decode cX11_isUnderOrLike 18 = .ok (.iload_n 1, 1) := by decide +kernel
theorem dX11_isUnderOrLike_19 : decode cX11_isUnderOrLike 19 = .ok (.if_icmp .ne 5, 3) := by decide +kernel
theorem dX11_isUnderOrLike_22 : decode cX11_isUnderOrLike 22 = .ok (.iconst 1, 1) := by decide +kernel
theorem dX11_isUnderOrLike_23 : decode cX11_isUnderOrLike 23 = .ok (.ireturn, 1) := by decide +kernel
theorem dX11_isUnderOrLike_24 : decode cX11_isUnderOrLike 24 = .ok (.getstatic 470, 3) := by decide +kernel
theorem dX11_isUnderOrLike_27 : decode cX11_isUnderOrLike 27 = .ok (.iload_n 2, 1) := by decide +kernel
theorem dX11_isUnderOrLike_28 : decode cX11_isUnderOrLike 28 = .ok (.iaload, 1) := by decide +kernel
theorem dX11_isUnderOrLike_29 : decode cX11_isUnderOrLike 29 = .ok (.istore_n 2, 1) := by decide +kernel
theorem dX11_isUnderOrLike_30 : decode cX11_isUnderOrLike 30 = .ok (.iinc 3 1, 3) := by decide +kernel
theorem dX11_isUnderOrLike_33 : decode cX11_isUnderOrLike 33 = .ok (.goto (-29), 3) := by decide +kernel
theorem dX11_isUnderOrLike_36 : decode cX11_isUnderOrLike 36 = .ok (.iconst 0, 1) := by decide +kernel
theorem dX11_isUnderOrLike_37 : decode cX11_isUnderOrLike 37 = .ok (.ireturn, 1) := by decide +kernel
theorem dX11_priceBy_0 : decode cX11_priceBy 0 = .ok (.iconst 1, 1) := by decide +kernel
theorem dX11_priceBy_1 : decode cX11_priceBy 1 = .ok (.iload_n 1, 1) := by decide +kernel
theorem dX11_priceBy_2 : decode cX11_priceBy 2 = .ok (.iload_n 2, 1) := by decide +kernel
theorem dX11_priceBy_3 : decode cX11_priceBy 3 = .ok (.iadd, 1) := by decide +kernel
theorem dX11_priceBy_4 : decode cX11_priceBy 4 = .ok (.iconst 2, 1) := by decide +kernel
theorem dX11_priceBy_5 : decode cX11_priceBy 5 = .ok (.isub, 1) := by decide +kernel
theorem dX11_priceBy_6 : decode cX11_priceBy 6 = .ok (.invokestatic 382, 3) := by decide +kernel
theorem dX11_priceBy_9 : decode cX11_priceBy 9 = .ok (.istore 4, 2) := by decide +kernel
theorem dX11_priceBy_11 : decode cX11_priceBy 11 = .ok (.iload_n 0, 1) := by decide +kernel
theorem dX11_priceBy_12 : decode cX11_priceBy 12 = .ok (.tableswitch 60 1 5 #[36, 40, 44, 47, 53], 36) := by decide +kernel
theorem dX11_priceBy_48 : decode cX11_priceBy 48 = .ok (.iload_n 1, 1) := by decide +kernel
theorem dX11_priceBy_49 : decode cX11_priceBy 49 = .ok (.iload_n 2, 1) := by decide +kernel
theorem dX11_priceBy_50 : decode cX11_priceBy 50 = .ok (.iadd, 1) := by decide +kernel
theorem dX11_priceBy_51 : decode cX11_priceBy 51 = .ok (.ireturn, 1) := by decide +kernel
theorem dX11_priceBy_52 : decode cX11_priceBy 52 = .ok (.iconst 2, 1) := by decide +kernel
theorem dX11_priceBy_53 : decode cX11_priceBy 53 = .ok (.iload_n 1, 1) := by decide +kernel
theorem dX11_priceBy_54 : decode cX11_priceBy 54 = .ok (.imul, 1) := by decide +kernel
theorem dX11_priceBy_55 : decode cX11_priceBy 55 = .ok (.ireturn, 1) := by decide +kernel
theorem dX11_priceBy_56 : decode cX11_priceBy 56 = .ok (.iload 4, 2) := by decide +kernel
theorem dX11_priceBy_58 : decode cX11_priceBy 58 = .ok (.ireturn, 1) := by decide +kernel
theorem dX11_priceBy_59 : decode cX11_priceBy 59 = .ok (.iconst 2, 1) := by decide +kernel
theorem dX11_priceBy_60 : decode cX11_priceBy 60 = .ok (.iload_n 1, 1) := by decide +kernel
theorem dX11_priceBy_61 : decode cX11_priceBy 61 = .ok (.imul, 1) := by decide +kernel
theorem dX11_priceBy_62 : decode cX11_priceBy 62 = .ok (.iload_n 3, 1) := by decide +kernel
theorem dX11_priceBy_63 : decode cX11_priceBy 63 = .ok (.iadd, 1) := by decide +kernel
theorem dX11_priceBy_64 : decode cX11_priceBy 64 = .ok (.ireturn, 1) := by decide +kernel
theorem dX11_priceBy_65 : decode cX11_priceBy 65 = .ok (.iload 4, 2) := by decide +kernel
theorem dX11_priceBy_67 : decode cX11_priceBy 67 = .ok (.iconst 2, 1) := by decide +kernel
theorem dX11_priceBy_68 : decode cX11_priceBy 68 = .ok (.idiv, 1) := by decide +kernel
theorem dX11_priceBy_69 : decode cX11_priceBy 69 = .ok (.iconst 1, 1) := by decide +kernel
theorem dX11_priceBy_70 : decode cX11_priceBy 70 = .ok (.iadd, 1) := by decide +kernel
theorem dX11_priceBy_71 : decode cX11_priceBy 71 = .ok (.ireturn, 1) := by decide +kernel
theorem dX11_priceBy_72 : decode cX11_priceBy 72 = .ok (.iload_n 1, 1) := by decide +kernel
theorem dX11_priceBy_73 : decode cX11_priceBy 73 = .ok (.ireturn, 1) := by decide +kernel
