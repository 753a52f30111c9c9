/-! What stands at each pc of the reference's methods. -/
theorem d_8_1_0 : decode prog_8_method_1_code 0 = .ok (.aload_n 0, 1) := by decide +kernel
theorem d_8_1_1 : decode prog_8_method_1_code 1 = .ok (.invokespecial 1, 3) := by decide +kernel
theorem d_8_1_4 : decode prog_8_method_1_code 4 = .ok (.aload_n 0, 1) := by decide +kernel
theorem d_8_1_5 : decode prog_8_method_1_code 5 = .ok (.bipush 30, 2) := by decide +kernel
theorem d_8_1_7 : decode prog_8_method_1_code 7 = .ok (.newarray .char, 2) := by decide +kernel
theorem d_8_1_9 : decode prog_8_method_1_code 9 = .ok (.putfield 7, 3) := by decide +kernel
theorem d_8_1_12 : decode prog_8_method_1_code 12 = .ok (.aload_n 0, 1) := by decide +kernel
theorem d_8_1_13 : decode prog_8_method_1_code 13 = .ok (.bipush 15, 2) := by decide +kernel
theorem d_8_1_15 : decode prog_8_method_1_code 15 = .ok (.newarray .int, 2) := by decide +kernel
theorem d_8_1_17 : decode prog_8_method_1_code 17 = .ok (.putfield 13, 3) := by decide +kernel
theorem d_8_1_20 : decode prog_8_method_1_code 20 = .ok (.aload_n 0, 1) := by decide +kernel
theorem d_8_1_21 : decode prog_8_method_1_code 21 = .ok (.bipush 15, 2) := by decide +kernel
theorem d_8_1_23 : decode prog_8_method_1_code 23 = .ok (.newarray .int, 2) := by decide +kernel
theorem d_8_1_25 : decode prog_8_method_1_code 25 = .ok (.putfield 17, 3) := by decide +kernel
theorem d_8_1_28 : decode prog_8_method_1_code 28 = .ok (.aload_n 0, 1) := by decide +kernel
theorem d_8_1_29 : decode prog_8_method_1_code 29 = .ok (.bipush 6, 2) := by decide +kernel
theorem d_8_1_31 : decode prog_8_method_1_code 31 = .ok (.newarray .int, 2) := by decide +kernel
theorem d_8_1_33 : decode prog_8_method_1_code 33 = .ok (.putfield 20, 3) := by decide +kernel
theorem d_8_1_36 : decode prog_8_method_1_code 36 = .ok (.aload_n 0, 1) := by decide +kernel
theorem d_8_1_37 : decode prog_8_method_1_code 37 = .ok (.bipush 6, 2) := by decide +kernel
theorem d_8_1_39 : decode prog_8_method_1_code 39 = .ok (.newarray .int, 2) := by decide +kernel
theorem d_8_1_41 : decode prog_8_method_1_code 41 = .ok (.putfield 23, 3) := by decide +kernel
theorem d_8_1_44 : decode prog_8_method_1_code 44 = .ok (.aload_n 0, 1) := by decide +kernel
theorem d_8_1_45 : decode prog_8_method_1_code 45 = .ok (.bipush 6, 2) := by decide +kernel
theorem d_8_1_47 : decode prog_8_method_1_code 47 = .ok (.newarray .int, 2) := by decide +kernel
theorem d_8_1_49 : decode prog_8_method_1_code 49 = .ok (.putfield 26, 3) := by decide +kernel
theorem d_8_1_52 : decode prog_8_method_1_code 52 = .ok (.aload_n 0, 1) := by decide +kernel
theorem d_8_1_53 : decode prog_8_method_1_code 53 = .ok (.bipush 36, 2) := by decide +kernel
theorem d_8_1_55 : decode prog_8_method_1_code 55 = .ok (.newarray .long, 2) := by decide +kernel
theorem d_8_1_57 : decode prog_8_method_1_code 57 = .ok (.putfield 29, 3) := by decide +kernel
theorem d_8_1_60 : decode prog_8_method_1_code 60 = .ok (.aload_n 0, 1) := by decide +kernel
theorem d_8_1_61 : decode prog_8_method_1_code 61 = .ok (.bipush 8, 2) := by decide +kernel
theorem d_8_1_63 : decode prog_8_method_1_code 63 = .ok (.newarray .int, 2) := by decide +kernel
theorem d_8_1_65 : decode prog_8_method_1_code 65 = .ok (.putfield 33, 3) := by decide +kernel
theorem d_8_1_68 : decode prog_8_method_1_code 68 = .ok (.aload_n 0, 1) := by decide +kernel
theorem d_8_1_69 : decode prog_8_method_1_code 69 = .ok (.bipush 8, 2) := by decide +kernel
theorem d_8_1_71 : decode prog_8_method_1_code 71 = .ok (.newarray .int, 2) := by decide +kernel
theorem d_8_1_73 : decode prog_8_method_1_code 73 = .ok (.putfield 36, 3) := by decide +kernel
theorem d_8_1_76 : decode prog_8_method_1_code 76 = .ok (.aload_n 0, 1) := by decide +kernel
theorem d_8_1_77 : decode prog_8_method_1_code 77 = .ok (.bipush 32, 2) := by decide +kernel
theorem d_8_1_79 : decode prog_8_method_1_code 79 = .ok (.newarray .int, 2) := by decide +kernel
theorem d_8_1_81 : decode prog_8_method_1_code 81 = .ok (.putfield 39, 3) := by decide +kernel
theorem d_8_1_84 : decode prog_8_method_1_code 84 = .ok (.aload_n 0, 1) := by decide +kernel
theorem d_8_1_85 : decode prog_8_method_1_code 85 = .ok (.bipush 8, 2) := by decide +kernel
theorem d_8_1_87 : decode prog_8_method_1_code 87 = .ok (.newarray .int, 2) := by decide +kernel
theorem d_8_1_89 : decode prog_8_method_1_code 89 = .ok (.putfield 42, 3) := by decide +kernel
theorem d_8_1_92 : decode prog_8_method_1_code 92 = .ok (.aload_n 0, 1) := by decide +kernel
theorem d_8_1_93 : decode prog_8_method_1_code 93 = .ok (.bipush 32, 2) := by decide +kernel
theorem d_8_1_95 : decode prog_8_method_1_code 95 = .ok (.newarray .int, 2) := by decide +kernel
theorem d_8_1_97 : decode prog_8_method_1_code 97 = .ok (.putfield 45, 3) := by decide +kernel
theorem d_8_1_100 : decode prog_8_method_1_code 100 = .ok (.aload_n 0, 1) := by decide +kernel
theorem d_8_1_101 : decode prog_8_method_1_code 101 = .ok (.bipush 8, 2) := by decide +kernel
theorem d_8_1_103 : decode prog_8_method_1_code 103 = .ok (.newarray .int, 2) := by decide +kernel
theorem d_8_1_105 : decode prog_8_method_1_code 105 = .ok (.putfield 48, 3) := by decide +kernel
theorem d_8_1_108 : decode prog_8_method_1_code 108 = .ok (.aload_n 0, 1) := by decide +kernel
theorem d_8_1_109 : decode prog_8_method_1_code 109 = .ok (.bipush 8, 2) := by decide +kernel
theorem d_8_1_111 : decode prog_8_method_1_code 111 = .ok (.newarray .int, 2) := by decide +kernel
theorem d_8_1_113 : decode prog_8_method_1_code 113 = .ok (.putfield 51, 3) := by decide +kernel
theorem d_8_1_116 : decode prog_8_method_1_code 116 = .ok (.aload_n 0, 1) := by decide +kernel
theorem d_8_1_117 : decode prog_8_method_1_code 117 = .ok (.sipush 288, 3) := by decide +kernel
theorem d_8_1_120 : decode prog_8_method_1_code 120 = .ok (.newarray .int, 2) := by decide +kernel
theorem d_8_1_122 : decode prog_8_method_1_code 122 = .ok (.putfield 54, 3) := by decide +kernel
theorem d_8_1_125 : decode prog_8_method_1_code 125 = .ok (.aload_n 0, 1) := by decide +kernel
theorem d_8_1_126 : decode prog_8_method_1_code 126 = .ok (.bipush 32, 2) := by decide +kernel
theorem d_8_1_128 : decode prog_8_method_1_code 128 = .ok (.newarray .long, 2) := by decide +kernel
theorem d_8_1_130 : decode prog_8_method_1_code 130 = .ok (.putfield 57, 3) := by decide +kernel
theorem d_8_1_133 : decode prog_8_method_1_code 133 = .ok (.aload_n 0, 1) := by decide +kernel
theorem d_8_1_134 : decode prog_8_method_1_code 134 = .ok (.sipush 288, 3) := by decide +kernel
theorem d_8_1_137 : decode prog_8_method_1_code 137 = .ok (.newarray .long, 2) := by decide +kernel
theorem d_8_1_139 : decode prog_8_method_1_code 139 = .ok (.putfield 60, 3) := by decide +kernel
theorem d_8_1_142 : decode prog_8_method_1_code 142 = .ok (.aload_n 0, 1) := by decide +kernel
theorem d_8_1_143 : decode prog_8_method_1_code 143 = .ok (.bipush 8, 2) := by decide +kernel
theorem d_8_1_145 : decode prog_8_method_1_code 145 = .ok (.newarray .boolean, 2) := by decide +kernel
theorem d_8_1_147 : decode prog_8_method_1_code 147 = .ok (.putfield 63, 3) := by decide +kernel
theorem d_8_1_150 : decode prog_8_method_1_code 150 = .ok (.aload_n 0, 1) := by decide +kernel
theorem d_8_1_151 : decode prog_8_method_1_code 151 = .ok (.bipush 8, 2) := by decide +kernel
theorem d_8_1_153 : decode prog_8_method_1_code 153 = .ok (.newarray .boolean, 2) := by decide +kernel
theorem d_8_1_155 : decode prog_8_method_1_code 155 = .ok (.putfield 67, 3) := by decide +kernel
theorem d_8_1_158 : decode prog_8_method_1_code 158 = .ok (.aload_n 0, 1) := by decide +kernel
theorem d_8_1_159 : decode prog_8_method_1_code 159 = .ok (.bipush 8, 2) := by decide +kernel
theorem d_8_1_161 : decode prog_8_method_1_code 161 = .ok (.newarray .int, 2) := by decide +kernel
theorem d_8_1_163 : decode prog_8_method_1_code 163 = .ok (.putfield 70, 3) := by decide +kernel
theorem d_8_1_166 : decode prog_8_method_1_code 166 = .ok (.aload_n 0, 1) := by decide +kernel
theorem d_8_1_167 : decode prog_8_method_1_code 167 = .ok (.bipush 8, 2) := by decide +kernel
theorem d_8_1_169 : decode prog_8_method_1_code 169 = .ok (.newarray .int, 2) := by decide +kernel
theorem d_8_1_171 : decode prog_8_method_1_code 171 = .ok (.putfield 73, 3) := by decide +kernel
theorem d_8_1_174 : decode prog_8_method_1_code 174 = .ok (.aload_n 0, 1) := by decide +kernel
theorem d_8_1_175 : decode prog_8_method_1_code 175 = .ok (.bipush 20, 2) := by decide +kernel
theorem d_8_1_177 : decode prog_8_method_1_code 177 = .ok (.newarray .int, 2) := by decide +kernel
theorem d_8_1_179 : decode prog_8_method_1_code 179 = .ok (.putfield 76, 3) := by decide +kernel
theorem d_8_1_182 : decode prog_8_method_1_code 182 = .ok (.return_, 1) := by decide +kernel
theorem d_8_2_0 : decode prog_8_method_2_code 0 = .ok (.aload_n 0, 1) := by decide +kernel
theorem d_8_2_1 : decode prog_8_method_2_code 1 = .ok (.getfield 79, 3) := by decide +kernel
theorem d_8_2_4 : decode prog_8_method_2_code 4 = .ok (.ireturn, 1) := by decide +kernel
theorem d_8_4_0 : decode prog_8_method_4_code 0 = .ok (.aload_n 0, 1) := by decide +kernel
theorem d_8_4_1 : decode prog_8_method_4_code 1 = .ok (.iconst 0, 1) := by decide +kernel
theorem d_8_4_2 : decode prog_8_method_4_code 2 = .ok (.putfield 79, 3) := by decide +kernel
theorem d_8_4_5 : decode prog_8_method_4_code 5 = .ok (.iload_n 1, 1) := by decide +kernel
theorem d_8_4_6 : decode prog_8_method_4_code 6 = .ok (.bipush 32, 2) := by decide +kernel
theorem d_8_4_8 : decode prog_8_method_4_code 8 = .ok (.if_icmp .lt 18, 3) := by decide +kernel
theorem d_8_4_11 : decode prog_8_method_4_code 11 = .ok (.iload_n 1, 1) := by decide +kernel
theorem d_8_4_12 : decode prog_8_method_4_code 12 = .ok (.bipush 126, 2) := by decide +kernel
theorem d_8_4_14 : decode prog_8_method_4_code 14 = .ok (.if_icmp .gt 12, 3) := by decide +kernel
theorem d_8_4_17 : decode prog_8_method_4_code 17 = .ok (.aload_n 0, 1) := by decide +kernel
theorem d_8_4_18 : decode prog_8_method_4_code 18 = .ok (.getfield 83, 3) := by decide +kernel
theorem d_8_4_21 : decode prog_8_method_4_code 21 = .ok (.bipush 30, 2) := by decide +kernel
theorem d_8_4_23 : decode prog_8_method_4_code 23 = .ok (.if_icmp .lt 5, 3) := by decide +kernel
theorem d_8_4_26 : decode prog_8_method_4_code 26 = .ok (.iconst 0, 1) := by decide +kernel
theorem d_8_4_27 : decode prog_8_method_4_code 27 = .ok (.ireturn, 1) := by decide +kernel
theorem d_8_4_28 : decode prog_8_method_4_code 28 = .ok (.aload_n 0, 1) := by decide +kernel
theorem d_8_4_29 : decode prog_8_method_4_code 29 = .ok (.getfield 7, 3) := by decide +kernel
theorem d_8_4_32 : decode prog_8_method_4_code 32 = .ok (.aload_n 0, 1) := by decide +kernel
theorem d_8_4_33 : decode prog_8_method_4_code 33 = .ok (.getfield 83, 3) := by decide +kernel
theorem d_8_4_36 : decode prog_8_method_4_code 36 = .ok (.iload_n 1, 1) := by decide +kernel
theorem d_8_4_37 : decode prog_8_method_4_code 37 = .ok (.castore, 1) := by decide +kernel
theorem d_8_4_38 : decode prog_8_method_4_code 38 = .ok (.aload_n 0, 1) := by decide +kernel
theorem d_8_4_39 : decode prog_8_method_4_code 39 = .ok (.dup, 1) := by decide +kernel
theorem d_8_4_40 : decode prog_8_method_4_code 40 = .ok (.getfield 83, 3) := by decide +kernel
theorem d_8_4_43 : decode prog_8_method_4_code 43 = .ok (.iconst 1, 1) := by decide +kernel
theorem d_8_4_44 : decode prog_8_method_4_code 44 = .ok (.iadd, 1) := by decide +kernel
theorem d_8_4_45 : decode prog_8_method_4_code 45 = .ok (.putfield 83, 3) := by decide +kernel
theorem d_8_4_48 : decode prog_8_method_4_code 48 = .ok (.iconst 1, 1) := by decide +kernel
theorem d_8_4_49 : decode prog_8_method_4_code 49 = .ok (.ireturn, 1) := by decide +kernel
theorem d_8_13_0 : decode prog_8_method_13_code 0 = .ok (.aload_n 0, 1) := by decide +kernel
theorem d_8_13_1 : decode prog_8_method_13_code 1 = .ok (.iconst 0, 1) := by decide +kernel
theorem d_8_13_2 : decode prog_8_method_13_code 2 = .ok (.putfield 79, 3) := by decide +kernel
theorem d_8_13_5 : decode prog_8_method_13_code 5 = .ok (.aload_n 0, 1) := by decide +kernel
theorem d_8_13_6 : decode prog_8_method_13_code 6 = .ok (.invokevirtual 101, 3) := by decide +kernel
theorem d_8_13_9 : decode prog_8_method_13_code 9 = .ok (.aload_n 0, 1) := by decide +kernel
theorem d_8_13_10 : decode prog_8_method_13_code 10 = .ok (.getfield 86, 3) := by decide +kernel
theorem d_8_13_13 : decode prog_8_method_13_code 13 = .ok (.ifCond .ne 5, 3) := by decide +kernel
theorem d_8_13_16 : decode prog_8_method_13_code 16 = .ok (.iconst 0, 1) := by decide +kernel
theorem d_8_13_17 : decode prog_8_method_13_code 17 = .ok (.ireturn, 1) := by decide +kernel
theorem d_8_13_18 : decode prog_8_method_13_code 18 = .ok (.iconst (-1), 1) := by decide +kernel
theorem d_8_13_19 : decode prog_8_method_13_code 19 = .ok (.istore_n 1, 1) := by decide +kernel
theorem d_8_13_20 : decode prog_8_method_13_code 20 = .ok (.aload_n 0, 1) := by decide +kernel
theorem d_8_13_21 : decode prog_8_method_13_code 21 = .ok (.iconst 0, 1) := by decide +kernel
theorem d_8_13_22 : decode prog_8_method_13_code 22 = .ok (.bipush 97, 2) := by decide +kernel
theorem d_8_13_24 : decode prog_8_method_13_code 24 = .ok (.bipush 114, 2) := by decide +kernel
theorem d_8_13_26 : decode prog_8_method_13_code 26 = .ok (.bipush 99, 2) := by decide +kernel
theorem d_8_13_28 : decode prog_8_method_13_code 28 = .ok (.bipush 104, 2) := by decide +kernel
theorem d_8_13_30 : decode prog_8_method_13_code 30 = .ok (.invokevirtual 104, 3) := by decide +kernel
theorem d_8_13_33 : decode prog_8_method_13_code 33 = .ok (.ifCond .eq 51, 3) := by decide +kernel
theorem d_8_13_36 : decode prog_8_method_13_code 36 = .ok (.aload_n 0, 1) := by decide +kernel
theorem d_8_13_37 : decode prog_8_method_13_code 37 = .ok (.iconst 0, 1) := by decide +kernel
theorem d_8_13_38 : decode prog_8_method_13_code 38 = .ok (.bipush 7, 2) := by decide +kernel
theorem d_8_13_40 : decode prog_8_method_13_code 40 = .ok (.invokevirtual 108, 3) := by decide +kernel
theorem d_8_13_43 : decode prog_8_method_13_code 43 = .ok (.ifCond .eq 41, 3) := by decide +kernel
theorem d_8_13_46 : decode prog_8_method_13_code 46 = .ok (.aload_n 0, 1) := by decide +kernel
theorem d_8_13_47 : decode prog_8_method_13_code 47 = .ok (.getfield 7, 3) := by decide +kernel
theorem d_8_13_50 : decode prog_8_method_13_code 50 = .ok (.aload_n 0, 1) := by decide +kernel
theorem d_8_13_51 : decode prog_8_method_13_code 51 = .ok (.getfield 13, 3) := by decide +kernel
theorem d_8_13_54 : decode prog_8_method_13_code 54 = .ok (.iconst 0, 1) := by decide +kernel
theorem d_8_13_55 : decode prog_8_method_13_code 55 = .ok (.iaload, 1) := by decide +kernel
theorem d_8_13_56 : decode prog_8_method_13_code 56 = .ok (.iconst 4, 1) := by decide +kernel
theorem d_8_13_57 : decode prog_8_method_13_code 57 = .ok (.iadd, 1) := by decide +kernel
theorem d_8_13_58 : decode prog_8_method_13_code 58 = .ok (.caload, 1) := by decide +kernel
theorem d_8_13_59 : decode prog_8_method_13_code 59 = .ok (.bipush 105, 2) := by decide +kernel
theorem d_8_13_61 : decode prog_8_method_13_code 61 = .ok (.if_icmp .ne 23, 3) := by decide +kernel
theorem d_8_13_64 : decode prog_8_method_13_code 64 = .ok (.aload_n 0, 1) := by decide +kernel
theorem d_8_13_65 : decode prog_8_method_13_code 65 = .ok (.iconst 0, 1) := by decide +kernel
theorem d_8_13_66 : decode prog_8_method_13_code 66 = .ok (.bipush 118, 2) := by decide +kernel
theorem d_8_13_68 : decode prog_8_method_13_code 68 = .ok (.bipush 101, 2) := by decide +kernel
theorem d_8_13_70 : decode prog_8_method_13_code 70 = .ok (.invokevirtual 112, 3) := by decide +kernel
theorem d_8_13_73 : decode prog_8_method_13_code 73 = .ok (.ifCond .eq 11, 3) := by decide +kernel
theorem d_8_13_76 : decode prog_8_method_13_code 76 = .ok (.aload_n 0, 1) := by decide +kernel
theorem d_8_13_77 : decode prog_8_method_13_code 77 = .ok (.invokevirtual 116, 3) := by decide +kernel
theorem d_8_13_80 : decode prog_8_method_13_code 80 = .ok (.istore_n 1, 1) := by decide +kernel
theorem d_8_13_81 : decode prog_8_method_13_code 81 = .ok (.goto 311, 3) := by decide +kernel
theorem d_8_13_84 : decode prog_8_method_13_code 84 = .ok (.aload_n 0, 1) := by decide +kernel
theorem d_8_13_85 : decode prog_8_method_13_code 85 = .ok (.iconst 0, 1) := by decide +kernel
theorem d_8_13_86 : decode prog_8_method_13_code 86 = .ok (.bipush 110, 2) := by decide +kernel
theorem d_8_13_88 : decode prog_8_method_13_code 88 = .ok (.bipush 97, 2) := by decide +kernel
theorem d_8_13_90 : decode prog_8_method_13_code 90 = .ok (.bipush 109, 2) := by decide +kernel
theorem d_8_13_92 : decode prog_8_method_13_code 92 = .ok (.bipush 101, 2) := by decide +kernel
theorem d_8_13_94 : decode prog_8_method_13_code 94 = .ok (.invokevirtual 104, 3) := by decide +kernel
theorem d_8_13_97 : decode prog_8_method_13_code 97 = .ok (.ifCond .eq 20, 3) := by decide +kernel
theorem d_8_13_100 : decode prog_8_method_13_code 100 = .ok (.aload_n 0, 1) := by decide +kernel
theorem d_8_13_101 : decode prog_8_method_13_code 101 = .ok (.iconst 0, 1) := by decide +kernel
theorem d_8_13_102 : decode prog_8_method_13_code 102 = .ok (.iconst 4, 1) := by decide +kernel
theorem d_8_13_103 : decode prog_8_method_13_code 103 = .ok (.invokevirtual 108, 3) := by decide +kernel
theorem d_8_13_106 : decode prog_8_method_13_code 106 = .ok (.ifCond .eq 11, 3) := by decide +kernel
theorem d_8_13_109 : decode prog_8_method_13_code 109 = .ok (.aload_n 0, 1) := by decide +kernel
theorem d_8_13_110 : decode prog_8_method_13_code 110 = .ok (.invokevirtual 120, 3) := by decide +kernel
theorem d_8_13_113 : decode prog_8_method_13_code 113 = .ok (.istore_n 1, 1) := by decide +kernel
theorem d_8_13_114 : decode prog_8_method_13_code 114 = .ok (.goto 278, 3) := by decide +kernel
theorem d_8_13_117 : decode prog_8_method_13_code 117 = .ok (.aload_n 0, 1) := by decide +kernel
theorem d_8_13_118 : decode prog_8_method_13_code 118 = .ok (.iconst 0, 1) := by decide +kernel
theorem d_8_13_119 : decode prog_8_method_13_code 119 = .ok (.bipush 114, 2) := by decide +kernel
theorem d_8_13_121 : decode prog_8_method_13_code 121 = .ok (.bipush 101, 2) := by decide +kernel
theorem d_8_13_123 : decode prog_8_method_13_code 123 = .ok (.bipush 97, 2) := by decide +kernel
theorem d_8_13_125 : decode prog_8_method_13_code 125 = .ok (.bipush 108, 2) := by decide +kernel
theorem d_8_13_127 : decode prog_8_method_13_code 127 = .ok (.invokevirtual 104, 3) := by decide +kernel
theorem d_8_13_130 : decode prog_8_method_13_code 130 = .ok (.ifCond .eq 38, 3) := by decide +kernel
theorem d_8_13_133 : decode prog_8_method_13_code 133 = .ok (.aload_n 0, 1) := by decide +kernel
theorem d_8_13_134 : decode prog_8_method_13_code 134 = .ok (.iconst 0, 1) := by decide +kernel
theorem d_8_13_135 : decode prog_8_method_13_code 135 = .ok (.iconst 5, 1) := by decide +kernel
theorem d_8_13_136 : decode prog_8_method_13_code 136 = .ok (.invokevirtual 108, 3) := by decide +kernel
theorem d_8_13_139 : decode prog_8_method_13_code 139 = .ok (.ifCond .eq 29, 3) := by decide +kernel
theorem d_8_13_142 : decode prog_8_method_13_code 142 = .ok (.aload_n 0, 1) := by decide +kernel
theorem d_8_13_143 : decode prog_8_method_13_code 143 = .ok (.getfield 7, 3) := by decide +kernel
theorem d_8_13_146 : decode prog_8_method_13_code 146 = .ok (.aload_n 0, 1) := by decide +kernel
theorem d_8_13_147 : decode prog_8_method_13_code 147 = .ok (.getfield 17, 3) := by decide +kernel
theorem d_8_13_150 : decode prog_8_method_13_code 150 = .ok (.iconst 0, 1) := by decide +kernel
theorem d_8_13_151 : decode prog_8_method_13_code 151 = .ok (.iaload, 1) := by decide +kernel
theorem d_8_13_152 : decode prog_8_method_13_code 152 = .ok (.iconst 1, 1) := by decide +kernel
theorem d_8_13_153 : decode prog_8_method_13_code 153 = .ok (.isub, 1) := by decide +kernel
theorem d_8_13_154 : decode prog_8_method_13_code 154 = .ok (.caload, 1) := by decide +kernel
theorem d_8_13_155 : decode prog_8_method_13_code 155 = .ok (.bipush 109, 2) := by decide +kernel
theorem d_8_13_157 : decode prog_8_method_13_code 157 = .ok (.if_icmp .ne 11, 3) := by decide +kernel
theorem d_8_13_160 : decode prog_8_method_13_code 160 = .ok (.aload_n 0, 1) := by decide +kernel
theorem d_8_13_161 : decode prog_8_method_13_code 161 = .ok (.invokevirtual 123, 3) := by decide +kernel
theorem d_8_13_164 : decode prog_8_method_13_code 164 = .ok (.istore_n 1, 1) := by decide +kernel
theorem d_8_13_165 : decode prog_8_method_13_code 165 = .ok (.goto 227, 3) := by decide +kernel
theorem d_8_13_168 : decode prog_8_method_13_code 168 = .ok (.aload_n 0, 1) := by decide +kernel
theorem d_8_13_169 : decode prog_8_method_13_code 169 = .ok (.iconst 0, 1) := by decide +kernel
theorem d_8_13_170 : decode prog_8_method_13_code 170 = .ok (.bipush 108, 2) := by decide +kernel
theorem d_8_13_172 : decode prog_8_method_13_code 172 = .ok (.bipush 111, 2) := by decide +kernel
theorem d_8_13_174 : decode prog_8_method_13_code 174 = .ok (.bipush 97, 2) := by decide +kernel
theorem d_8_13_176 : decode prog_8_method_13_code 176 = .ok (.bipush 100, 2) := by decide +kernel
theorem d_8_13_178 : decode prog_8_method_13_code 178 = .ok (.invokevirtual 104, 3) := by decide +kernel
theorem d_8_13_181 : decode prog_8_method_13_code 181 = .ok (.ifCond .eq 20, 3) := by decide +kernel
theorem d_8_13_184 : decode prog_8_method_13_code 184 = .ok (.aload_n 0, 1) := by decide +kernel
theorem d_8_13_185 : decode prog_8_method_13_code 185 = .ok (.iconst 0, 1) := by decide +kernel
theorem d_8_13_186 : decode prog_8_method_13_code 186 = .ok (.iconst 4, 1) := by decide +kernel
theorem d_8_13_187 : decode prog_8_method_13_code 187 = .ok (.invokevirtual 108, 3) := by decide +kernel
theorem d_8_13_190 : decode prog_8_method_13_code 190 = .ok (.ifCond .eq 11, 3) := by decide +kernel
theorem d_8_13_193 : decode prog_8_method_13_code 193 = .ok (.aload_n 0, 1) := by decide +kernel
theorem d_8_13_194 : decode prog_8_method_13_code 194 = .ok (.invokevirtual 126, 3) := by decide +kernel
theorem d_8_13_197 : decode prog_8_method_13_code 197 = .ok (.istore_n 1, 1) := by decide +kernel
theorem d_8_13_198 : decode prog_8_method_13_code 198 = .ok (.goto 194, 3) := by decide +kernel
theorem d_8_13_201 : decode prog_8_method_13_code 201 = .ok (.aload_n 0, 1) := by decide +kernel
theorem d_8_13_202 : decode prog_8_method_13_code 202 = .ok (.iconst 0, 1) := by decide +kernel
theorem d_8_13_203 : decode prog_8_method_13_code 203 = .ok (.bipush 105, 2) := by decide +kernel
theorem d_8_13_205 : decode prog_8_method_13_code 205 = .ok (.bipush 109, 2) := by decide +kernel
theorem d_8_13_207 : decode prog_8_method_13_code 207 = .ok (.bipush 112, 2) := by decide +kernel
theorem d_8_13_209 : decode prog_8_method_13_code 209 = .ok (.bipush 111, 2) := by decide +kernel
theorem d_8_13_211 : decode prog_8_method_13_code 211 = .ok (.invokevirtual 104, 3) := by decide +kernel
theorem d_8_13_214 : decode prog_8_method_13_code 214 = .ok (.ifCond .eq 33, 3) := by decide +kernel
theorem d_8_13_217 : decode prog_8_method_13_code 217 = .ok (.aload_n 0, 1) := by decide +kernel
theorem d_8_13_218 : decode prog_8_method_13_code 218 = .ok (.iconst 0, 1) := by decide +kernel
theorem d_8_13_219 : decode prog_8_method_13_code 219 = .ok (.bipush 6, 2) := by decide +kernel
theorem d_8_13_221 : decode prog_8_method_13_code 221 = .ok (.invokevirtual 108, 3) := by decide +kernel
theorem d_8_13_224 : decode prog_8_method_13_code 224 = .ok (.ifCond .eq 23, 3) := by decide +kernel
theorem d_8_13_227 : decode prog_8_method_13_code 227 = .ok (.aload_n 0, 1) := by decide +kernel
theorem d_8_13_228 : decode prog_8_method_13_code 228 = .ok (.iconst 0, 1) := by decide +kernel
theorem d_8_13_229 : decode prog_8_method_13_code 229 = .ok (.bipush 114, 2) := by decide +kernel
theorem d_8_13_231 : decode prog_8_method_13_code 231 = .ok (.bipush 116, 2) := by decide +kernel
theorem d_8_13_233 : decode prog_8_method_13_code 233 = .ok (.invokevirtual 112, 3) := by decide +kernel
theorem d_8_13_236 : decode prog_8_method_13_code 236 = .ok (.ifCond .eq 11, 3) := by decide +kernel
theorem d_8_13_239 : decode prog_8_method_13_code 239 = .ok (.aload_n 0, 1) := by decide +kernel
theorem d_8_13_240 : decode prog_8_method_13_code 240 = .ok (.invokevirtual 128, 3) := by decide +kernel
theorem d_8_13_243 : decode prog_8_method_13_code 243 = .ok (.istore_n 1, 1) := by decide +kernel
theorem d_8_13_244 : decode prog_8_method_13_code 244 = .ok (.goto 148, 3) := by decide +kernel
theorem d_8_13_247 : decode prog_8_method_13_code 247 = .ok (.aload_n 0, 1) := by decide +kernel
theorem d_8_13_248 : decode prog_8_method_13_code 248 = .ok (.iconst 0, 1) := by decide +kernel
theorem d_8_13_249 : decode prog_8_method_13_code 249 = .ok (.bipush 112, 2) := by decide +kernel
theorem d_8_13_251 : decode prog_8_method_13_code 251 = .ok (.bipush 97, 2) := by decide +kernel
theorem d_8_13_253 : decode prog_8_method_13_code 253 = .ok (.bipush 114, 2) := by decide +kernel
theorem d_8_13_255 : decode prog_8_method_13_code 255 = .ok (.bipush 101, 2) := by decide +kernel
theorem d_8_13_257 : decode prog_8_method_13_code 257 = .ok (.invokevirtual 104, 3) := by decide +kernel
theorem d_8_13_260 : decode prog_8_method_13_code 260 = .ok (.ifCond .eq 33, 3) := by decide +kernel
theorem d_8_13_263 : decode prog_8_method_13_code 263 = .ok (.aload_n 0, 1) := by decide +kernel
theorem d_8_13_264 : decode prog_8_method_13_code 264 = .ok (.iconst 0, 1) := by decide +kernel
theorem d_8_13_265 : decode prog_8_method_13_code 265 = .ok (.bipush 6, 2) := by decide +kernel
theorem d_8_13_267 : decode prog_8_method_13_code 267 = .ok (.invokevirtual 108, 3) := by decide +kernel
theorem d_8_13_270 : decode prog_8_method_13_code 270 = .ok (.ifCond .eq 23, 3) := by decide +kernel
theorem d_8_13_273 : decode prog_8_method_13_code 273 = .ok (.aload_n 0, 1) := by decide +kernel
theorem d_8_13_274 : decode prog_8_method_13_code 274 = .ok (.iconst 0, 1) := by decide +kernel
theorem d_8_13_275 : decode prog_8_method_13_code 275 = .ok (.bipush 110, 2) := by decide +kernel
theorem d_8_13_277 : decode prog_8_method_13_code 277 = .ok (.bipush 116, 2) := by decide +kernel
theorem d_8_13_279 : decode prog_8_method_13_code 279 = .ok (.invokevirtual 112, 3) := by decide +kernel
theorem d_8_13_282 : decode prog_8_method_13_code 282 = .ok (.ifCond .eq 11, 3) := by decide +kernel
theorem d_8_13_285 : decode prog_8_method_13_code 285 = .ok (.aload_n 0, 1) := by decide +kernel
theorem d_8_13_286 : decode prog_8_method_13_code 286 = .ok (.invokevirtual 131, 3) := by decide +kernel
theorem d_8_13_289 : decode prog_8_method_13_code 289 = .ok (.istore_n 1, 1) := by decide +kernel
theorem d_8_13_290 : decode prog_8_method_13_code 290 = .ok (.goto 102, 3) := by decide +kernel
theorem d_8_13_293 : decode prog_8_method_13_code 293 = .ok (.aload_n 0, 1) := by decide +kernel
theorem d_8_13_294 : decode prog_8_method_13_code 294 = .ok (.iconst 0, 1) := by decide +kernel
theorem d_8_13_295 : decode prog_8_method_13_code 295 = .ok (.bipush 115, 2) := by decide +kernel
theorem d_8_13_297 : decode prog_8_method_13_code 297 = .ok (.bipush 101, 2) := by decide +kernel
theorem d_8_13_299 : decode prog_8_method_13_code 299 = .ok (.bipush 108, 2) := by decide +kernel
theorem d_8_13_301 : decode prog_8_method_13_code 301 = .ok (.bipush 102, 2) := by decide +kernel
theorem d_8_13_303 : decode prog_8_method_13_code 303 = .ok (.invokevirtual 104, 3) := by decide +kernel
theorem d_8_13_306 : decode prog_8_method_13_code 306 = .ok (.ifCond .eq 29, 3) := by decide +kernel
theorem d_8_13_309 : decode prog_8_method_13_code 309 = .ok (.aload_n 0, 1) := by decide +kernel
theorem d_8_13_310 : decode prog_8_method_13_code 310 = .ok (.iconst 0, 1) := by decide +kernel
theorem d_8_13_311 : decode prog_8_method_13_code 311 = .ok (.iconst 4, 1) := by decide +kernel
theorem d_8_13_312 : decode prog_8_method_13_code 312 = .ok (.invokevirtual 108, 3) := by decide +kernel
theorem d_8_13_315 : decode prog_8_method_13_code 315 = .ok (.ifCond .eq 20, 3) := by decide +kernel
theorem d_8_13_318 : decode prog_8_method_13_code 318 = .ok (.aload_n 0, 1) := by decide +kernel
theorem d_8_13_319 : decode prog_8_method_13_code 319 = .ok (.getfield 86, 3) := by decide +kernel
theorem d_8_13_322 : decode prog_8_method_13_code 322 = .ok (.iconst 1, 1) := by decide +kernel
theorem d_8_13_323 : decode prog_8_method_13_code 323 = .ok (.if_icmp .ne 12, 3) := by decide +kernel
theorem d_8_13_326 : decode prog_8_method_13_code 326 = .ok (.aload_n 0, 1) := by decide +kernel
theorem d_8_13_327 : decode prog_8_method_13_code 327 = .ok (.iconst 0, 1) := by decide +kernel
theorem d_8_13_328 : decode prog_8_method_13_code 328 = .ok (.invokevirtual 134, 3) := by decide +kernel
theorem d_8_13_331 : decode prog_8_method_13_code 331 = .ok (.istore_n 1, 1) := by decide +kernel
theorem d_8_13_332 : decode prog_8_method_13_code 332 = .ok (.goto 60, 3) := by decide +kernel
theorem d_8_13_335 : decode prog_8_method_13_code 335 = .ok (.aload_n 0, 1) := by decide +kernel
theorem d_8_13_336 : decode prog_8_method_13_code 336 = .ok (.iconst 0, 1) := by decide +kernel
theorem d_8_13_337 : decode prog_8_method_13_code 337 = .ok (.bipush 102, 2) := by decide +kernel
theorem d_8_13_339 : decode prog_8_method_13_code 339 = .ok (.bipush 105, 2) := by decide +kernel
theorem d_8_13_341 : decode prog_8_method_13_code 341 = .ok (.bipush 114, 2) := by decide +kernel
theorem d_8_13_343 : decode prog_8_method_13_code 343 = .ok (.bipush 115, 2) := by decide +kernel
theorem d_8_13_345 : decode prog_8_method_13_code 345 = .ok (.invokevirtual 104, 3) := by decide +kernel
theorem d_8_13_348 : decode prog_8_method_13_code 348 = .ok (.ifCond .eq 44, 3) := by decide +kernel
theorem d_8_13_351 : decode prog_8_method_13_code 351 = .ok (.aload_n 0, 1) := by decide +kernel
theorem d_8_13_352 : decode prog_8_method_13_code 352 = .ok (.iconst 0, 1) := by decide +kernel
theorem d_8_13_353 : decode prog_8_method_13_code 353 = .ok (.iconst 5, 1) := by decide +kernel
theorem d_8_13_354 : decode prog_8_method_13_code 354 = .ok (.invokevirtual 108, 3) := by decide +kernel
theorem d_8_13_357 : decode prog_8_method_13_code 357 = .ok (.ifCond .eq 35, 3) := by decide +kernel
theorem d_8_13_360 : decode prog_8_method_13_code 360 = .ok (.aload_n 0, 1) := by decide +kernel
theorem d_8_13_361 : decode prog_8_method_13_code 361 = .ok (.getfield 7, 3) := by decide +kernel
theorem d_8_13_364 : decode prog_8_method_13_code 364 = .ok (.aload_n 0, 1) := by decide +kernel
theorem d_8_13_365 : decode prog_8_method_13_code 365 = .ok (.getfield 17, 3) := by decide +kernel
theorem d_8_13_368 : decode prog_8_method_13_code 368 = .ok (.iconst 0, 1) := by decide +kernel
theorem d_8_13_369 : decode prog_8_method_13_code 369 = .ok (.iaload, 1) := by decide +kernel
theorem d_8_13_370 : decode prog_8_method_13_code 370 = .ok (.iconst 1, 1) := by decide +kernel
theorem d_8_13_371 : decode prog_8_method_13_code 371 = .ok (.isub, 1) := by decide +kernel
theorem d_8_13_372 : decode prog_8_method_13_code 372 = .ok (.caload, 1) := by decide +kernel
theorem d_8_13_373 : decode prog_8_method_13_code 373 = .ok (.bipush 116, 2) := by decide +kernel
theorem d_8_13_375 : decode prog_8_method_13_code 375 = .ok (.if_icmp .ne 17, 3) := by decide +kernel
theorem d_8_13_378 : decode prog_8_method_13_code 378 = .ok (.aload_n 0, 1) := by decide +kernel
theorem d_8_13_379 : decode prog_8_method_13_code 379 = .ok (.getfield 86, 3) := by decide +kernel
theorem d_8_13_382 : decode prog_8_method_13_code 382 = .ok (.iconst 1, 1) := by decide +kernel
theorem d_8_13_383 : decode prog_8_method_13_code 383 = .ok (.if_icmp .ne 9, 3) := by decide +kernel
theorem d_8_13_386 : decode prog_8_method_13_code 386 = .ok (.aload_n 0, 1) := by decide +kernel
theorem d_8_13_387 : decode prog_8_method_13_code 387 = .ok (.iconst 1, 1) := by decide +kernel
theorem d_8_13_388 : decode prog_8_method_13_code 388 = .ok (.invokevirtual 134, 3) := by decide +kernel
theorem d_8_13_391 : decode prog_8_method_13_code 391 = .ok (.istore_n 1, 1) := by decide +kernel
theorem d_8_13_392 : decode prog_8_method_13_code 392 = .ok (.iload_n 1, 1) := by decide +kernel
theorem d_8_13_393 : decode prog_8_method_13_code 393 = .ok (.ifCond .ge 19, 3) := by decide +kernel
theorem d_8_13_396 : decode prog_8_method_13_code 396 = .ok (.aload_n 0, 1) := by decide +kernel
theorem d_8_13_397 : decode prog_8_method_13_code 397 = .ok (.iload_n 1, 1) := by decide +kernel
theorem d_8_13_398 : decode prog_8_method_13_code 398 = .ok (.bipush (-2), 2) := by decide +kernel
theorem d_8_13_400 : decode prog_8_method_13_code 400 = .ok (.if_icmp .ne 7, 3) := by decide +kernel
theorem d_8_13_403 : decode prog_8_method_13_code 403 = .ok (.iconst 2, 1) := by decide +kernel
theorem d_8_13_404 : decode prog_8_method_13_code 404 = .ok (.goto 4, 3) := by decide +kernel
theorem d_8_13_407 : decode prog_8_method_13_code 407 = .ok (.iconst 1, 1) := by decide +kernel
theorem d_8_13_408 : decode prog_8_method_13_code 408 = .ok (.invokevirtual 138, 3) := by decide +kernel
theorem d_8_13_411 : decode prog_8_method_13_code 411 = .ok (.ireturn, 1) := by decide +kernel
theorem d_8_13_412 : decode prog_8_method_13_code 412 = .ok (.iload_n 1, 1) := by decide +kernel
theorem d_8_13_413 : decode prog_8_method_13_code 413 = .ok (.ireturn, 1) := by decide +kernel
theorem d_8_5_0 : decode prog_8_method_5_code 0 = .ok (.aload_n 0, 1) := by decide +kernel
theorem d_8_5_1 : decode prog_8_method_5_code 1 = .ok (.iconst 0, 1) := by decide +kernel
theorem d_8_5_2 : decode prog_8_method_5_code 2 = .ok (.putfield 86, 3) := by decide +kernel
theorem d_8_5_5 : decode prog_8_method_5_code 5 = .ok (.iconst 0, 1) := by decide +kernel
theorem d_8_5_6 : decode prog_8_method_5_code 6 = .ok (.istore_n 1, 1) := by decide +kernel
theorem d_8_5_7 : decode prog_8_method_5_code 7 = .ok (.iload_n 1, 1) := by decide +kernel
theorem d_8_5_8 : decode prog_8_method_5_code 8 = .ok (.aload_n 0, 1) := by decide +kernel
theorem d_8_5_9 : decode prog_8_method_5_code 9 = .ok (.getfield 83, 3) := by decide +kernel
theorem d_8_5_12 : decode prog_8_method_5_code 12 = .ok (.if_icmp .ge 94, 3) := by decide +kernel
theorem d_8_5_15 : decode prog_8_method_5_code 15 = .ok (.iload_n 1, 1) := by decide +kernel
theorem d_8_5_16 : decode prog_8_method_5_code 16 = .ok (.aload_n 0, 1) := by decide +kernel
theorem d_8_5_17 : decode prog_8_method_5_code 17 = .ok (.getfield 83, 3) := by decide +kernel
theorem d_8_5_20 : decode prog_8_method_5_code 20 = .ok (.if_icmp .ge 20, 3) := by decide +kernel
theorem d_8_5_23 : decode prog_8_method_5_code 23 = .ok (.aload_n 0, 1) := by decide +kernel
theorem d_8_5_24 : decode prog_8_method_5_code 24 = .ok (.getfield 7, 3) := by decide +kernel
theorem d_8_5_27 : decode prog_8_method_5_code 27 = .ok (.iload_n 1, 1) := by decide +kernel
theorem d_8_5_28 : decode prog_8_method_5_code 28 = .ok (.caload, 1) := by decide +kernel
theorem d_8_5_29 : decode prog_8_method_5_code 29 = .ok (.bipush 32, 2) := by decide +kernel
theorem d_8_5_31 : decode prog_8_method_5_code 31 = .ok (.if_icmp .ne 9, 3) := by decide +kernel
theorem d_8_5_34 : decode prog_8_method_5_code 34 = .ok (.iinc 1 1, 3) := by decide +kernel
theorem d_8_5_37 : decode prog_8_method_5_code 37 = .ok (.goto (-22), 3) := by decide +kernel
theorem d_8_5_40 : decode prog_8_method_5_code 40 = .ok (.iload_n 1, 1) := by decide +kernel
theorem d_8_5_41 : decode prog_8_method_5_code 41 = .ok (.aload_n 0, 1) := by decide +kernel
theorem d_8_5_42 : decode prog_8_method_5_code 42 = .ok (.getfield 83, 3) := by decide +kernel
theorem d_8_5_45 : decode prog_8_method_5_code 45 = .ok (.if_icmp .ge (-38), 3) := by decide +kernel
theorem d_8_5_48 : decode prog_8_method_5_code 48 = .ok (.aload_n 0, 1) := by decide +kernel
theorem d_8_5_49 : decode prog_8_method_5_code 49 = .ok (.getfield 13, 3) := by decide +kernel
theorem d_8_5_52 : decode prog_8_method_5_code 52 = .ok (.aload_n 0, 1) := by decide +kernel
theorem d_8_5_53 : decode prog_8_method_5_code 53 = .ok (.getfield 86, 3) := by decide +kernel
theorem d_8_5_56 : decode prog_8_method_5_code 56 = .ok (.iload_n 1, 1) := by decide +kernel
theorem d_8_5_57 : decode prog_8_method_5_code 57 = .ok (.iastore, 1) := by decide +kernel
theorem d_8_5_58 : decode prog_8_method_5_code 58 = .ok (.iload_n 1, 1) := by decide +kernel
theorem d_8_5_59 : decode prog_8_method_5_code 59 = .ok (.aload_n 0, 1) := by decide +kernel
theorem d_8_5_60 : decode prog_8_method_5_code 60 = .ok (.getfield 83, 3) := by decide +kernel
theorem d_8_5_63 : decode prog_8_method_5_code 63 = .ok (.if_icmp .ge 20, 3) := by decide +kernel
theorem d_8_5_66 : decode prog_8_method_5_code 66 = .ok (.aload_n 0, 1) := by decide +kernel
theorem d_8_5_67 : decode prog_8_method_5_code 67 = .ok (.getfield 7, 3) := by decide +kernel
theorem d_8_5_70 : decode prog_8_method_5_code 70 = .ok (.iload_n 1, 1) := by decide +kernel
theorem d_8_5_71 : decode prog_8_method_5_code 71 = .ok (.caload, 1) := by decide +kernel
theorem d_8_5_72 : decode prog_8_method_5_code 72 = .ok (.bipush 32, 2) := by decide +kernel
theorem d_8_5_74 : decode prog_8_method_5_code 74 = .ok (.if_icmp .eq 9, 3) := by decide +kernel
theorem d_8_5_77 : decode prog_8_method_5_code 77 = .ok (.iinc 1 1, 3) := by decide +kernel
theorem d_8_5_80 : decode prog_8_method_5_code 80 = .ok (.goto (-22), 3) := by decide +kernel
theorem d_8_5_83 : decode prog_8_method_5_code 83 = .ok (.aload_n 0, 1) := by decide +kernel
theorem d_8_5_84 : decode prog_8_method_5_code 84 = .ok (.getfield 17, 3) := by decide +kernel
theorem d_8_5_87 : decode prog_8_method_5_code 87 = .ok (.aload_n 0, 1) := by decide +kernel
theorem d_8_5_88 : decode prog_8_method_5_code 88 = .ok (.getfield 86, 3) := by decide +kernel
theorem d_8_5_91 : decode prog_8_method_5_code 91 = .ok (.iload_n 1, 1) := by decide +kernel
theorem d_8_5_92 : decode prog_8_method_5_code 92 = .ok (.iastore, 1) := by decide +kernel
theorem d_8_5_93 : decode prog_8_method_5_code 93 = .ok (.aload_n 0, 1) := by decide +kernel
theorem d_8_5_94 : decode prog_8_method_5_code 94 = .ok (.dup, 1) := by decide +kernel
theorem d_8_5_95 : decode prog_8_method_5_code 95 = .ok (.getfield 86, 3) := by decide +kernel
theorem d_8_5_98 : decode prog_8_method_5_code 98 = .ok (.iconst 1, 1) := by decide +kernel
theorem d_8_5_99 : decode prog_8_method_5_code 99 = .ok (.iadd, 1) := by decide +kernel
theorem d_8_5_100 : decode prog_8_method_5_code 100 = .ok (.putfield 86, 3) := by decide +kernel
theorem d_8_5_103 : decode prog_8_method_5_code 103 = .ok (.goto (-96), 3) := by decide +kernel
theorem d_8_5_106 : decode prog_8_method_5_code 106 = .ok (.aload_n 0, 1) := by decide +kernel
theorem d_8_5_107 : decode prog_8_method_5_code 107 = .ok (.iconst 0, 1) := by decide +kernel
theorem d_8_5_108 : decode prog_8_method_5_code 108 = .ok (.putfield 83, 3) := by decide +kernel
theorem d_8_5_111 : decode prog_8_method_5_code 111 = .ok (.return_, 1) := by decide +kernel
theorem d_8_8_0 : decode prog_8_method_8_code 0 = .ok (.iload_n 1, 1) := by decide +kernel
theorem d_8_8_1 : decode prog_8_method_8_code 1 = .ok (.aload_n 0, 1) := by decide +kernel
theorem d_8_8_2 : decode prog_8_method_8_code 2 = .ok (.getfield 86, 3) := by decide +kernel
theorem d_8_8_5 : decode prog_8_method_8_code 5 = .ok (.if_icmp .ge 92, 3) := by decide +kernel
theorem d_8_8_8 : decode prog_8_method_8_code 8 = .ok (.aload_n 0, 1) := by decide +kernel
theorem d_8_8_9 : decode prog_8_method_8_code 9 = .ok (.getfield 17, 3) := by decide +kernel
theorem d_8_8_12 : decode prog_8_method_8_code 12 = .ok (.iload_n 1, 1) := by decide +kernel
theorem d_8_8_13 : decode prog_8_method_8_code 13 = .ok (.iaload, 1) := by decide +kernel
theorem d_8_8_14 : decode prog_8_method_8_code 14 = .ok (.aload_n 0, 1) := by decide +kernel
theorem d_8_8_15 : decode prog_8_method_8_code 15 = .ok (.getfield 13, 3) := by decide +kernel
theorem d_8_8_18 : decode prog_8_method_8_code 18 = .ok (.iload_n 1, 1) := by decide +kernel
theorem d_8_8_19 : decode prog_8_method_8_code 19 = .ok (.iaload, 1) := by decide +kernel
theorem d_8_8_20 : decode prog_8_method_8_code 20 = .ok (.isub, 1) := by decide +kernel
theorem d_8_8_21 : decode prog_8_method_8_code 21 = .ok (.iconst 4, 1) := by decide +kernel
theorem d_8_8_22 : decode prog_8_method_8_code 22 = .ok (.if_icmp .lt 75, 3) := by decide +kernel
theorem d_8_8_25 : decode prog_8_method_8_code 25 = .ok (.aload_n 0, 1) := by decide +kernel
theorem d_8_8_26 : decode prog_8_method_8_code 26 = .ok (.getfield 7, 3) := by decide +kernel
theorem d_8_8_29 : decode prog_8_method_8_code 29 = .ok (.aload_n 0, 1) := by decide +kernel
theorem d_8_8_30 : decode prog_8_method_8_code 30 = .ok (.getfield 13, 3) := by decide +kernel
theorem d_8_8_33 : decode prog_8_method_8_code 33 = .ok (.iload_n 1, 1) := by decide +kernel
theorem d_8_8_34 : decode prog_8_method_8_code 34 = .ok (.iaload, 1) := by decide +kernel
theorem d_8_8_35 : decode prog_8_method_8_code 35 = .ok (.caload, 1) := by decide +kernel
theorem d_8_8_36 : decode prog_8_method_8_code 36 = .ok (.iload_n 2, 1) := by decide +kernel
theorem d_8_8_37 : decode prog_8_method_8_code 37 = .ok (.if_icmp .ne 60, 3) := by decide +kernel
theorem d_8_8_40 : decode prog_8_method_8_code 40 = .ok (.aload_n 0, 1) := by decide +kernel
theorem d_8_8_41 : decode prog_8_method_8_code 41 = .ok (.getfield 7, 3) := by decide +kernel
theorem d_8_8_44 : decode prog_8_method_8_code 44 = .ok (.aload_n 0, 1) := by decide +kernel
theorem d_8_8_45 : decode prog_8_method_8_code 45 = .ok (.getfield 13, 3) := by decide +kernel
theorem d_8_8_48 : decode prog_8_method_8_code 48 = .ok (.iload_n 1, 1) := by decide +kernel
theorem d_8_8_49 : decode prog_8_method_8_code 49 = .ok (.iaload, 1) := by decide +kernel
theorem d_8_8_50 : decode prog_8_method_8_code 50 = .ok (.iconst 1, 1) := by decide +kernel
theorem d_8_8_51 : decode prog_8_method_8_code 51 = .ok (.iadd, 1) := by decide +kernel
theorem d_8_8_52 : decode prog_8_method_8_code 52 = .ok (.caload, 1) := by decide +kernel
theorem d_8_8_53 : decode prog_8_method_8_code 53 = .ok (.iload_n 3, 1) := by decide +kernel
theorem d_8_8_54 : decode prog_8_method_8_code 54 = .ok (.if_icmp .ne 43, 3) := by decide +kernel
theorem d_8_8_57 : decode prog_8_method_8_code 57 = .ok (.aload_n 0, 1) := by decide +kernel
theorem d_8_8_58 : decode prog_8_method_8_code 58 = .ok (.getfield 7, 3) := by decide +kernel
theorem d_8_8_61 : decode prog_8_method_8_code 61 = .ok (.aload_n 0, 1) := by decide +kernel
theorem d_8_8_62 : decode prog_8_method_8_code 62 = .ok (.getfield 13, 3) := by decide +kernel
theorem d_8_8_65 : decode prog_8_method_8_code 65 = .ok (.iload_n 1, 1) := by decide +kernel
theorem d_8_8_66 : decode prog_8_method_8_code 66 = .ok (.iaload, 1) := by decide +kernel
theorem d_8_8_67 : decode prog_8_method_8_code 67 = .ok (.iconst 2, 1) := by decide +kernel
theorem d_8_8_68 : decode prog_8_method_8_code 68 = .ok (.iadd, 1) := by decide +kernel
theorem d_8_8_69 : decode prog_8_method_8_code 69 = .ok (.caload, 1) := by decide +kernel
theorem d_8_8_70 : decode prog_8_method_8_code 70 = .ok (.iload 4, 2) := by decide +kernel
theorem d_8_8_72 : decode prog_8_method_8_code 72 = .ok (.if_icmp .ne 25, 3) := by decide +kernel
theorem d_8_8_75 : decode prog_8_method_8_code 75 = .ok (.aload_n 0, 1) := by decide +kernel
theorem d_8_8_76 : decode prog_8_method_8_code 76 = .ok (.getfield 7, 3) := by decide +kernel
theorem d_8_8_79 : decode prog_8_method_8_code 79 = .ok (.aload_n 0, 1) := by decide +kernel
theorem d_8_8_80 : decode prog_8_method_8_code 80 = .ok (.getfield 13, 3) := by decide +kernel
theorem d_8_8_83 : decode prog_8_method_8_code 83 = .ok (.iload_n 1, 1) := by decide +kernel
theorem d_8_8_84 : decode prog_8_method_8_code 84 = .ok (.iaload, 1) := by decide +kernel
theorem d_8_8_85 : decode prog_8_method_8_code 85 = .ok (.iconst 3, 1) := by decide +kernel
theorem d_8_8_86 : decode prog_8_method_8_code 86 = .ok (.iadd, 1) := by decide +kernel
theorem d_8_8_87 : decode prog_8_method_8_code 87 = .ok (.caload, 1) := by decide +kernel
theorem d_8_8_88 : decode prog_8_method_8_code 88 = .ok (.iload 5, 2) := by decide +kernel
theorem d_8_8_90 : decode prog_8_method_8_code 90 = .ok (.if_icmp .ne 7, 3) := by decide +kernel
theorem d_8_8_93 : decode prog_8_method_8_code 93 = .ok (.iconst 1, 1) := by decide +kernel
theorem d_8_8_94 : decode prog_8_method_8_code 94 = .ok (.goto 4, 3) := by decide +kernel
theorem d_8_8_97 : decode prog_8_method_8_code 97 = .ok (.iconst 0, 1) := by decide +kernel
theorem d_8_8_98 : decode prog_8_method_8_code 98 = .ok (.istore 6, 2) := by decide +kernel
theorem d_8_8_100 : decode prog_8_method_8_code 100 = .ok (.iload 6, 2) := by decide +kernel
theorem d_8_8_102 : decode prog_8_method_8_code 102 = .ok (.ireturn, 1) := by decide +kernel
theorem d_8_9_0 : decode prog_8_method_9_code 0 = .ok (.iload_n 1, 1) := by decide +kernel
theorem d_8_9_1 : decode prog_8_method_9_code 1 = .ok (.aload_n 0, 1) := by decide +kernel
theorem d_8_9_2 : decode prog_8_method_9_code 2 = .ok (.getfield 86, 3) := by decide +kernel
theorem d_8_9_5 : decode prog_8_method_9_code 5 = .ok (.if_icmp .ge 24, 3) := by decide +kernel
theorem d_8_9_8 : decode prog_8_method_9_code 8 = .ok (.aload_n 0, 1) := by decide +kernel
theorem d_8_9_9 : decode prog_8_method_9_code 9 = .ok (.getfield 17, 3) := by decide +kernel
theorem d_8_9_12 : decode prog_8_method_9_code 12 = .ok (.iload_n 1, 1) := by decide +kernel
theorem d_8_9_13 : decode prog_8_method_9_code 13 = .ok (.iaload, 1) := by decide +kernel
theorem d_8_9_14 : decode prog_8_method_9_code 14 = .ok (.aload_n 0, 1) := by decide +kernel
theorem d_8_9_15 : decode prog_8_method_9_code 15 = .ok (.getfield 13, 3) := by decide +kernel
theorem d_8_9_18 : decode prog_8_method_9_code 18 = .ok (.iload_n 1, 1) := by decide +kernel
theorem d_8_9_19 : decode prog_8_method_9_code 19 = .ok (.iaload, 1) := by decide +kernel
theorem d_8_9_20 : decode prog_8_method_9_code 20 = .ok (.isub, 1) := by decide +kernel
theorem d_8_9_21 : decode prog_8_method_9_code 21 = .ok (.iload_n 2, 1) := by decide +kernel
theorem d_8_9_22 : decode prog_8_method_9_code 22 = .ok (.if_icmp .ne 7, 3) := by decide +kernel
theorem d_8_9_25 : decode prog_8_method_9_code 25 = .ok (.iconst 1, 1) := by decide +kernel
theorem d_8_9_26 : decode prog_8_method_9_code 26 = .ok (.goto 4, 3) := by decide +kernel
theorem d_8_9_29 : decode prog_8_method_9_code 29 = .ok (.iconst 0, 1) := by decide +kernel
theorem d_8_9_30 : decode prog_8_method_9_code 30 = .ok (.ireturn, 1) := by decide +kernel
theorem d_8_10_0 : decode prog_8_method_10_code 0 = .ok (.aload_n 0, 1) := by decide +kernel
theorem d_8_10_1 : decode prog_8_method_10_code 1 = .ok (.getfield 7, 3) := by decide +kernel
theorem d_8_10_4 : decode prog_8_method_10_code 4 = .ok (.aload_n 0, 1) := by decide +kernel
theorem d_8_10_5 : decode prog_8_method_10_code 5 = .ok (.getfield 17, 3) := by decide +kernel
theorem d_8_10_8 : decode prog_8_method_10_code 8 = .ok (.iload_n 1, 1) := by decide +kernel
theorem d_8_10_9 : decode prog_8_method_10_code 9 = .ok (.iaload, 1) := by decide +kernel
theorem d_8_10_10 : decode prog_8_method_10_code 10 = .ok (.iconst 2, 1) := by decide +kernel
theorem d_8_10_11 : decode prog_8_method_10_code 11 = .ok (.isub, 1) := by decide +kernel
theorem d_8_10_12 : decode prog_8_method_10_code 12 = .ok (.caload, 1) := by decide +kernel
theorem d_8_10_13 : decode prog_8_method_10_code 13 = .ok (.iload_n 2, 1) := by decide +kernel
theorem d_8_10_14 : decode prog_8_method_10_code 14 = .ok (.if_icmp .ne 24, 3) := by decide +kernel
theorem d_8_10_17 : decode prog_8_method_10_code 17 = .ok (.aload_n 0, 1) := by decide +kernel
theorem d_8_10_18 : decode prog_8_method_10_code 18 = .ok (.getfield 7, 3) := by decide +kernel
theorem d_8_10_21 : decode prog_8_method_10_code 21 = .ok (.aload_n 0, 1) := by decide +kernel
theorem d_8_10_22 : decode prog_8_method_10_code 22 = .ok (.getfield 17, 3) := by decide +kernel
theorem d_8_10_25 : decode prog_8_method_10_code 25 = .ok (.iload_n 1, 1) := by decide +kernel
theorem d_8_10_26 : decode prog_8_method_10_code 26 = .ok (.iaload, 1) := by decide +kernel
theorem d_8_10_27 : decode prog_8_method_10_code 27 = .ok (.iconst 1, 1) := by decide +kernel
theorem d_8_10_28 : decode prog_8_method_10_code 28 = .ok (.isub, 1) := by decide +kernel
theorem d_8_10_29 : decode prog_8_method_10_code 29 = .ok (.caload, 1) := by decide +kernel
theorem d_8_10_30 : decode prog_8_method_10_code 30 = .ok (.iload_n 3, 1) := by decide +kernel
theorem d_8_10_31 : decode prog_8_method_10_code 31 = .ok (.if_icmp .ne 7, 3) := by decide +kernel
theorem d_8_10_34 : decode prog_8_method_10_code 34 = .ok (.iconst 1, 1) := by decide +kernel
theorem d_8_10_35 : decode prog_8_method_10_code 35 = .ok (.goto 4, 3) := by decide +kernel
theorem d_8_10_38 : decode prog_8_method_10_code 38 = .ok (.iconst 0, 1) := by decide +kernel
theorem d_8_10_39 : decode prog_8_method_10_code 39 = .ok (.ireturn, 1) := by decide +kernel
theorem d_8_14_0 : decode prog_8_method_14_code 0 = .ok (.aload_n 0, 1) := by decide +kernel
theorem d_8_14_1 : decode prog_8_method_14_code 1 = .ok (.getfield 86, 3) := by decide +kernel
theorem d_8_14_4 : decode prog_8_method_14_code 4 = .ok (.iconst 2, 1) := by decide +kernel
theorem d_8_14_5 : decode prog_8_method_14_code 5 = .ok (.if_icmp .ne 11, 3) := by decide +kernel
theorem d_8_14_8 : decode prog_8_method_14_code 8 = .ok (.aload_n 0, 1) := by decide +kernel
theorem d_8_14_9 : decode prog_8_method_14_code 9 = .ok (.iconst 1, 1) := by decide +kernel
theorem d_8_14_10 : decode prog_8_method_14_code 10 = .ok (.invokevirtual 142, 3) := by decide +kernel
theorem d_8_14_13 : decode prog_8_method_14_code 13 = .ok (.goto 4, 3) := by decide +kernel
theorem d_8_14_16 : decode prog_8_method_14_code 16 = .ok (.iconst 0, 1) := by decide +kernel
theorem d_8_14_17 : decode prog_8_method_14_code 17 = .ok (.istore_n 1, 1) := by decide +kernel
theorem d_8_14_18 : decode prog_8_method_14_code 18 = .ok (.iload_n 1, 1) := by decide +kernel
theorem d_8_14_19 : decode prog_8_method_14_code 19 = .ok (.ifCond .eq 11, 3) := by decide +kernel
theorem d_8_14_22 : decode prog_8_method_14_code 22 = .ok (.aload_n 0, 1) := by decide +kernel
theorem d_8_14_23 : decode prog_8_method_14_code 23 = .ok (.iload_n 1, 1) := by decide +kernel
theorem d_8_14_24 : decode prog_8_method_14_code 24 = .ok (.invokevirtual 145, 3) := by decide +kernel
theorem d_8_14_27 : decode prog_8_method_14_code 27 = .ok (.ifCond .lt 5, 3) := by decide +kernel
theorem d_8_14_30 : decode prog_8_method_14_code 30 = .ok (.iconst (-1), 1) := by decide +kernel
theorem d_8_14_31 : decode prog_8_method_14_code 31 = .ok (.ireturn, 1) := by decide +kernel
theorem d_8_14_32 : decode prog_8_method_14_code 32 = .ok (.aload_n 0, 1) := by decide +kernel
theorem d_8_14_33 : decode prog_8_method_14_code 33 = .ok (.getfield 95, 3) := by decide +kernel
theorem d_8_14_36 : decode prog_8_method_14_code 36 = .ok (.bipush 6, 2) := by decide +kernel
theorem d_8_14_38 : decode prog_8_method_14_code 38 = .ok (.if_icmp .ne 6, 3) := by decide +kernel
theorem d_8_14_41 : decode prog_8_method_14_code 41 = .ok (.bipush (-2), 2) := by decide +kernel
theorem d_8_14_43 : decode prog_8_method_14_code 43 = .ok (.ireturn, 1) := by decide +kernel
theorem d_8_14_44 : decode prog_8_method_14_code 44 = .ok (.aload_n 0, 1) := by decide +kernel
theorem d_8_14_45 : decode prog_8_method_14_code 45 = .ok (.getfield 20, 3) := by decide +kernel
theorem d_8_14_48 : decode prog_8_method_14_code 48 = .ok (.aload_n 0, 1) := by decide +kernel
theorem d_8_14_49 : decode prog_8_method_14_code 49 = .ok (.getfield 95, 3) := by decide +kernel
theorem d_8_14_52 : decode prog_8_method_14_code 52 = .ok (.iload_n 1, 1) := by decide +kernel
theorem d_8_14_53 : decode prog_8_method_14_code 53 = .ok (.iastore, 1) := by decide +kernel
theorem d_8_14_54 : decode prog_8_method_14_code 54 = .ok (.aload_n 0, 1) := by decide +kernel
theorem d_8_14_55 : decode prog_8_method_14_code 55 = .ok (.dup, 1) := by decide +kernel
theorem d_8_14_56 : decode prog_8_method_14_code 56 = .ok (.getfield 95, 3) := by decide +kernel
theorem d_8_14_59 : decode prog_8_method_14_code 59 = .ok (.iconst 1, 1) := by decide +kernel
theorem d_8_14_60 : decode prog_8_method_14_code 60 = .ok (.iadd, 1) := by decide +kernel
theorem d_8_14_61 : decode prog_8_method_14_code 61 = .ok (.putfield 95, 3) := by decide +kernel
theorem d_8_14_64 : decode prog_8_method_14_code 64 = .ok (.iconst 1, 1) := by decide +kernel
theorem d_8_14_65 : decode prog_8_method_14_code 65 = .ok (.ireturn, 1) := by decide +kernel
theorem d_8_7_0 : decode prog_8_method_7_code 0 = .ok (.aload_n 0, 1) := by decide +kernel
theorem d_8_7_1 : decode prog_8_method_7_code 1 = .ok (.iload_n 1, 1) := by decide +kernel
theorem d_8_7_2 : decode prog_8_method_7_code 2 = .ok (.invokevirtual 89, 3) := by decide +kernel
theorem d_8_7_5 : decode prog_8_method_7_code 5 = .ok (.lstore_n 2, 1) := by decide +kernel
theorem d_8_7_6 : decode prog_8_method_7_code 6 = .ok (.lload_n 2, 1) := by decide +kernel
theorem d_8_7_7 : decode prog_8_method_7_code 7 = .ok (.ldc2_w 93, 3) := by decide +kernel
theorem d_8_7_10 : decode prog_8_method_7_code 10 = .ok (.land, 1) := by decide +kernel
theorem d_8_7_11 : decode prog_8_method_7_code 11 = .ok (.lconst 0, 1) := by decide +kernel
theorem d_8_7_12 : decode prog_8_method_7_code 12 = .ok (.lcmp, 1) := by decide +kernel
theorem d_8_7_13 : decode prog_8_method_7_code 13 = .ok (.ifCond .ne 11, 3) := by decide +kernel
theorem d_8_7_16 : decode prog_8_method_7_code 16 = .ok (.lload_n 2, 1) := by decide +kernel
theorem d_8_7_17 : decode prog_8_method_7_code 17 = .ok (.bipush 40, 2) := by decide +kernel
theorem d_8_7_19 : decode prog_8_method_7_code 19 = .ok (.lshr, 1) := by decide +kernel
theorem d_8_7_20 : decode prog_8_method_7_code 20 = .ok (.l2i, 1) := by decide +kernel
theorem d_8_7_21 : decode prog_8_method_7_code 21 = .ok (.goto 4, 3) := by decide +kernel
theorem d_8_7_24 : decode prog_8_method_7_code 24 = .ok (.iconst 0, 1) := by decide +kernel
theorem d_8_7_25 : decode prog_8_method_7_code 25 = .ok (.ireturn, 1) := by decide +kernel
theorem d_8_6_0 : decode prog_8_method_6_code 0 = .ok (.iload_n 1, 1) := by decide +kernel
theorem d_8_6_1 : decode prog_8_method_6_code 1 = .ok (.aload_n 0, 1) := by decide +kernel
theorem d_8_6_2 : decode prog_8_method_6_code 2 = .ok (.getfield 86, 3) := by decide +kernel
theorem d_8_6_5 : decode prog_8_method_6_code 5 = .ok (.if_icmp .lt 5, 3) := by decide +kernel
theorem d_8_6_8 : decode prog_8_method_6_code 8 = .ok (.lconst 0, 1) := by decide +kernel
theorem d_8_6_9 : decode prog_8_method_6_code 9 = .ok (.lreturn, 1) := by decide +kernel
theorem d_8_6_10 : decode prog_8_method_6_code 10 = .ok (.lconst 0, 1) := by decide +kernel
theorem d_8_6_11 : decode prog_8_method_6_code 11 = .ok (.lstore_n 2, 1) := by decide +kernel
theorem d_8_6_12 : decode prog_8_method_6_code 12 = .ok (.iconst 1, 1) := by decide +kernel
theorem d_8_6_13 : decode prog_8_method_6_code 13 = .ok (.istore 4, 2) := by decide +kernel
theorem d_8_6_15 : decode prog_8_method_6_code 15 = .ok (.iconst 0, 1) := by decide +kernel
theorem d_8_6_16 : decode prog_8_method_6_code 16 = .ok (.istore 5, 2) := by decide +kernel
theorem d_8_6_18 : decode prog_8_method_6_code 18 = .ok (.iconst 0, 1) := by decide +kernel
theorem d_8_6_19 : decode prog_8_method_6_code 19 = .ok (.istore 6, 2) := by decide +kernel
theorem d_8_6_21 : decode prog_8_method_6_code 21 = .ok (.aload_n 0, 1) := by decide +kernel
theorem d_8_6_22 : decode prog_8_method_6_code 22 = .ok (.getfield 13, 3) := by decide +kernel
theorem d_8_6_25 : decode prog_8_method_6_code 25 = .ok (.iload_n 1, 1) := by decide +kernel
theorem d_8_6_26 : decode prog_8_method_6_code 26 = .ok (.iaload, 1) := by decide +kernel
theorem d_8_6_27 : decode prog_8_method_6_code 27 = .ok (.istore 7, 2) := by decide +kernel
theorem d_8_6_29 : decode prog_8_method_6_code 29 = .ok (.iload 7, 2) := by decide +kernel
theorem d_8_6_31 : decode prog_8_method_6_code 31 = .ok (.aload_n 0, 1) := by decide +kernel
theorem d_8_6_32 : decode prog_8_method_6_code 32 = .ok (.getfield 17, 3) := by decide +kernel
theorem d_8_6_35 : decode prog_8_method_6_code 35 = .ok (.iload_n 1, 1) := by decide +kernel
theorem d_8_6_36 : decode prog_8_method_6_code 36 = .ok (.iaload, 1) := by decide +kernel
theorem d_8_6_37 : decode prog_8_method_6_code 37 = .ok (.if_icmp .ge 132, 3) := by decide +kernel
theorem d_8_6_40 : decode prog_8_method_6_code 40 = .ok (.aload_n 0, 1) := by decide +kernel
theorem d_8_6_41 : decode prog_8_method_6_code 41 = .ok (.getfield 7, 3) := by decide +kernel
theorem d_8_6_44 : decode prog_8_method_6_code 44 = .ok (.iload 7, 2) := by decide +kernel
theorem d_8_6_46 : decode prog_8_method_6_code 46 = .ok (.caload, 1) := by decide +kernel
theorem d_8_6_47 : decode prog_8_method_6_code 47 = .ok (.istore 8, 2) := by decide +kernel
theorem d_8_6_49 : decode prog_8_method_6_code 49 = .ok (.iload 8, 2) := by decide +kernel
theorem d_8_6_51 : decode prog_8_method_6_code 51 = .ok (.bipush 46, 2) := by decide +kernel
theorem d_8_6_53 : decode prog_8_method_6_code 53 = .ok (.if_icmp .ne 7, 3) := by decide +kernel
theorem d_8_6_56 : decode prog_8_method_6_code 56 = .ok (.iconst 1, 1) := by decide +kernel
theorem d_8_6_57 : decode prog_8_method_6_code 57 = .ok (.goto 4, 3) := by decide +kernel
theorem d_8_6_60 : decode prog_8_method_6_code 60 = .ok (.iconst 0, 1) := by decide +kernel
theorem d_8_6_61 : decode prog_8_method_6_code 61 = .ok (.istore 9, 2) := by decide +kernel
theorem d_8_6_63 : decode prog_8_method_6_code 63 = .ok (.iload 9, 2) := by decide +kernel
theorem d_8_6_65 : decode prog_8_method_6_code 65 = .ok (.ifCond .ne 17, 3) := by decide +kernel
theorem d_8_6_68 : decode prog_8_method_6_code 68 = .ok (.iload 8, 2) := by decide +kernel
theorem d_8_6_70 : decode prog_8_method_6_code 70 = .ok (.bipush 97, 2) := by decide +kernel
theorem d_8_6_72 : decode prog_8_method_6_code 72 = .ok (.if_icmp .lt 42, 3) := by decide +kernel
theorem d_8_6_75 : decode prog_8_method_6_code 75 = .ok (.iload 8, 2) := by decide +kernel
theorem d_8_6_77 : decode prog_8_method_6_code 77 = .ok (.bipush 122, 2) := by decide +kernel
theorem d_8_6_79 : decode prog_8_method_6_code 79 = .ok (.if_icmp .gt 35, 3) := by decide +kernel
theorem d_8_6_82 : decode prog_8_method_6_code 82 = .ok (.iload 9, 2) := by decide +kernel
theorem d_8_6_84 : decode prog_8_method_6_code 84 = .ok (.ifCond .eq 8, 3) := by decide +kernel
theorem d_8_6_87 : decode prog_8_method_6_code 87 = .ok (.iload 5, 2) := by decide +kernel
theorem d_8_6_89 : decode prog_8_method_6_code 89 = .ok (.ifCond .eq 25, 3) := by decide +kernel
theorem d_8_6_92 : decode prog_8_method_6_code 92 = .ok (.iload 9, 2) := by decide +kernel
theorem d_8_6_94 : decode prog_8_method_6_code 94 = .ok (.ifCond .ne 9, 3) := by decide +kernel
theorem d_8_6_97 : decode prog_8_method_6_code 97 = .ok (.iload 5, 2) := by decide +kernel
theorem d_8_6_99 : decode prog_8_method_6_code 99 = .ok (.iconst 4, 1) := by decide +kernel
theorem d_8_6_100 : decode prog_8_method_6_code 100 = .ok (.if_icmp .eq 14, 3) := by decide +kernel
theorem d_8_6_103 : decode prog_8_method_6_code 103 = .ok (.iload 9, 2) := by decide +kernel
theorem d_8_6_105 : decode prog_8_method_6_code 105 = .ok (.ifCond .eq 11, 3) := by decide +kernel
theorem d_8_6_108 : decode prog_8_method_6_code 108 = .ok (.iload 4, 2) := by decide +kernel
theorem d_8_6_110 : decode prog_8_method_6_code 110 = .ok (.iconst 3, 1) := by decide +kernel
theorem d_8_6_111 : decode prog_8_method_6_code 111 = .ok (.if_icmp .ne 5, 3) := by decide +kernel
theorem d_8_6_114 : decode prog_8_method_6_code 114 = .ok (.lconst 0, 1) := by decide +kernel
theorem d_8_6_115 : decode prog_8_method_6_code 115 = .ok (.lreturn, 1) := by decide +kernel
theorem d_8_6_116 : decode prog_8_method_6_code 116 = .ok (.iload 9, 2) := by decide +kernel
theorem d_8_6_118 : decode prog_8_method_6_code 118 = .ok (.ifCond .eq 24, 3) := by decide +kernel
theorem d_8_6_121 : decode prog_8_method_6_code 121 = .ok (.lload_n 2, 1) := by decide +kernel
theorem d_8_6_122 : decode prog_8_method_6_code 122 = .ok (.bipush 20, 2) := by decide +kernel
theorem d_8_6_124 : decode prog_8_method_6_code 124 = .ok (.lshl, 1) := by decide +kernel
theorem d_8_6_125 : decode prog_8_method_6_code 125 = .ok (.iload 6, 2) := by decide +kernel
theorem d_8_6_127 : decode prog_8_method_6_code 127 = .ok (.i2l, 1) := by decide +kernel
theorem d_8_6_128 : decode prog_8_method_6_code 128 = .ok (.lor, 1) := by decide +kernel
theorem d_8_6_129 : decode prog_8_method_6_code 129 = .ok (.lstore_n 2, 1) := by decide +kernel
theorem d_8_6_130 : decode prog_8_method_6_code 130 = .ok (.iconst 0, 1) := by decide +kernel
theorem d_8_6_131 : decode prog_8_method_6_code 131 = .ok (.istore 6, 2) := by decide +kernel
theorem d_8_6_133 : decode prog_8_method_6_code 133 = .ok (.iconst 0, 1) := by decide +kernel
theorem d_8_6_134 : decode prog_8_method_6_code 134 = .ok (.istore 5, 2) := by decide +kernel
theorem d_8_6_136 : decode prog_8_method_6_code 136 = .ok (.iinc 4 1, 3) := by decide +kernel
theorem d_8_6_139 : decode prog_8_method_6_code 139 = .ok (.goto 24, 3) := by decide +kernel
theorem d_8_6_142 : decode prog_8_method_6_code 142 = .ok (.iload 6, 2) := by decide +kernel
theorem d_8_6_144 : decode prog_8_method_6_code 144 = .ok (.iload 8, 2) := by decide +kernel
theorem d_8_6_146 : decode prog_8_method_6_code 146 = .ok (.bipush 96, 2) := by decide +kernel
theorem d_8_6_148 : decode prog_8_method_6_code 148 = .ok (.isub, 1) := by decide +kernel
theorem d_8_6_149 : decode prog_8_method_6_code 149 = .ok (.bipush 15, 2) := by decide +kernel
theorem d_8_6_151 : decode prog_8_method_6_code 151 = .ok (.iconst 5, 1) := by decide +kernel
theorem d_8_6_152 : decode prog_8_method_6_code 152 = .ok (.iload 5, 2) := by decide +kernel
theorem d_8_6_154 : decode prog_8_method_6_code 154 = .ok (.imul, 1) := by decide +kernel
theorem d_8_6_155 : decode prog_8_method_6_code 155 = .ok (.isub, 1) := by decide +kernel
theorem d_8_6_156 : decode prog_8_method_6_code 156 = .ok (.ishl, 1) := by decide +kernel
theorem d_8_6_157 : decode prog_8_method_6_code 157 = .ok (.ior, 1) := by decide +kernel
theorem d_8_6_158 : decode prog_8_method_6_code 158 = .ok (.istore 6, 2) := by decide +kernel
theorem d_8_6_160 : decode prog_8_method_6_code 160 = .ok (.iinc 5 1, 3) := by decide +kernel
theorem d_8_6_163 : decode prog_8_method_6_code 163 = .ok (.iinc 7 1, 3) := by decide +kernel
theorem d_8_6_166 : decode prog_8_method_6_code 166 = .ok (.goto (-137), 3) := by decide +kernel
theorem d_8_6_169 : decode prog_8_method_6_code 169 = .ok (.iload 5, 2) := by decide +kernel
theorem d_8_6_171 : decode prog_8_method_6_code 171 = .ok (.ifCond .ne 5, 3) := by decide +kernel
theorem d_8_6_174 : decode prog_8_method_6_code 174 = .ok (.lconst 0, 1) := by decide +kernel
theorem d_8_6_175 : decode prog_8_method_6_code 175 = .ok (.lreturn, 1) := by decide +kernel
theorem d_8_6_176 : decode prog_8_method_6_code 176 = .ok (.lload_n 2, 1) := by decide +kernel
theorem d_8_6_177 : decode prog_8_method_6_code 177 = .ok (.bipush 20, 2) := by decide +kernel
theorem d_8_6_179 : decode prog_8_method_6_code 179 = .ok (.lshl, 1) := by decide +kernel
theorem d_8_6_180 : decode prog_8_method_6_code 180 = .ok (.iload 6, 2) := by decide +kernel
theorem d_8_6_182 : decode prog_8_method_6_code 182 = .ok (.i2l, 1) := by decide +kernel
theorem d_8_6_183 : decode prog_8_method_6_code 183 = .ok (.lor, 1) := by decide +kernel
theorem d_8_6_184 : decode prog_8_method_6_code 184 = .ok (.lstore_n 2, 1) := by decide +kernel
theorem d_8_6_185 : decode prog_8_method_6_code 185 = .ok (.lload_n 2, 1) := by decide +kernel
theorem d_8_6_186 : decode prog_8_method_6_code 186 = .ok (.bipush 20, 2) := by decide +kernel
theorem d_8_6_188 : decode prog_8_method_6_code 188 = .ok (.iconst 3, 1) := by decide +kernel
theorem d_8_6_189 : decode prog_8_method_6_code 189 = .ok (.iload 4, 2) := by decide +kernel
theorem d_8_6_191 : decode prog_8_method_6_code 191 = .ok (.isub, 1) := by decide +kernel
theorem d_8_6_192 : decode prog_8_method_6_code 192 = .ok (.imul, 1) := by decide +kernel
theorem d_8_6_193 : decode prog_8_method_6_code 193 = .ok (.lshl, 1) := by decide +kernel
theorem d_8_6_194 : decode prog_8_method_6_code 194 = .ok (.lreturn, 1) := by decide +kernel
theorem d_8_11_0 : decode prog_8_method_11_code 0 = .ok (.iconst 0, 1) := by decide +kernel
theorem d_8_11_1 : decode prog_8_method_11_code 1 = .ok (.istore_n 2, 1) := by decide +kernel
theorem d_8_11_2 : decode prog_8_method_11_code 2 = .ok (.iload_n 2, 1) := by decide +kernel
theorem d_8_11_3 : decode prog_8_method_11_code 3 = .ok (.aload_n 0, 1) := by decide +kernel
theorem d_8_11_4 : decode prog_8_method_11_code 4 = .ok (.getfield 95, 3) := by decide +kernel
theorem d_8_11_7 : decode prog_8_method_11_code 7 = .ok (.if_icmp .ge 21, 3) := by decide +kernel
theorem d_8_11_10 : decode prog_8_method_11_code 10 = .ok (.aload_n 0, 1) := by decide +kernel
theorem d_8_11_11 : decode prog_8_method_11_code 11 = .ok (.getfield 20, 3) := by decide +kernel
theorem d_8_11_14 : decode prog_8_method_11_code 14 = .ok (.iload_n 2, 1) := by decide +kernel
theorem d_8_11_15 : decode prog_8_method_11_code 15 = .ok (.iaload, 1) := by decide +kernel
theorem d_8_11_16 : decode prog_8_method_11_code 16 = .ok (.iload_n 1, 1) := by decide +kernel
theorem d_8_11_17 : decode prog_8_method_11_code 17 = .ok (.if_icmp .ne 5, 3) := by decide +kernel
theorem d_8_11_20 : decode prog_8_method_11_code 20 = .ok (.iload_n 2, 1) := by decide +kernel
theorem d_8_11_21 : decode prog_8_method_11_code 21 = .ok (.ireturn, 1) := by decide +kernel
theorem d_8_11_22 : decode prog_8_method_11_code 22 = .ok (.iinc 2 1, 3) := by decide +kernel
theorem d_8_11_25 : decode prog_8_method_11_code 25 = .ok (.goto (-23), 3) := by decide +kernel
theorem d_8_11_28 : decode prog_8_method_11_code 28 = .ok (.iconst (-1), 1) := by decide +kernel
theorem d_8_11_29 : decode prog_8_method_11_code 29 = .ok (.ireturn, 1) := by decide +kernel
theorem d_8_16_0 : decode prog_8_method_16_code 0 = .ok (.aload_n 0, 1) := by decide +kernel
theorem d_8_16_1 : decode prog_8_method_16_code 1 = .ok (.getfield 86, 3) := by decide +kernel
theorem d_8_16_4 : decode prog_8_method_16_code 4 = .ok (.iconst 2, 1) := by decide +kernel
theorem d_8_16_5 : decode prog_8_method_16_code 5 = .ok (.if_icmp .ne 11, 3) := by decide +kernel
theorem d_8_16_8 : decode prog_8_method_16_code 8 = .ok (.aload_n 0, 1) := by decide +kernel
theorem d_8_16_9 : decode prog_8_method_16_code 9 = .ok (.iconst 1, 1) := by decide +kernel
theorem d_8_16_10 : decode prog_8_method_16_code 10 = .ok (.invokevirtual 89, 3) := by decide +kernel
theorem d_8_16_13 : decode prog_8_method_16_code 13 = .ok (.goto 4, 3) := by decide +kernel
theorem d_8_16_16 : decode prog_8_method_16_code 16 = .ok (.lconst 0, 1) := by decide +kernel
theorem d_8_16_17 : decode prog_8_method_16_code 17 = .ok (.lstore_n 1, 1) := by decide +kernel
theorem d_8_16_18 : decode prog_8_method_16_code 18 = .ok (.aload_n 0, 1) := by decide +kernel
theorem d_8_16_19 : decode prog_8_method_16_code 19 = .ok (.getfield 95, 3) := by decide +kernel
theorem d_8_16_22 : decode prog_8_method_16_code 22 = .ok (.iconst 1, 1) := by decide +kernel
theorem d_8_16_23 : decode prog_8_method_16_code 23 = .ok (.isub, 1) := by decide +kernel
theorem d_8_16_24 : decode prog_8_method_16_code 24 = .ok (.istore_n 3, 1) := by decide +kernel
theorem d_8_16_25 : decode prog_8_method_16_code 25 = .ok (.lload_n 1, 1) := by decide +kernel
theorem d_8_16_26 : decode prog_8_method_16_code 26 = .ok (.lconst 0, 1) := by decide +kernel
theorem d_8_16_27 : decode prog_8_method_16_code 27 = .ok (.lcmp, 1) := by decide +kernel
theorem d_8_16_28 : decode prog_8_method_16_code 28 = .ok (.ifCond .eq 16, 3) := by decide +kernel
theorem d_8_16_31 : decode prog_8_method_16_code 31 = .ok (.iload_n 3, 1) := by decide +kernel
theorem d_8_16_32 : decode prog_8_method_16_code 32 = .ok (.ifCond .lt 14, 3) := by decide +kernel
theorem d_8_16_35 : decode prog_8_method_16_code 35 = .ok (.aload_n 0, 1) := by decide +kernel
theorem d_8_16_36 : decode prog_8_method_16_code 36 = .ok (.iload_n 3, 1) := by decide +kernel
theorem d_8_16_37 : decode prog_8_method_16_code 37 = .ok (.lload_n 1, 1) := by decide +kernel
theorem d_8_16_38 : decode prog_8_method_16_code 38 = .ok (.invokevirtual 148, 3) := by decide +kernel
theorem d_8_16_41 : decode prog_8_method_16_code 41 = .ok (.ifCond .eq 5, 3) := by decide +kernel
theorem d_8_16_44 : decode prog_8_method_16_code 44 = .ok (.iconst (-1), 1) := by decide +kernel
theorem d_8_16_45 : decode prog_8_method_16_code 45 = .ok (.ireturn, 1) := by decide +kernel
theorem d_8_16_46 : decode prog_8_method_16_code 46 = .ok (.iload_n 3, 1) := by decide +kernel
theorem d_8_16_47 : decode prog_8_method_16_code 47 = .ok (.ifCond .lt 14, 3) := by decide +kernel
theorem d_8_16_50 : decode prog_8_method_16_code 50 = .ok (.aload_n 0, 1) := by decide +kernel
theorem d_8_16_51 : decode prog_8_method_16_code 51 = .ok (.getfield 23, 3) := by decide +kernel
theorem d_8_16_54 : decode prog_8_method_16_code 54 = .ok (.iload_n 3, 1) := by decide +kernel
theorem d_8_16_55 : decode prog_8_method_16_code 55 = .ok (.iaload, 1) := by decide +kernel
theorem d_8_16_56 : decode prog_8_method_16_code 56 = .ok (.bipush 6, 2) := by decide +kernel
theorem d_8_16_58 : decode prog_8_method_16_code 58 = .ok (.if_icmp .ne 6, 3) := by decide +kernel
theorem d_8_16_61 : decode prog_8_method_16_code 61 = .ok (.bipush (-2), 2) := by decide +kernel
theorem d_8_16_63 : decode prog_8_method_16_code 63 = .ok (.ireturn, 1) := by decide +kernel
theorem d_8_16_64 : decode prog_8_method_16_code 64 = .ok (.aload_n 0, 1) := by decide +kernel
theorem d_8_16_65 : decode prog_8_method_16_code 65 = .ok (.getfield 29, 3) := by decide +kernel
theorem d_8_16_68 : decode prog_8_method_16_code 68 = .ok (.bipush 6, 2) := by decide +kernel
theorem d_8_16_70 : decode prog_8_method_16_code 70 = .ok (.iload_n 3, 1) := by decide +kernel
theorem d_8_16_71 : decode prog_8_method_16_code 71 = .ok (.imul, 1) := by decide +kernel
theorem d_8_16_72 : decode prog_8_method_16_code 72 = .ok (.aload_n 0, 1) := by decide +kernel
theorem d_8_16_73 : decode prog_8_method_16_code 73 = .ok (.getfield 23, 3) := by decide +kernel
theorem d_8_16_76 : decode prog_8_method_16_code 76 = .ok (.iload_n 3, 1) := by decide +kernel
theorem d_8_16_77 : decode prog_8_method_16_code 77 = .ok (.iaload, 1) := by decide +kernel
theorem d_8_16_78 : decode prog_8_method_16_code 78 = .ok (.iadd, 1) := by decide +kernel
theorem d_8_16_79 : decode prog_8_method_16_code 79 = .ok (.lload_n 1, 1) := by decide +kernel
theorem d_8_16_80 : decode prog_8_method_16_code 80 = .ok (.lastore, 1) := by decide +kernel
theorem d_8_16_81 : decode prog_8_method_16_code 81 = .ok (.aload_n 0, 1) := by decide +kernel
theorem d_8_16_82 : decode prog_8_method_16_code 82 = .ok (.getfield 23, 3) := by decide +kernel
theorem d_8_16_85 : decode prog_8_method_16_code 85 = .ok (.iload_n 3, 1) := by decide +kernel
theorem d_8_16_86 : decode prog_8_method_16_code 86 = .ok (.dup2, 1) := by decide +kernel
theorem d_8_16_87 : decode prog_8_method_16_code 87 = .ok (.iaload, 1) := by decide +kernel
theorem d_8_16_88 : decode prog_8_method_16_code 88 = .ok (.iconst 1, 1) := by decide +kernel
theorem d_8_16_89 : decode prog_8_method_16_code 89 = .ok (.iadd, 1) := by decide +kernel
theorem d_8_16_90 : decode prog_8_method_16_code 90 = .ok (.iastore, 1) := by decide +kernel
theorem d_8_16_91 : decode prog_8_method_16_code 91 = .ok (.iconst 2, 1) := by decide +kernel
theorem d_8_16_92 : decode prog_8_method_16_code 92 = .ok (.ireturn, 1) := by decide +kernel
theorem d_8_15_0 : decode prog_8_method_15_code 0 = .ok (.iconst 0, 1) := by decide +kernel
theorem d_8_15_1 : decode prog_8_method_15_code 1 = .ok (.istore 4, 2) := by decide +kernel
theorem d_8_15_3 : decode prog_8_method_15_code 3 = .ok (.bipush 6, 2) := by decide +kernel
theorem d_8_15_5 : decode prog_8_method_15_code 5 = .ok (.iload_n 1, 1) := by decide +kernel
theorem d_8_15_6 : decode prog_8_method_15_code 6 = .ok (.imul, 1) := by decide +kernel
theorem d_8_15_7 : decode prog_8_method_15_code 7 = .ok (.istore 5, 2) := by decide +kernel
theorem d_8_15_9 : decode prog_8_method_15_code 9 = .ok (.iload 5, 2) := by decide +kernel
theorem d_8_15_11 : decode prog_8_method_15_code 11 = .ok (.bipush 6, 2) := by decide +kernel
theorem d_8_15_13 : decode prog_8_method_15_code 13 = .ok (.iload_n 1, 1) := by decide +kernel
theorem d_8_15_14 : decode prog_8_method_15_code 14 = .ok (.imul, 1) := by decide +kernel
theorem d_8_15_15 : decode prog_8_method_15_code 15 = .ok (.aload_n 0, 1) := by decide +kernel
theorem d_8_15_16 : decode prog_8_method_15_code 16 = .ok (.getfield 23, 3) := by decide +kernel
theorem d_8_15_19 : decode prog_8_method_15_code 19 = .ok (.iload_n 1, 1) := by decide +kernel
theorem d_8_15_20 : decode prog_8_method_15_code 20 = .ok (.iaload, 1) := by decide +kernel
theorem d_8_15_21 : decode prog_8_method_15_code 21 = .ok (.iadd, 1) := by decide +kernel
theorem d_8_15_22 : decode prog_8_method_15_code 22 = .ok (.if_icmp .ge 33, 3) := by decide +kernel
theorem d_8_15_25 : decode prog_8_method_15_code 25 = .ok (.iload 4, 2) := by decide +kernel
theorem d_8_15_27 : decode prog_8_method_15_code 27 = .ok (.ifCond .ne 15, 3) := by decide +kernel
theorem d_8_15_30 : decode prog_8_method_15_code 30 = .ok (.aload_n 0, 1) := by decide +kernel
theorem d_8_15_31 : decode prog_8_method_15_code 31 = .ok (.getfield 29, 3) := by decide +kernel
theorem d_8_15_34 : decode prog_8_method_15_code 34 = .ok (.iload 5, 2) := by decide +kernel
theorem d_8_15_36 : decode prog_8_method_15_code 36 = .ok (.laload, 1) := by decide +kernel
theorem d_8_15_37 : decode prog_8_method_15_code 37 = .ok (.lload_n 2, 1) := by decide +kernel
theorem d_8_15_38 : decode prog_8_method_15_code 38 = .ok (.lcmp, 1) := by decide +kernel
theorem d_8_15_39 : decode prog_8_method_15_code 39 = .ok (.ifCond .ne 7, 3) := by decide +kernel
theorem d_8_15_42 : decode prog_8_method_15_code 42 = .ok (.iconst 1, 1) := by decide +kernel
theorem d_8_15_43 : decode prog_8_method_15_code 43 = .ok (.goto 4, 3) := by decide +kernel
theorem d_8_15_46 : decode prog_8_method_15_code 46 = .ok (.iconst 0, 1) := by decide +kernel
theorem d_8_15_47 : decode prog_8_method_15_code 47 = .ok (.istore 4, 2) := by decide +kernel
theorem d_8_15_49 : decode prog_8_method_15_code 49 = .ok (.iinc 5 1, 3) := by decide +kernel
theorem d_8_15_52 : decode prog_8_method_15_code 52 = .ok (.goto (-43), 3) := by decide +kernel
theorem d_8_15_55 : decode prog_8_method_15_code 55 = .ok (.iload 4, 2) := by decide +kernel
theorem d_8_15_57 : decode prog_8_method_15_code 57 = .ok (.ireturn, 1) := by decide +kernel
theorem d_8_17_0 : decode prog_8_method_17_code 0 = .ok (.aload_n 0, 1) := by decide +kernel
theorem d_8_17_1 : decode prog_8_method_17_code 1 = .ok (.getfield 86, 3) := by decide +kernel
theorem d_8_17_4 : decode prog_8_method_17_code 4 = .ok (.iconst 2, 1) := by decide +kernel
theorem d_8_17_5 : decode prog_8_method_17_code 5 = .ok (.if_icmp .ne 11, 3) := by decide +kernel
theorem d_8_17_8 : decode prog_8_method_17_code 8 = .ok (.aload_n 0, 1) := by decide +kernel
theorem d_8_17_9 : decode prog_8_method_17_code 9 = .ok (.iconst 1, 1) := by decide +kernel
theorem d_8_17_10 : decode prog_8_method_17_code 10 = .ok (.invokevirtual 142, 3) := by decide +kernel
theorem d_8_17_13 : decode prog_8_method_17_code 13 = .ok (.goto 4, 3) := by decide +kernel
theorem d_8_17_16 : decode prog_8_method_17_code 16 = .ok (.iconst 0, 1) := by decide +kernel
theorem d_8_17_17 : decode prog_8_method_17_code 17 = .ok (.istore_n 1, 1) := by decide +kernel
theorem d_8_17_18 : decode prog_8_method_17_code 18 = .ok (.iload_n 1, 1) := by decide +kernel
theorem d_8_17_19 : decode prog_8_method_17_code 19 = .ok (.ifCond .eq 11, 3) := by decide +kernel
theorem d_8_17_22 : decode prog_8_method_17_code 22 = .ok (.aload_n 0, 1) := by decide +kernel
theorem d_8_17_23 : decode prog_8_method_17_code 23 = .ok (.iload_n 1, 1) := by decide +kernel
theorem d_8_17_24 : decode prog_8_method_17_code 24 = .ok (.invokevirtual 152, 3) := by decide +kernel
theorem d_8_17_27 : decode prog_8_method_17_code 27 = .ok (.ifCond .lt 5, 3) := by decide +kernel
theorem d_8_17_30 : decode prog_8_method_17_code 30 = .ok (.iconst (-1), 1) := by decide +kernel
theorem d_8_17_31 : decode prog_8_method_17_code 31 = .ok (.ireturn, 1) := by decide +kernel
theorem d_8_17_32 : decode prog_8_method_17_code 32 = .ok (.aload_n 0, 1) := by decide +kernel
theorem d_8_17_33 : decode prog_8_method_17_code 33 = .ok (.getfield 98, 3) := by decide +kernel
theorem d_8_17_36 : decode prog_8_method_17_code 36 = .ok (.bipush 8, 2) := by decide +kernel
theorem d_8_17_38 : decode prog_8_method_17_code 38 = .ok (.if_icmp .ne 6, 3) := by decide +kernel
theorem d_8_17_41 : decode prog_8_method_17_code 41 = .ok (.bipush (-2), 2) := by decide +kernel
theorem d_8_17_43 : decode prog_8_method_17_code 43 = .ok (.ireturn, 1) := by decide +kernel
theorem d_8_17_44 : decode prog_8_method_17_code 44 = .ok (.aload_n 0, 1) := by decide +kernel
theorem d_8_17_45 : decode prog_8_method_17_code 45 = .ok (.getfield 33, 3) := by decide +kernel
theorem d_8_17_48 : decode prog_8_method_17_code 48 = .ok (.aload_n 0, 1) := by decide +kernel
theorem d_8_17_49 : decode prog_8_method_17_code 49 = .ok (.getfield 98, 3) := by decide +kernel
theorem d_8_17_52 : decode prog_8_method_17_code 52 = .ok (.iload_n 1, 1) := by decide +kernel
theorem d_8_17_53 : decode prog_8_method_17_code 53 = .ok (.iastore, 1) := by decide +kernel
theorem d_8_17_54 : decode prog_8_method_17_code 54 = .ok (.aload_n 0, 1) := by decide +kernel
theorem d_8_17_55 : decode prog_8_method_17_code 55 = .ok (.getfield 48, 3) := by decide +kernel
theorem d_8_17_58 : decode prog_8_method_17_code 58 = .ok (.aload_n 0, 1) := by decide +kernel
theorem d_8_17_59 : decode prog_8_method_17_code 59 = .ok (.getfield 98, 3) := by decide +kernel
theorem d_8_17_62 : decode prog_8_method_17_code 62 = .ok (.iconst (-1), 1) := by decide +kernel
theorem d_8_17_63 : decode prog_8_method_17_code 63 = .ok (.iastore, 1) := by decide +kernel
theorem d_8_17_64 : decode prog_8_method_17_code 64 = .ok (.aload_n 0, 1) := by decide +kernel
theorem d_8_17_65 : decode prog_8_method_17_code 65 = .ok (.dup, 1) := by decide +kernel
theorem d_8_17_66 : decode prog_8_method_17_code 66 = .ok (.getfield 98, 3) := by decide +kernel
theorem d_8_17_69 : decode prog_8_method_17_code 69 = .ok (.iconst 1, 1) := by decide +kernel
theorem d_8_17_70 : decode prog_8_method_17_code 70 = .ok (.iadd, 1) := by decide +kernel
theorem d_8_17_71 : decode prog_8_method_17_code 71 = .ok (.putfield 98, 3) := by decide +kernel
theorem d_8_17_74 : decode prog_8_method_17_code 74 = .ok (.iconst 3, 1) := by decide +kernel
theorem d_8_17_75 : decode prog_8_method_17_code 75 = .ok (.ireturn, 1) := by decide +kernel
theorem d_8_12_0 : decode prog_8_method_12_code 0 = .ok (.iconst 0, 1) := by decide +kernel
theorem d_8_12_1 : decode prog_8_method_12_code 1 = .ok (.istore_n 2, 1) := by decide +kernel
theorem d_8_12_2 : decode prog_8_method_12_code 2 = .ok (.iload_n 2, 1) := by decide +kernel
theorem d_8_12_3 : decode prog_8_method_12_code 3 = .ok (.aload_n 0, 1) := by decide +kernel
theorem d_8_12_4 : decode prog_8_method_12_code 4 = .ok (.getfield 98, 3) := by decide +kernel
theorem d_8_12_7 : decode prog_8_method_12_code 7 = .ok (.if_icmp .ge 30, 3) := by decide +kernel
theorem d_8_12_10 : decode prog_8_method_12_code 10 = .ok (.aload_n 0, 1) := by decide +kernel
theorem d_8_12_11 : decode prog_8_method_12_code 11 = .ok (.getfield 33, 3) := by decide +kernel
theorem d_8_12_14 : decode prog_8_method_12_code 14 = .ok (.iload_n 2, 1) := by decide +kernel
theorem d_8_12_15 : decode prog_8_method_12_code 15 = .ok (.iaload, 1) := by decide +kernel
theorem d_8_12_16 : decode prog_8_method_12_code 16 = .ok (.iload_n 1, 1) := by decide +kernel
theorem d_8_12_17 : decode prog_8_method_12_code 17 = .ok (.if_icmp .ne 14, 3) := by decide +kernel
theorem d_8_12_20 : decode prog_8_method_12_code 20 = .ok (.aload_n 0, 1) := by decide +kernel
theorem d_8_12_21 : decode prog_8_method_12_code 21 = .ok (.getfield 63, 3) := by decide +kernel
theorem d_8_12_24 : decode prog_8_method_12_code 24 = .ok (.iload_n 2, 1) := by decide +kernel
theorem d_8_12_25 : decode prog_8_method_12_code 25 = .ok (.baload, 1) := by decide +kernel
theorem d_8_12_26 : decode prog_8_method_12_code 26 = .ok (.ifCond .ne 5, 3) := by decide +kernel
theorem d_8_12_29 : decode prog_8_method_12_code 29 = .ok (.iload_n 2, 1) := by decide +kernel
theorem d_8_12_30 : decode prog_8_method_12_code 30 = .ok (.ireturn, 1) := by decide +kernel
theorem d_8_12_31 : decode prog_8_method_12_code 31 = .ok (.iinc 2 1, 3) := by decide +kernel
theorem d_8_12_34 : decode prog_8_method_12_code 34 = .ok (.goto (-32), 3) := by decide +kernel
theorem d_8_12_37 : decode prog_8_method_12_code 37 = .ok (.iconst (-1), 1) := by decide +kernel
theorem d_8_12_38 : decode prog_8_method_12_code 38 = .ok (.ireturn, 1) := by decide +kernel
theorem d_8_19_0 : decode prog_8_method_19_code 0 = .ok (.aload_n 0, 1) := by decide +kernel
theorem d_8_19_1 : decode prog_8_method_19_code 1 = .ok (.getfield 86, 3) := by decide +kernel
theorem d_8_19_4 : decode prog_8_method_19_code 4 = .ok (.iconst 2, 1) := by decide +kernel
theorem d_8_19_5 : decode prog_8_method_19_code 5 = .ok (.if_icmp .ne 11, 3) := by decide +kernel
theorem d_8_19_8 : decode prog_8_method_19_code 8 = .ok (.aload_n 0, 1) := by decide +kernel
theorem d_8_19_9 : decode prog_8_method_19_code 9 = .ok (.iconst 1, 1) := by decide +kernel
theorem d_8_19_10 : decode prog_8_method_19_code 10 = .ok (.invokevirtual 142, 3) := by decide +kernel
theorem d_8_19_13 : decode prog_8_method_19_code 13 = .ok (.goto 4, 3) := by decide +kernel
theorem d_8_19_16 : decode prog_8_method_19_code 16 = .ok (.iconst 0, 1) := by decide +kernel
theorem d_8_19_17 : decode prog_8_method_19_code 17 = .ok (.istore_n 1, 1) := by decide +kernel
theorem d_8_19_18 : decode prog_8_method_19_code 18 = .ok (.iload_n 1, 1) := by decide +kernel
theorem d_8_19_19 : decode prog_8_method_19_code 19 = .ok (.ifCond .ne 7, 3) := by decide +kernel
theorem d_8_19_22 : decode prog_8_method_19_code 22 = .ok (.iconst (-1), 1) := by decide +kernel
theorem d_8_19_23 : decode prog_8_method_19_code 23 = .ok (.goto 8, 3) := by decide +kernel
theorem d_8_19_26 : decode prog_8_method_19_code 26 = .ok (.aload_n 0, 1) := by decide +kernel
theorem d_8_19_27 : decode prog_8_method_19_code 27 = .ok (.iload_n 1, 1) := by decide +kernel
theorem d_8_19_28 : decode prog_8_method_19_code 28 = .ok (.invokevirtual 145, 3) := by decide +kernel
theorem d_8_19_31 : decode prog_8_method_19_code 31 = .ok (.istore_n 2, 1) := by decide +kernel
theorem d_8_19_32 : decode prog_8_method_19_code 32 = .ok (.aload_n 0, 1) := by decide +kernel
theorem d_8_19_33 : decode prog_8_method_19_code 33 = .ok (.getfield 98, 3) := by decide +kernel
theorem d_8_19_36 : decode prog_8_method_19_code 36 = .ok (.iconst 1, 1) := by decide +kernel
theorem d_8_19_37 : decode prog_8_method_19_code 37 = .ok (.isub, 1) := by decide +kernel
theorem d_8_19_38 : decode prog_8_method_19_code 38 = .ok (.istore_n 3, 1) := by decide +kernel
theorem d_8_19_39 : decode prog_8_method_19_code 39 = .ok (.iconst 0, 1) := by decide +kernel
theorem d_8_19_40 : decode prog_8_method_19_code 40 = .ok (.istore 4, 2) := by decide +kernel
theorem d_8_19_42 : decode prog_8_method_19_code 42 = .ok (.iconst 4, 1) := by decide +kernel
theorem d_8_19_43 : decode prog_8_method_19_code 43 = .ok (.iload_n 3, 1) := by decide +kernel
theorem d_8_19_44 : decode prog_8_method_19_code 44 = .ok (.imul, 1) := by decide +kernel
theorem d_8_19_45 : decode prog_8_method_19_code 45 = .ok (.istore 5, 2) := by decide +kernel
theorem d_8_19_47 : decode prog_8_method_19_code 47 = .ok (.iload_n 3, 1) := by decide +kernel
theorem d_8_19_48 : decode prog_8_method_19_code 48 = .ok (.ifCond .lt 47, 3) := by decide +kernel
theorem d_8_19_51 : decode prog_8_method_19_code 51 = .ok (.iload 5, 2) := by decide +kernel
theorem d_8_19_53 : decode prog_8_method_19_code 53 = .ok (.iconst 4, 1) := by decide +kernel
theorem d_8_19_54 : decode prog_8_method_19_code 54 = .ok (.iload_n 3, 1) := by decide +kernel
theorem d_8_19_55 : decode prog_8_method_19_code 55 = .ok (.imul, 1) := by decide +kernel
theorem d_8_19_56 : decode prog_8_method_19_code 56 = .ok (.aload_n 0, 1) := by decide +kernel
theorem d_8_19_57 : decode prog_8_method_19_code 57 = .ok (.getfield 36, 3) := by decide +kernel
theorem d_8_19_60 : decode prog_8_method_19_code 60 = .ok (.iload_n 3, 1) := by decide +kernel
theorem d_8_19_61 : decode prog_8_method_19_code 61 = .ok (.iaload, 1) := by decide +kernel
theorem d_8_19_62 : decode prog_8_method_19_code 62 = .ok (.iadd, 1) := by decide +kernel
theorem d_8_19_63 : decode prog_8_method_19_code 63 = .ok (.if_icmp .ge 32, 3) := by decide +kernel
theorem d_8_19_66 : decode prog_8_method_19_code 66 = .ok (.iload 4, 2) := by decide +kernel
theorem d_8_19_68 : decode prog_8_method_19_code 68 = .ok (.ifCond .ne 14, 3) := by decide +kernel
theorem d_8_19_71 : decode prog_8_method_19_code 71 = .ok (.aload_n 0, 1) := by decide +kernel
theorem d_8_19_72 : decode prog_8_method_19_code 72 = .ok (.getfield 39, 3) := by decide +kernel
theorem d_8_19_75 : decode prog_8_method_19_code 75 = .ok (.iload 5, 2) := by decide +kernel
theorem d_8_19_77 : decode prog_8_method_19_code 77 = .ok (.iaload, 1) := by decide +kernel
theorem d_8_19_78 : decode prog_8_method_19_code 78 = .ok (.iload_n 2, 1) := by decide +kernel
theorem d_8_19_79 : decode prog_8_method_19_code 79 = .ok (.if_icmp .ne 7, 3) := by decide +kernel
theorem d_8_19_82 : decode prog_8_method_19_code 82 = .ok (.iconst 1, 1) := by decide +kernel
theorem d_8_19_83 : decode prog_8_method_19_code 83 = .ok (.goto 4, 3) := by decide +kernel
theorem d_8_19_86 : decode prog_8_method_19_code 86 = .ok (.iconst 0, 1) := by decide +kernel
theorem d_8_19_87 : decode prog_8_method_19_code 87 = .ok (.istore 4, 2) := by decide +kernel
theorem d_8_19_89 : decode prog_8_method_19_code 89 = .ok (.iinc 5 1, 3) := by decide +kernel
theorem d_8_19_92 : decode prog_8_method_19_code 92 = .ok (.goto (-45), 3) := by decide +kernel
theorem d_8_19_95 : decode prog_8_method_19_code 95 = .ok (.iload_n 2, 1) := by decide +kernel
theorem d_8_19_96 : decode prog_8_method_19_code 96 = .ok (.ifCond .lt 8, 3) := by decide +kernel
theorem d_8_19_99 : decode prog_8_method_19_code 99 = .ok (.iload 4, 2) := by decide +kernel
theorem d_8_19_101 : decode prog_8_method_19_code 101 = .ok (.ifCond .eq 5, 3) := by decide +kernel
theorem d_8_19_104 : decode prog_8_method_19_code 104 = .ok (.iconst (-1), 1) := by decide +kernel
theorem d_8_19_105 : decode prog_8_method_19_code 105 = .ok (.ireturn, 1) := by decide +kernel
theorem d_8_19_106 : decode prog_8_method_19_code 106 = .ok (.aload_n 0, 1) := by decide +kernel
theorem d_8_19_107 : decode prog_8_method_19_code 107 = .ok (.invokevirtual 155, 3) := by decide +kernel
theorem d_8_19_110 : decode prog_8_method_19_code 110 = .ok (.ifCond .ne 13, 3) := by decide +kernel
theorem d_8_19_113 : decode prog_8_method_19_code 113 = .ok (.aload_n 0, 1) := by decide +kernel
theorem d_8_19_114 : decode prog_8_method_19_code 114 = .ok (.getfield 36, 3) := by decide +kernel
theorem d_8_19_117 : decode prog_8_method_19_code 117 = .ok (.iload_n 3, 1) := by decide +kernel
theorem d_8_19_118 : decode prog_8_method_19_code 118 = .ok (.iaload, 1) := by decide +kernel
theorem d_8_19_119 : decode prog_8_method_19_code 119 = .ok (.iconst 4, 1) := by decide +kernel
theorem d_8_19_120 : decode prog_8_method_19_code 120 = .ok (.if_icmp .ne 6, 3) := by decide +kernel
theorem d_8_19_123 : decode prog_8_method_19_code 123 = .ok (.bipush (-2), 2) := by decide +kernel
theorem d_8_19_125 : decode prog_8_method_19_code 125 = .ok (.ireturn, 1) := by decide +kernel
theorem d_8_19_126 : decode prog_8_method_19_code 126 = .ok (.aload_n 0, 1) := by decide +kernel
theorem d_8_19_127 : decode prog_8_method_19_code 127 = .ok (.getfield 39, 3) := by decide +kernel
theorem d_8_19_130 : decode prog_8_method_19_code 130 = .ok (.iconst 4, 1) := by decide +kernel
theorem d_8_19_131 : decode prog_8_method_19_code 131 = .ok (.iload_n 3, 1) := by decide +kernel
theorem d_8_19_132 : decode prog_8_method_19_code 132 = .ok (.imul, 1) := by decide +kernel
theorem d_8_19_133 : decode prog_8_method_19_code 133 = .ok (.aload_n 0, 1) := by decide +kernel
theorem d_8_19_134 : decode prog_8_method_19_code 134 = .ok (.getfield 36, 3) := by decide +kernel
theorem d_8_19_137 : decode prog_8_method_19_code 137 = .ok (.iload_n 3, 1) := by decide +kernel
theorem d_8_19_138 : decode prog_8_method_19_code 138 = .ok (.iaload, 1) := by decide +kernel
theorem d_8_19_139 : decode prog_8_method_19_code 139 = .ok (.iadd, 1) := by decide +kernel
theorem d_8_19_140 : decode prog_8_method_19_code 140 = .ok (.iload_n 2, 1) := by decide +kernel
theorem d_8_19_141 : decode prog_8_method_19_code 141 = .ok (.iastore, 1) := by decide +kernel
theorem d_8_19_142 : decode prog_8_method_19_code 142 = .ok (.aload_n 0, 1) := by decide +kernel
theorem d_8_19_143 : decode prog_8_method_19_code 143 = .ok (.getfield 36, 3) := by decide +kernel
theorem d_8_19_146 : decode prog_8_method_19_code 146 = .ok (.iload_n 3, 1) := by decide +kernel
theorem d_8_19_147 : decode prog_8_method_19_code 147 = .ok (.dup2, 1) := by decide +kernel
theorem d_8_19_148 : decode prog_8_method_19_code 148 = .ok (.iaload, 1) := by decide +kernel
theorem d_8_19_149 : decode prog_8_method_19_code 149 = .ok (.iconst 1, 1) := by decide +kernel
theorem d_8_19_150 : decode prog_8_method_19_code 150 = .ok (.iadd, 1) := by decide +kernel
theorem d_8_19_151 : decode prog_8_method_19_code 151 = .ok (.iastore, 1) := by decide +kernel
theorem d_8_19_152 : decode prog_8_method_19_code 152 = .ok (.iconst 4, 1) := by decide +kernel
theorem d_8_19_153 : decode prog_8_method_19_code 153 = .ok (.ireturn, 1) := by decide +kernel
theorem d_8_18_0 : decode prog_8_method_18_code 0 = .ok (.aload_n 0, 1) := by decide +kernel
theorem d_8_18_1 : decode prog_8_method_18_code 1 = .ok (.getfield 98, 3) := by decide +kernel
theorem d_8_18_4 : decode prog_8_method_18_code 4 = .ok (.ifCond .eq 17, 3) := by decide +kernel
theorem d_8_18_7 : decode prog_8_method_18_code 7 = .ok (.aload_n 0, 1) := by decide +kernel
theorem d_8_18_8 : decode prog_8_method_18_code 8 = .ok (.getfield 63, 3) := by decide +kernel
theorem d_8_18_11 : decode prog_8_method_18_code 11 = .ok (.aload_n 0, 1) := by decide +kernel
theorem d_8_18_12 : decode prog_8_method_18_code 12 = .ok (.getfield 98, 3) := by decide +kernel
theorem d_8_18_15 : decode prog_8_method_18_code 15 = .ok (.iconst 1, 1) := by decide +kernel
theorem d_8_18_16 : decode prog_8_method_18_code 16 = .ok (.isub, 1) := by decide +kernel
theorem d_8_18_17 : decode prog_8_method_18_code 17 = .ok (.baload, 1) := by decide +kernel
theorem d_8_18_18 : decode prog_8_method_18_code 18 = .ok (.ifCond .eq 7, 3) := by decide +kernel
theorem d_8_18_21 : decode prog_8_method_18_code 21 = .ok (.iconst 1, 1) := by decide +kernel
theorem d_8_18_22 : decode prog_8_method_18_code 22 = .ok (.goto 4, 3) := by decide +kernel
theorem d_8_18_25 : decode prog_8_method_18_code 25 = .ok (.iconst 0, 1) := by decide +kernel
theorem d_8_18_26 : decode prog_8_method_18_code 26 = .ok (.ireturn, 1) := by decide +kernel
theorem d_8_20_0 : decode prog_8_method_20_code 0 = .ok (.aload_n 0, 1) := by decide +kernel
theorem d_8_20_1 : decode prog_8_method_20_code 1 = .ok (.getfield 86, 3) := by decide +kernel
theorem d_8_20_4 : decode prog_8_method_20_code 4 = .ok (.iconst 4, 1) := by decide +kernel
theorem d_8_20_5 : decode prog_8_method_20_code 5 = .ok (.if_icmp .ne 36, 3) := by decide +kernel
theorem d_8_20_8 : decode prog_8_method_20_code 8 = .ok (.aload_n 0, 1) := by decide +kernel
theorem d_8_20_9 : decode prog_8_method_20_code 9 = .ok (.iconst 2, 1) := by decide +kernel
theorem d_8_20_10 : decode prog_8_method_20_code 10 = .ok (.bipush 102, 2) := by decide +kernel
theorem d_8_20_12 : decode prog_8_method_20_code 12 = .ok (.bipush 114, 2) := by decide +kernel
theorem d_8_20_14 : decode prog_8_method_20_code 14 = .ok (.bipush 111, 2) := by decide +kernel
theorem d_8_20_16 : decode prog_8_method_20_code 16 = .ok (.bipush 109, 2) := by decide +kernel
theorem d_8_20_18 : decode prog_8_method_20_code 18 = .ok (.invokevirtual 104, 3) := by decide +kernel
theorem d_8_20_21 : decode prog_8_method_20_code 21 = .ok (.ifCond .eq 20, 3) := by decide +kernel
theorem d_8_20_24 : decode prog_8_method_20_code 24 = .ok (.aload_n 0, 1) := by decide +kernel
theorem d_8_20_25 : decode prog_8_method_20_code 25 = .ok (.iconst 2, 1) := by decide +kernel
theorem d_8_20_26 : decode prog_8_method_20_code 26 = .ok (.iconst 4, 1) := by decide +kernel
theorem d_8_20_27 : decode prog_8_method_20_code 27 = .ok (.invokevirtual 108, 3) := by decide +kernel
theorem d_8_20_30 : decode prog_8_method_20_code 30 = .ok (.ifCond .eq 11, 3) := by decide +kernel
theorem d_8_20_33 : decode prog_8_method_20_code 33 = .ok (.aload_n 0, 1) := by decide +kernel
theorem d_8_20_34 : decode prog_8_method_20_code 34 = .ok (.iconst 1, 1) := by decide +kernel
theorem d_8_20_35 : decode prog_8_method_20_code 35 = .ok (.invokevirtual 89, 3) := by decide +kernel
theorem d_8_20_38 : decode prog_8_method_20_code 38 = .ok (.goto 4, 3) := by decide +kernel
theorem d_8_20_41 : decode prog_8_method_20_code 41 = .ok (.lconst 0, 1) := by decide +kernel
theorem d_8_20_42 : decode prog_8_method_20_code 42 = .ok (.lstore_n 1, 1) := by decide +kernel
theorem d_8_20_43 : decode prog_8_method_20_code 43 = .ok (.lload_n 1, 1) := by decide +kernel
theorem d_8_20_44 : decode prog_8_method_20_code 44 = .ok (.lconst 0, 1) := by decide +kernel
theorem d_8_20_45 : decode prog_8_method_20_code 45 = .ok (.lcmp, 1) := by decide +kernel
theorem d_8_20_46 : decode prog_8_method_20_code 46 = .ok (.ifCond .ne 7, 3) := by decide +kernel
theorem d_8_20_49 : decode prog_8_method_20_code 49 = .ok (.iconst 0, 1) := by decide +kernel
theorem d_8_20_50 : decode prog_8_method_20_code 50 = .ok (.goto 8, 3) := by decide +kernel
theorem d_8_20_53 : decode prog_8_method_20_code 53 = .ok (.aload_n 0, 1) := by decide +kernel
theorem d_8_20_54 : decode prog_8_method_20_code 54 = .ok (.iconst 3, 1) := by decide +kernel
theorem d_8_20_55 : decode prog_8_method_20_code 55 = .ok (.invokevirtual 142, 3) := by decide +kernel
theorem d_8_20_58 : decode prog_8_method_20_code 58 = .ok (.istore_n 3, 1) := by decide +kernel
theorem d_8_20_59 : decode prog_8_method_20_code 59 = .ok (.iload_n 3, 1) := by decide +kernel
theorem d_8_20_60 : decode prog_8_method_20_code 60 = .ok (.ifCond .ne 7, 3) := by decide +kernel
theorem d_8_20_63 : decode prog_8_method_20_code 63 = .ok (.iconst (-1), 1) := by decide +kernel
theorem d_8_20_64 : decode prog_8_method_20_code 64 = .ok (.goto 8, 3) := by decide +kernel
theorem d_8_20_67 : decode prog_8_method_20_code 67 = .ok (.aload_n 0, 1) := by decide +kernel
theorem d_8_20_68 : decode prog_8_method_20_code 68 = .ok (.iload_n 3, 1) := by decide +kernel
theorem d_8_20_69 : decode prog_8_method_20_code 69 = .ok (.invokevirtual 152, 3) := by decide +kernel
theorem d_8_20_72 : decode prog_8_method_20_code 72 = .ok (.istore 4, 2) := by decide +kernel
theorem d_8_20_74 : decode prog_8_method_20_code 74 = .ok (.aload_n 0, 1) := by decide +kernel
theorem d_8_20_75 : decode prog_8_method_20_code 75 = .ok (.getfield 98, 3) := by decide +kernel
theorem d_8_20_78 : decode prog_8_method_20_code 78 = .ok (.iconst 1, 1) := by decide +kernel
theorem d_8_20_79 : decode prog_8_method_20_code 79 = .ok (.isub, 1) := by decide +kernel
theorem d_8_20_80 : decode prog_8_method_20_code 80 = .ok (.istore 5, 2) := by decide +kernel
theorem d_8_20_82 : decode prog_8_method_20_code 82 = .ok (.iload 4, 2) := by decide +kernel
theorem d_8_20_84 : decode prog_8_method_20_code 84 = .ok (.ifCond .lt 10, 3) := by decide +kernel
theorem d_8_20_87 : decode prog_8_method_20_code 87 = .ok (.iload 4, 2) := by decide +kernel
theorem d_8_20_89 : decode prog_8_method_20_code 89 = .ok (.iload 5, 2) := by decide +kernel
theorem d_8_20_91 : decode prog_8_method_20_code 91 = .ok (.if_icmp .ne 5, 3) := by decide +kernel
theorem d_8_20_94 : decode prog_8_method_20_code 94 = .ok (.iconst (-1), 1) := by decide +kernel
theorem d_8_20_95 : decode prog_8_method_20_code 95 = .ok (.ireturn, 1) := by decide +kernel
theorem d_8_20_96 : decode prog_8_method_20_code 96 = .ok (.aload_n 0, 1) := by decide +kernel
theorem d_8_20_97 : decode prog_8_method_20_code 97 = .ok (.invokevirtual 155, 3) := by decide +kernel
theorem d_8_20_100 : decode prog_8_method_20_code 100 = .ok (.ifCond .ne 14, 3) := by decide +kernel
theorem d_8_20_103 : decode prog_8_method_20_code 103 = .ok (.aload_n 0, 1) := by decide +kernel
theorem d_8_20_104 : decode prog_8_method_20_code 104 = .ok (.getfield 42, 3) := by decide +kernel
theorem d_8_20_107 : decode prog_8_method_20_code 107 = .ok (.iload 5, 2) := by decide +kernel
theorem d_8_20_109 : decode prog_8_method_20_code 109 = .ok (.iaload, 1) := by decide +kernel
theorem d_8_20_110 : decode prog_8_method_20_code 110 = .ok (.iconst 4, 1) := by decide +kernel
theorem d_8_20_111 : decode prog_8_method_20_code 111 = .ok (.if_icmp .ne 6, 3) := by decide +kernel
theorem d_8_20_114 : decode prog_8_method_20_code 114 = .ok (.bipush (-2), 2) := by decide +kernel
theorem d_8_20_116 : decode prog_8_method_20_code 116 = .ok (.ireturn, 1) := by decide +kernel
theorem d_8_20_117 : decode prog_8_method_20_code 117 = .ok (.aload_n 0, 1) := by decide +kernel
theorem d_8_20_118 : decode prog_8_method_20_code 118 = .ok (.getfield 57, 3) := by decide +kernel
theorem d_8_20_121 : decode prog_8_method_20_code 121 = .ok (.iconst 4, 1) := by decide +kernel
theorem d_8_20_122 : decode prog_8_method_20_code 122 = .ok (.iload 5, 2) := by decide +kernel
theorem d_8_20_124 : decode prog_8_method_20_code 124 = .ok (.imul, 1) := by decide +kernel
theorem d_8_20_125 : decode prog_8_method_20_code 125 = .ok (.aload_n 0, 1) := by decide +kernel
theorem d_8_20_126 : decode prog_8_method_20_code 126 = .ok (.getfield 42, 3) := by decide +kernel
theorem d_8_20_129 : decode prog_8_method_20_code 129 = .ok (.iload 5, 2) := by decide +kernel
theorem d_8_20_131 : decode prog_8_method_20_code 131 = .ok (.iaload, 1) := by decide +kernel
theorem d_8_20_132 : decode prog_8_method_20_code 132 = .ok (.iadd, 1) := by decide +kernel
theorem d_8_20_133 : decode prog_8_method_20_code 133 = .ok (.lload_n 1, 1) := by decide +kernel
theorem d_8_20_134 : decode prog_8_method_20_code 134 = .ok (.lastore, 1) := by decide +kernel
theorem d_8_20_135 : decode prog_8_method_20_code 135 = .ok (.aload_n 0, 1) := by decide +kernel
theorem d_8_20_136 : decode prog_8_method_20_code 136 = .ok (.getfield 45, 3) := by decide +kernel
theorem d_8_20_139 : decode prog_8_method_20_code 139 = .ok (.iconst 4, 1) := by decide +kernel
theorem d_8_20_140 : decode prog_8_method_20_code 140 = .ok (.iload 5, 2) := by decide +kernel
theorem d_8_20_142 : decode prog_8_method_20_code 142 = .ok (.imul, 1) := by decide +kernel
theorem d_8_20_143 : decode prog_8_method_20_code 143 = .ok (.aload_n 0, 1) := by decide +kernel
theorem d_8_20_144 : decode prog_8_method_20_code 144 = .ok (.getfield 42, 3) := by decide +kernel
theorem d_8_20_147 : decode prog_8_method_20_code 147 = .ok (.iload 5, 2) := by decide +kernel
theorem d_8_20_149 : decode prog_8_method_20_code 149 = .ok (.iaload, 1) := by decide +kernel
theorem d_8_20_150 : decode prog_8_method_20_code 150 = .ok (.iadd, 1) := by decide +kernel
theorem d_8_20_151 : decode prog_8_method_20_code 151 = .ok (.iload 4, 2) := by decide +kernel
theorem d_8_20_153 : decode prog_8_method_20_code 153 = .ok (.iastore, 1) := by decide +kernel
theorem d_8_20_154 : decode prog_8_method_20_code 154 = .ok (.aload_n 0, 1) := by decide +kernel
theorem d_8_20_155 : decode prog_8_method_20_code 155 = .ok (.getfield 42, 3) := by decide +kernel
theorem d_8_20_158 : decode prog_8_method_20_code 158 = .ok (.iload 5, 2) := by decide +kernel
theorem d_8_20_160 : decode prog_8_method_20_code 160 = .ok (.dup2, 1) := by decide +kernel
theorem d_8_20_161 : decode prog_8_method_20_code 161 = .ok (.iaload, 1) := by decide +kernel
theorem d_8_20_162 : decode prog_8_method_20_code 162 = .ok (.iconst 1, 1) := by decide +kernel
theorem d_8_20_163 : decode prog_8_method_20_code 163 = .ok (.iadd, 1) := by decide +kernel
theorem d_8_20_164 : decode prog_8_method_20_code 164 = .ok (.iastore, 1) := by decide +kernel
theorem d_8_20_165 : decode prog_8_method_20_code 165 = .ok (.iconst 4, 1) := by decide +kernel
theorem d_8_20_166 : decode prog_8_method_20_code 166 = .ok (.ireturn, 1) := by decide +kernel
theorem d_8_21_0 : decode prog_8_method_21_code 0 = .ok (.aload_n 0, 1) := by decide +kernel
theorem d_8_21_1 : decode prog_8_method_21_code 1 = .ok (.getfield 86, 3) := by decide +kernel
theorem d_8_21_4 : decode prog_8_method_21_code 4 = .ok (.iconst 2, 1) := by decide +kernel
theorem d_8_21_5 : decode prog_8_method_21_code 5 = .ok (.if_icmp .ne 11, 3) := by decide +kernel
theorem d_8_21_8 : decode prog_8_method_21_code 8 = .ok (.aload_n 0, 1) := by decide +kernel
theorem d_8_21_9 : decode prog_8_method_21_code 9 = .ok (.iconst 1, 1) := by decide +kernel
theorem d_8_21_10 : decode prog_8_method_21_code 10 = .ok (.invokevirtual 142, 3) := by decide +kernel
theorem d_8_21_13 : decode prog_8_method_21_code 13 = .ok (.goto 4, 3) := by decide +kernel
theorem d_8_21_16 : decode prog_8_method_21_code 16 = .ok (.iconst 0, 1) := by decide +kernel
theorem d_8_21_17 : decode prog_8_method_21_code 17 = .ok (.istore_n 1, 1) := by decide +kernel
theorem d_8_21_18 : decode prog_8_method_21_code 18 = .ok (.iload_n 1, 1) := by decide +kernel
theorem d_8_21_19 : decode prog_8_method_21_code 19 = .ok (.ifCond .ne 7, 3) := by decide +kernel
theorem d_8_21_22 : decode prog_8_method_21_code 22 = .ok (.iconst (-1), 1) := by decide +kernel
theorem d_8_21_23 : decode prog_8_method_21_code 23 = .ok (.goto 8, 3) := by decide +kernel
theorem d_8_21_26 : decode prog_8_method_21_code 26 = .ok (.aload_n 0, 1) := by decide +kernel
theorem d_8_21_27 : decode prog_8_method_21_code 27 = .ok (.iload_n 1, 1) := by decide +kernel
theorem d_8_21_28 : decode prog_8_method_21_code 28 = .ok (.invokevirtual 152, 3) := by decide +kernel
theorem d_8_21_31 : decode prog_8_method_21_code 31 = .ok (.istore_n 2, 1) := by decide +kernel
theorem d_8_21_32 : decode prog_8_method_21_code 32 = .ok (.iload_n 2, 1) := by decide +kernel
theorem d_8_21_33 : decode prog_8_method_21_code 33 = .ok (.ifCond .lt 13, 3) := by decide +kernel
theorem d_8_21_36 : decode prog_8_method_21_code 36 = .ok (.iload_n 2, 1) := by decide +kernel
theorem d_8_21_37 : decode prog_8_method_21_code 37 = .ok (.aload_n 0, 1) := by decide +kernel
theorem d_8_21_38 : decode prog_8_method_21_code 38 = .ok (.getfield 98, 3) := by decide +kernel
theorem d_8_21_41 : decode prog_8_method_21_code 41 = .ok (.iconst 1, 1) := by decide +kernel
theorem d_8_21_42 : decode prog_8_method_21_code 42 = .ok (.isub, 1) := by decide +kernel
theorem d_8_21_43 : decode prog_8_method_21_code 43 = .ok (.if_icmp .ne 5, 3) := by decide +kernel
theorem d_8_21_46 : decode prog_8_method_21_code 46 = .ok (.iconst (-1), 1) := by decide +kernel
theorem d_8_21_47 : decode prog_8_method_21_code 47 = .ok (.ireturn, 1) := by decide +kernel
theorem d_8_21_48 : decode prog_8_method_21_code 48 = .ok (.aload_n 0, 1) := by decide +kernel
theorem d_8_21_49 : decode prog_8_method_21_code 49 = .ok (.invokevirtual 155, 3) := by decide +kernel
theorem d_8_21_52 : decode prog_8_method_21_code 52 = .ok (.ifCond .eq 6, 3) := by decide +kernel
theorem d_8_21_55 : decode prog_8_method_21_code 55 = .ok (.bipush (-2), 2) := by decide +kernel
theorem d_8_21_57 : decode prog_8_method_21_code 57 = .ok (.ireturn, 1) := by decide +kernel
theorem d_8_21_58 : decode prog_8_method_21_code 58 = .ok (.aload_n 0, 1) := by decide +kernel
theorem d_8_21_59 : decode prog_8_method_21_code 59 = .ok (.getfield 48, 3) := by decide +kernel
theorem d_8_21_62 : decode prog_8_method_21_code 62 = .ok (.aload_n 0, 1) := by decide +kernel
theorem d_8_21_63 : decode prog_8_method_21_code 63 = .ok (.getfield 98, 3) := by decide +kernel
theorem d_8_21_66 : decode prog_8_method_21_code 66 = .ok (.iconst 1, 1) := by decide +kernel
theorem d_8_21_67 : decode prog_8_method_21_code 67 = .ok (.isub, 1) := by decide +kernel
theorem d_8_21_68 : decode prog_8_method_21_code 68 = .ok (.iload_n 2, 1) := by decide +kernel
theorem d_8_21_69 : decode prog_8_method_21_code 69 = .ok (.iastore, 1) := by decide +kernel
theorem d_8_21_70 : decode prog_8_method_21_code 70 = .ok (.iconst 4, 1) := by decide +kernel
theorem d_8_21_71 : decode prog_8_method_21_code 71 = .ok (.ireturn, 1) := by decide +kernel
theorem d_8_22_0 : decode prog_8_method_22_code 0 = .ok (.aload_n 0, 1) := by decide +kernel
theorem d_8_22_1 : decode prog_8_method_22_code 1 = .ok (.invokevirtual 155, 3) := by decide +kernel
theorem d_8_22_4 : decode prog_8_method_22_code 4 = .ok (.ifCond .eq 6, 3) := by decide +kernel
theorem d_8_22_7 : decode prog_8_method_22_code 7 = .ok (.bipush (-2), 2) := by decide +kernel
theorem d_8_22_9 : decode prog_8_method_22_code 9 = .ok (.ireturn, 1) := by decide +kernel
theorem d_8_22_10 : decode prog_8_method_22_code 10 = .ok (.aload_n 0, 1) := by decide +kernel
theorem d_8_22_11 : decode prog_8_method_22_code 11 = .ok (.getfield 67, 3) := by decide +kernel
theorem d_8_22_14 : decode prog_8_method_22_code 14 = .ok (.aload_n 0, 1) := by decide +kernel
theorem d_8_22_15 : decode prog_8_method_22_code 15 = .ok (.getfield 98, 3) := by decide +kernel
theorem d_8_22_18 : decode prog_8_method_22_code 18 = .ok (.iconst 1, 1) := by decide +kernel
theorem d_8_22_19 : decode prog_8_method_22_code 19 = .ok (.isub, 1) := by decide +kernel
theorem d_8_22_20 : decode prog_8_method_22_code 20 = .ok (.iload_n 1, 1) := by decide +kernel
theorem d_8_22_21 : decode prog_8_method_22_code 21 = .ok (.bastore, 1) := by decide +kernel
theorem d_8_22_22 : decode prog_8_method_22_code 22 = .ok (.iconst 4, 1) := by decide +kernel
theorem d_8_22_23 : decode prog_8_method_22_code 23 = .ok (.ireturn, 1) := by decide +kernel
theorem d_8_3_0 : decode prog_8_method_3_code 0 = .ok (.aload_n 0, 1) := by decide +kernel
theorem d_8_3_1 : decode prog_8_method_3_code 1 = .ok (.iload_n 1, 1) := by decide +kernel
theorem d_8_3_2 : decode prog_8_method_3_code 2 = .ok (.putfield 79, 3) := by decide +kernel
theorem d_8_3_5 : decode prog_8_method_3_code 5 = .ok (.iconst 0, 1) := by decide +kernel
theorem d_8_3_6 : decode prog_8_method_3_code 6 = .ok (.ireturn, 1) := by decide +kernel
theorem d_8_36_0 : decode prog_8_method_36_code 0 = .ok (.aload_n 0, 1) := by decide +kernel
theorem d_8_36_1 : decode prog_8_method_36_code 1 = .ok (.iconst 0, 1) := by decide +kernel
theorem d_8_36_2 : decode prog_8_method_36_code 2 = .ok (.putfield 79, 3) := by decide +kernel
theorem d_8_36_5 : decode prog_8_method_36_code 5 = .ok (.aload_n 0, 1) := by decide +kernel
theorem d_8_36_6 : decode prog_8_method_36_code 6 = .ok (.invokevirtual 101, 3) := by decide +kernel
theorem d_8_36_9 : decode prog_8_method_36_code 9 = .ok (.aload_n 0, 1) := by decide +kernel
theorem d_8_36_10 : decode prog_8_method_36_code 10 = .ok (.getfield 86, 3) := by decide +kernel
theorem d_8_36_13 : decode prog_8_method_36_code 13 = .ok (.iconst 1, 1) := by decide +kernel
theorem d_8_36_14 : decode prog_8_method_36_code 14 = .ok (.if_icmp .ne 11, 3) := by decide +kernel
theorem d_8_36_17 : decode prog_8_method_36_code 17 = .ok (.aload_n 0, 1) := by decide +kernel
theorem d_8_36_18 : decode prog_8_method_36_code 18 = .ok (.iconst 0, 1) := by decide +kernel
theorem d_8_36_19 : decode prog_8_method_36_code 19 = .ok (.invokevirtual 89, 3) := by decide +kernel
theorem d_8_36_22 : decode prog_8_method_36_code 22 = .ok (.goto 4, 3) := by decide +kernel
theorem d_8_36_25 : decode prog_8_method_36_code 25 = .ok (.lconst 0, 1) := by decide +kernel
theorem d_8_36_26 : decode prog_8_method_36_code 26 = .ok (.lstore_n 2, 1) := by decide +kernel
theorem d_8_36_27 : decode prog_8_method_36_code 27 = .ok (.lload_n 2, 1) := by decide +kernel
theorem d_8_36_28 : decode prog_8_method_36_code 28 = .ok (.lconst 0, 1) := by decide +kernel
theorem d_8_36_29 : decode prog_8_method_36_code 29 = .ok (.lcmp, 1) := by decide +kernel
theorem d_8_36_30 : decode prog_8_method_36_code 30 = .ok (.ifCond .eq 24, 3) := by decide +kernel
theorem d_8_36_33 : decode prog_8_method_36_code 33 = .ok (.iload_n 1, 1) := by decide +kernel
theorem d_8_36_34 : decode prog_8_method_36_code 34 = .ok (.ifCond .lt 20, 3) := by decide +kernel
theorem d_8_36_37 : decode prog_8_method_36_code 37 = .ok (.iload_n 1, 1) := by decide +kernel
theorem d_8_36_38 : decode prog_8_method_36_code 38 = .ok (.aload_n 0, 1) := by decide +kernel
theorem d_8_36_39 : decode prog_8_method_36_code 39 = .ok (.getfield 98, 3) := by decide +kernel
theorem d_8_36_42 : decode prog_8_method_36_code 42 = .ok (.if_icmp .ge 12, 3) := by decide +kernel
theorem d_8_36_45 : decode prog_8_method_36_code 45 = .ok (.aload_n 0, 1) := by decide +kernel
theorem d_8_36_46 : decode prog_8_method_36_code 46 = .ok (.getfield 63, 3) := by decide +kernel
theorem d_8_36_49 : decode prog_8_method_36_code 49 = .ok (.iload_n 1, 1) := by decide +kernel
theorem d_8_36_50 : decode prog_8_method_36_code 50 = .ok (.baload, 1) := by decide +kernel
theorem d_8_36_51 : decode prog_8_method_36_code 51 = .ok (.ifCond .eq 9, 3) := by decide +kernel
theorem d_8_36_54 : decode prog_8_method_36_code 54 = .ok (.aload_n 0, 1) := by decide +kernel
theorem d_8_36_55 : decode prog_8_method_36_code 55 = .ok (.iconst 1, 1) := by decide +kernel
theorem d_8_36_56 : decode prog_8_method_36_code 56 = .ok (.invokevirtual 138, 3) := by decide +kernel
theorem d_8_36_59 : decode prog_8_method_36_code 59 = .ok (.ireturn, 1) := by decide +kernel
theorem d_8_36_60 : decode prog_8_method_36_code 60 = .ok (.aload_n 0, 1) := by decide +kernel
theorem d_8_36_61 : decode prog_8_method_36_code 61 = .ok (.iconst 0, 1) := by decide +kernel
theorem d_8_36_62 : decode prog_8_method_36_code 62 = .ok (.putfield 167, 3) := by decide +kernel
theorem d_8_36_65 : decode prog_8_method_36_code 65 = .ok (.aload_n 0, 1) := by decide +kernel
theorem d_8_36_66 : decode prog_8_method_36_code 66 = .ok (.iload_n 1, 1) := by decide +kernel
theorem d_8_36_67 : decode prog_8_method_36_code 67 = .ok (.lload_n 2, 1) := by decide +kernel
theorem d_8_36_68 : decode prog_8_method_36_code 68 = .ok (.invokevirtual 208, 3) := by decide +kernel
theorem d_8_36_71 : decode prog_8_method_36_code 71 = .ok (.istore 4, 2) := by decide +kernel
theorem d_8_36_73 : decode prog_8_method_36_code 73 = .ok (.iload 4, 2) := by decide +kernel
theorem d_8_36_75 : decode prog_8_method_36_code 75 = .ok (.ifCond .ge 11, 3) := by decide +kernel
theorem d_8_36_78 : decode prog_8_method_36_code 78 = .ok (.aload_n 0, 1) := by decide +kernel
theorem d_8_36_79 : decode prog_8_method_36_code 79 = .ok (.iload_n 1, 1) := by decide +kernel
theorem d_8_36_80 : decode prog_8_method_36_code 80 = .ok (.lload_n 2, 1) := by decide +kernel
theorem d_8_36_81 : decode prog_8_method_36_code 81 = .ok (.invokevirtual 211, 3) := by decide +kernel
theorem d_8_36_84 : decode prog_8_method_36_code 84 = .ok (.istore 4, 2) := by decide +kernel
theorem d_8_36_86 : decode prog_8_method_36_code 86 = .ok (.iload 4, 2) := by decide +kernel
theorem d_8_36_88 : decode prog_8_method_36_code 88 = .ok (.ifCond .ge 11, 3) := by decide +kernel
theorem d_8_36_91 : decode prog_8_method_36_code 91 = .ok (.aload_n 0, 1) := by decide +kernel
theorem d_8_36_92 : decode prog_8_method_36_code 92 = .ok (.iconst 2, 1) := by decide +kernel
theorem d_8_36_93 : decode prog_8_method_36_code 93 = .ok (.invokevirtual 138, 3) := by decide +kernel
theorem d_8_36_96 : decode prog_8_method_36_code 96 = .ok (.goto 5, 3) := by decide +kernel
theorem d_8_36_99 : decode prog_8_method_36_code 99 = .ok (.iload 4, 2) := by decide +kernel
theorem d_8_36_101 : decode prog_8_method_36_code 101 = .ok (.ireturn, 1) := by decide +kernel
theorem d_8_31_0 : decode prog_8_method_31_code 0 = .ok (.bipush 36, 2) := by decide +kernel
theorem d_8_31_2 : decode prog_8_method_31_code 2 = .ok (.iload_n 1, 1) := by decide +kernel
theorem d_8_31_3 : decode prog_8_method_31_code 3 = .ok (.imul, 1) := by decide +kernel
theorem d_8_31_4 : decode prog_8_method_31_code 4 = .ok (.istore 4, 2) := by decide +kernel
theorem d_8_31_6 : decode prog_8_method_31_code 6 = .ok (.iload 4, 2) := by decide +kernel
theorem d_8_31_8 : decode prog_8_method_31_code 8 = .ok (.bipush 36, 2) := by decide +kernel
theorem d_8_31_10 : decode prog_8_method_31_code 10 = .ok (.iload_n 1, 1) := by decide +kernel
theorem d_8_31_11 : decode prog_8_method_31_code 11 = .ok (.imul, 1) := by decide +kernel
theorem d_8_31_12 : decode prog_8_method_31_code 12 = .ok (.aload_n 0, 1) := by decide +kernel
theorem d_8_31_13 : decode prog_8_method_31_code 13 = .ok (.getfield 51, 3) := by decide +kernel
theorem d_8_31_16 : decode prog_8_method_31_code 16 = .ok (.iload_n 1, 1) := by decide +kernel
theorem d_8_31_17 : decode prog_8_method_31_code 17 = .ok (.iaload, 1) := by decide +kernel
theorem d_8_31_18 : decode prog_8_method_31_code 18 = .ok (.iadd, 1) := by decide +kernel
theorem d_8_31_19 : decode prog_8_method_31_code 19 = .ok (.if_icmp .ge 29, 3) := by decide +kernel
theorem d_8_31_22 : decode prog_8_method_31_code 22 = .ok (.aload_n 0, 1) := by decide +kernel
theorem d_8_31_23 : decode prog_8_method_31_code 23 = .ok (.getfield 60, 3) := by decide +kernel
theorem d_8_31_26 : decode prog_8_method_31_code 26 = .ok (.iload 4, 2) := by decide +kernel
theorem d_8_31_28 : decode prog_8_method_31_code 28 = .ok (.laload, 1) := by decide +kernel
theorem d_8_31_29 : decode prog_8_method_31_code 29 = .ok (.lload_n 2, 1) := by decide +kernel
theorem d_8_31_30 : decode prog_8_method_31_code 30 = .ok (.lcmp, 1) := by decide +kernel
theorem d_8_31_31 : decode prog_8_method_31_code 31 = .ok (.ifCond .ne 11, 3) := by decide +kernel
theorem d_8_31_34 : decode prog_8_method_31_code 34 = .ok (.aload_n 0, 1) := by decide +kernel
theorem d_8_31_35 : decode prog_8_method_31_code 35 = .ok (.getfield 54, 3) := by decide +kernel
theorem d_8_31_38 : decode prog_8_method_31_code 38 = .ok (.iload 4, 2) := by decide +kernel
theorem d_8_31_40 : decode prog_8_method_31_code 40 = .ok (.iaload, 1) := by decide +kernel
theorem d_8_31_41 : decode prog_8_method_31_code 41 = .ok (.ireturn, 1) := by decide +kernel
theorem d_8_31_42 : decode prog_8_method_31_code 42 = .ok (.iinc 4 1, 3) := by decide +kernel
theorem d_8_31_45 : decode prog_8_method_31_code 45 = .ok (.goto (-39), 3) := by decide +kernel
theorem d_8_31_48 : decode prog_8_method_31_code 48 = .ok (.iconst (-1), 1) := by decide +kernel
theorem d_8_31_49 : decode prog_8_method_31_code 49 = .ok (.ireturn, 1) := by decide +kernel
theorem d_8_34_0 : decode prog_8_method_34_code 0 = .ok (.aload_n 0, 1) := by decide +kernel
theorem d_8_34_1 : decode prog_8_method_34_code 1 = .ok (.iconst 0, 1) := by decide +kernel
theorem d_8_34_2 : decode prog_8_method_34_code 2 = .ok (.putfield 189, 3) := by decide +kernel
theorem d_8_34_5 : decode prog_8_method_34_code 5 = .ok (.aload_n 0, 1) := by decide +kernel
theorem d_8_34_6 : decode prog_8_method_34_code 6 = .ok (.iload_n 1, 1) := by decide +kernel
theorem d_8_34_7 : decode prog_8_method_34_code 7 = .ok (.invokevirtual 192, 3) := by decide +kernel
theorem d_8_34_10 : decode prog_8_method_34_code 10 = .ok (.iconst (-1), 1) := by decide +kernel
theorem d_8_34_11 : decode prog_8_method_34_code 11 = .ok (.istore 4, 2) := by decide +kernel
theorem d_8_34_13 : decode prog_8_method_34_code 13 = .ok (.aload_n 0, 1) := by decide +kernel
theorem d_8_34_14 : decode prog_8_method_34_code 14 = .ok (.getfield 189, 3) := by decide +kernel
theorem d_8_34_17 : decode prog_8_method_34_code 17 = .ok (.ifCond .le 135, 3) := by decide +kernel
theorem d_8_34_20 : decode prog_8_method_34_code 20 = .ok (.iload 4, 2) := by decide +kernel
theorem d_8_34_22 : decode prog_8_method_34_code 22 = .ok (.ifCond .ge 130, 3) := by decide +kernel
theorem d_8_34_25 : decode prog_8_method_34_code 25 = .ok (.aload_n 0, 1) := by decide +kernel
theorem d_8_34_26 : decode prog_8_method_34_code 26 = .ok (.getfield 70, 3) := by decide +kernel
theorem d_8_34_29 : decode prog_8_method_34_code 29 = .ok (.aload_n 0, 1) := by decide +kernel
theorem d_8_34_30 : decode prog_8_method_34_code 30 = .ok (.getfield 189, 3) := by decide +kernel
theorem d_8_34_33 : decode prog_8_method_34_code 33 = .ok (.iconst 1, 1) := by decide +kernel
theorem d_8_34_34 : decode prog_8_method_34_code 34 = .ok (.isub, 1) := by decide +kernel
theorem d_8_34_35 : decode prog_8_method_34_code 35 = .ok (.iaload, 1) := by decide +kernel
theorem d_8_34_36 : decode prog_8_method_34_code 36 = .ok (.istore 5, 2) := by decide +kernel
theorem d_8_34_38 : decode prog_8_method_34_code 38 = .ok (.aload_n 0, 1) := by decide +kernel
theorem d_8_34_39 : decode prog_8_method_34_code 39 = .ok (.getfield 73, 3) := by decide +kernel
theorem d_8_34_42 : decode prog_8_method_34_code 42 = .ok (.aload_n 0, 1) := by decide +kernel
theorem d_8_34_43 : decode prog_8_method_34_code 43 = .ok (.getfield 189, 3) := by decide +kernel
theorem d_8_34_46 : decode prog_8_method_34_code 46 = .ok (.iconst 1, 1) := by decide +kernel
theorem d_8_34_47 : decode prog_8_method_34_code 47 = .ok (.isub, 1) := by decide +kernel
theorem d_8_34_48 : decode prog_8_method_34_code 48 = .ok (.iaload, 1) := by decide +kernel
theorem d_8_34_49 : decode prog_8_method_34_code 49 = .ok (.istore 6, 2) := by decide +kernel
theorem d_8_34_51 : decode prog_8_method_34_code 51 = .ok (.aload_n 0, 1) := by decide +kernel
theorem d_8_34_52 : decode prog_8_method_34_code 52 = .ok (.getfield 73, 3) := by decide +kernel
theorem d_8_34_55 : decode prog_8_method_34_code 55 = .ok (.aload_n 0, 1) := by decide +kernel
theorem d_8_34_56 : decode prog_8_method_34_code 56 = .ok (.getfield 189, 3) := by decide +kernel
theorem d_8_34_59 : decode prog_8_method_34_code 59 = .ok (.iconst 1, 1) := by decide +kernel
theorem d_8_34_60 : decode prog_8_method_34_code 60 = .ok (.isub, 1) := by decide +kernel
theorem d_8_34_61 : decode prog_8_method_34_code 61 = .ok (.dup2, 1) := by decide +kernel
theorem d_8_34_62 : decode prog_8_method_34_code 62 = .ok (.iaload, 1) := by decide +kernel
theorem d_8_34_63 : decode prog_8_method_34_code 63 = .ok (.iconst 1, 1) := by decide +kernel
theorem d_8_34_64 : decode prog_8_method_34_code 64 = .ok (.iadd, 1) := by decide +kernel
theorem d_8_34_65 : decode prog_8_method_34_code 65 = .ok (.iastore, 1) := by decide +kernel
theorem d_8_34_66 : decode prog_8_method_34_code 66 = .ok (.iload 6, 2) := by decide +kernel
theorem d_8_34_68 : decode prog_8_method_34_code 68 = .ok (.ifCond .ne 15, 3) := by decide +kernel
theorem d_8_34_71 : decode prog_8_method_34_code 71 = .ok (.aload_n 0, 1) := by decide +kernel
theorem d_8_34_72 : decode prog_8_method_34_code 72 = .ok (.iload 5, 2) := by decide +kernel
theorem d_8_34_74 : decode prog_8_method_34_code 74 = .ok (.lload_n 2, 1) := by decide +kernel
theorem d_8_34_75 : decode prog_8_method_34_code 75 = .ok (.invokevirtual 195, 3) := by decide +kernel
theorem d_8_34_78 : decode prog_8_method_34_code 78 = .ok (.istore 4, 2) := by decide +kernel
theorem d_8_34_80 : decode prog_8_method_34_code 80 = .ok (.goto 69, 3) := by decide +kernel
theorem d_8_34_83 : decode prog_8_method_34_code 83 = .ok (.iload 6, 2) := by decide +kernel
theorem d_8_34_85 : decode prog_8_method_34_code 85 = .ok (.iconst 3, 1) := by decide +kernel
theorem d_8_34_86 : decode prog_8_method_34_code 86 = .ok (.if_icmp .ne 16, 3) := by decide +kernel
theorem d_8_34_89 : decode prog_8_method_34_code 89 = .ok (.aload_n 0, 1) := by decide +kernel
theorem d_8_34_90 : decode prog_8_method_34_code 90 = .ok (.dup, 1) := by decide +kernel
theorem d_8_34_91 : decode prog_8_method_34_code 91 = .ok (.getfield 189, 3) := by decide +kernel
theorem d_8_34_94 : decode prog_8_method_34_code 94 = .ok (.iconst 1, 1) := by decide +kernel
theorem d_8_34_95 : decode prog_8_method_34_code 95 = .ok (.isub, 1) := by decide +kernel
theorem d_8_34_96 : decode prog_8_method_34_code 96 = .ok (.putfield 189, 3) := by decide +kernel
theorem d_8_34_99 : decode prog_8_method_34_code 99 = .ok (.goto 50, 3) := by decide +kernel
theorem d_8_34_102 : decode prog_8_method_34_code 102 = .ok (.iload 6, 2) := by decide +kernel
theorem d_8_34_104 : decode prog_8_method_34_code 104 = .ok (.iconst 1, 1) := by decide +kernel
theorem d_8_34_105 : decode prog_8_method_34_code 105 = .ok (.if_icmp .ne 7, 3) := by decide +kernel
theorem d_8_34_108 : decode prog_8_method_34_code 108 = .ok (.iconst 1, 1) := by decide +kernel
theorem d_8_34_109 : decode prog_8_method_34_code 109 = .ok (.goto 4, 3) := by decide +kernel
theorem d_8_34_112 : decode prog_8_method_34_code 112 = .ok (.iconst 0, 1) := by decide +kernel
theorem d_8_34_113 : decode prog_8_method_34_code 113 = .ok (.aload_n 0, 1) := by decide +kernel
theorem d_8_34_114 : decode prog_8_method_34_code 114 = .ok (.getfield 67, 3) := by decide +kernel
theorem d_8_34_117 : decode prog_8_method_34_code 117 = .ok (.iload 5, 2) := by decide +kernel
theorem d_8_34_119 : decode prog_8_method_34_code 119 = .ok (.baload, 1) := by decide +kernel
theorem d_8_34_120 : decode prog_8_method_34_code 120 = .ok (.if_icmp .eq 15, 3) := by decide +kernel
theorem d_8_34_123 : decode prog_8_method_34_code 123 = .ok (.aload_n 0, 1) := by decide +kernel
theorem d_8_34_124 : decode prog_8_method_34_code 124 = .ok (.iload 5, 2) := by decide +kernel
theorem d_8_34_126 : decode prog_8_method_34_code 126 = .ok (.lload_n 2, 1) := by decide +kernel
theorem d_8_34_127 : decode prog_8_method_34_code 127 = .ok (.invokevirtual 198, 3) := by decide +kernel
theorem d_8_34_130 : decode prog_8_method_34_code 130 = .ok (.istore 4, 2) := by decide +kernel
theorem d_8_34_132 : decode prog_8_method_34_code 132 = .ok (.goto 17, 3) := by decide +kernel
theorem d_8_34_135 : decode prog_8_method_34_code 135 = .ok (.aload_n 0, 1) := by decide +kernel
theorem d_8_34_136 : decode prog_8_method_34_code 136 = .ok (.aload_n 0, 1) := by decide +kernel
theorem d_8_34_137 : decode prog_8_method_34_code 137 = .ok (.getfield 48, 3) := by decide +kernel
theorem d_8_34_140 : decode prog_8_method_34_code 140 = .ok (.iload 5, 2) := by decide +kernel
theorem d_8_34_142 : decode prog_8_method_34_code 142 = .ok (.iaload, 1) := by decide +kernel
theorem d_8_34_143 : decode prog_8_method_34_code 143 = .ok (.lload_n 2, 1) := by decide +kernel
theorem d_8_34_144 : decode prog_8_method_34_code 144 = .ok (.invokevirtual 201, 3) := by decide +kernel
theorem d_8_34_147 : decode prog_8_method_34_code 147 = .ok (.istore 4, 2) := by decide +kernel
theorem d_8_34_149 : decode prog_8_method_34_code 149 = .ok (.goto (-136), 3) := by decide +kernel
theorem d_8_34_152 : decode prog_8_method_34_code 152 = .ok (.iconst 0, 1) := by decide +kernel
theorem d_8_34_153 : decode prog_8_method_34_code 153 = .ok (.istore 5, 2) := by decide +kernel
theorem d_8_34_155 : decode prog_8_method_34_code 155 = .ok (.iload 5, 2) := by decide +kernel
theorem d_8_34_157 : decode prog_8_method_34_code 157 = .ok (.aload_n 0, 1) := by decide +kernel
theorem d_8_34_158 : decode prog_8_method_34_code 158 = .ok (.getfield 189, 3) := by decide +kernel
theorem d_8_34_161 : decode prog_8_method_34_code 161 = .ok (.if_icmp .ge 68, 3) := by decide +kernel
theorem d_8_34_164 : decode prog_8_method_34_code 164 = .ok (.aload_n 0, 1) := by decide +kernel
theorem d_8_34_165 : decode prog_8_method_34_code 165 = .ok (.getfield 70, 3) := by decide +kernel
theorem d_8_34_168 : decode prog_8_method_34_code 168 = .ok (.iload 5, 2) := by decide +kernel
theorem d_8_34_170 : decode prog_8_method_34_code 170 = .ok (.iaload, 1) := by decide +kernel
theorem d_8_34_171 : decode prog_8_method_34_code 171 = .ok (.istore 6, 2) := by decide +kernel
theorem d_8_34_173 : decode prog_8_method_34_code 173 = .ok (.aload_n 0, 1) := by decide +kernel
theorem d_8_34_174 : decode prog_8_method_34_code 174 = .ok (.getfield 60, 3) := by decide +kernel
theorem d_8_34_177 : decode prog_8_method_34_code 177 = .ok (.bipush 36, 2) := by decide +kernel
theorem d_8_34_179 : decode prog_8_method_34_code 179 = .ok (.iload 6, 2) := by decide +kernel
theorem d_8_34_181 : decode prog_8_method_34_code 181 = .ok (.imul, 1) := by decide +kernel
theorem d_8_34_182 : decode prog_8_method_34_code 182 = .ok (.aload_n 0, 1) := by decide +kernel
theorem d_8_34_183 : decode prog_8_method_34_code 183 = .ok (.getfield 51, 3) := by decide +kernel
theorem d_8_34_186 : decode prog_8_method_34_code 186 = .ok (.iload 6, 2) := by decide +kernel
theorem d_8_34_188 : decode prog_8_method_34_code 188 = .ok (.iaload, 1) := by decide +kernel
theorem d_8_34_189 : decode prog_8_method_34_code 189 = .ok (.iadd, 1) := by decide +kernel
theorem d_8_34_190 : decode prog_8_method_34_code 190 = .ok (.lload_n 2, 1) := by decide +kernel
theorem d_8_34_191 : decode prog_8_method_34_code 191 = .ok (.lastore, 1) := by decide +kernel
theorem d_8_34_192 : decode prog_8_method_34_code 192 = .ok (.aload_n 0, 1) := by decide +kernel
theorem d_8_34_193 : decode prog_8_method_34_code 193 = .ok (.getfield 54, 3) := by decide +kernel
theorem d_8_34_196 : decode prog_8_method_34_code 196 = .ok (.bipush 36, 2) := by decide +kernel
theorem d_8_34_198 : decode prog_8_method_34_code 198 = .ok (.iload 6, 2) := by decide +kernel
theorem d_8_34_200 : decode prog_8_method_34_code 200 = .ok (.imul, 1) := by decide +kernel
theorem d_8_34_201 : decode prog_8_method_34_code 201 = .ok (.aload_n 0, 1) := by decide +kernel
theorem d_8_34_202 : decode prog_8_method_34_code 202 = .ok (.getfield 51, 3) := by decide +kernel
theorem d_8_34_205 : decode prog_8_method_34_code 205 = .ok (.iload 6, 2) := by decide +kernel
theorem d_8_34_207 : decode prog_8_method_34_code 207 = .ok (.iaload, 1) := by decide +kernel
theorem d_8_34_208 : decode prog_8_method_34_code 208 = .ok (.iadd, 1) := by decide +kernel
theorem d_8_34_209 : decode prog_8_method_34_code 209 = .ok (.iload 4, 2) := by decide +kernel
theorem d_8_34_211 : decode prog_8_method_34_code 211 = .ok (.iastore, 1) := by decide +kernel
theorem d_8_34_212 : decode prog_8_method_34_code 212 = .ok (.aload_n 0, 1) := by decide +kernel
theorem d_8_34_213 : decode prog_8_method_34_code 213 = .ok (.getfield 51, 3) := by decide +kernel
theorem d_8_34_216 : decode prog_8_method_34_code 216 = .ok (.iload 6, 2) := by decide +kernel
theorem d_8_34_218 : decode prog_8_method_34_code 218 = .ok (.dup2, 1) := by decide +kernel
theorem d_8_34_219 : decode prog_8_method_34_code 219 = .ok (.iaload, 1) := by decide +kernel
theorem d_8_34_220 : decode prog_8_method_34_code 220 = .ok (.iconst 1, 1) := by decide +kernel
theorem d_8_34_221 : decode prog_8_method_34_code 221 = .ok (.iadd, 1) := by decide +kernel
theorem d_8_34_222 : decode prog_8_method_34_code 222 = .ok (.iastore, 1) := by decide +kernel
theorem d_8_34_223 : decode prog_8_method_34_code 223 = .ok (.iinc 5 1, 3) := by decide +kernel
theorem d_8_34_226 : decode prog_8_method_34_code 226 = .ok (.goto (-71), 3) := by decide +kernel
theorem d_8_34_229 : decode prog_8_method_34_code 229 = .ok (.iload 4, 2) := by decide +kernel
theorem d_8_34_231 : decode prog_8_method_34_code 231 = .ok (.ireturn, 1) := by decide +kernel
theorem d_8_33_0 : decode prog_8_method_33_code 0 = .ok (.aload_n 0, 1) := by decide +kernel
theorem d_8_33_1 : decode prog_8_method_33_code 1 = .ok (.getfield 70, 3) := by decide +kernel
theorem d_8_33_4 : decode prog_8_method_33_code 4 = .ok (.aload_n 0, 1) := by decide +kernel
theorem d_8_33_5 : decode prog_8_method_33_code 5 = .ok (.getfield 189, 3) := by decide +kernel
theorem d_8_33_8 : decode prog_8_method_33_code 8 = .ok (.iload_n 1, 1) := by decide +kernel
theorem d_8_33_9 : decode prog_8_method_33_code 9 = .ok (.iastore, 1) := by decide +kernel
theorem d_8_33_10 : decode prog_8_method_33_code 10 = .ok (.aload_n 0, 1) := by decide +kernel
theorem d_8_33_11 : decode prog_8_method_33_code 11 = .ok (.getfield 73, 3) := by decide +kernel
theorem d_8_33_14 : decode prog_8_method_33_code 14 = .ok (.aload_n 0, 1) := by decide +kernel
theorem d_8_33_15 : decode prog_8_method_33_code 15 = .ok (.getfield 189, 3) := by decide +kernel
theorem d_8_33_18 : decode prog_8_method_33_code 18 = .ok (.iconst 0, 1) := by decide +kernel
theorem d_8_33_19 : decode prog_8_method_33_code 19 = .ok (.iastore, 1) := by decide +kernel
theorem d_8_33_20 : decode prog_8_method_33_code 20 = .ok (.aload_n 0, 1) := by decide +kernel
theorem d_8_33_21 : decode prog_8_method_33_code 21 = .ok (.dup, 1) := by decide +kernel
theorem d_8_33_22 : decode prog_8_method_33_code 22 = .ok (.getfield 189, 3) := by decide +kernel
theorem d_8_33_25 : decode prog_8_method_33_code 25 = .ok (.iconst 1, 1) := by decide +kernel
theorem d_8_33_26 : decode prog_8_method_33_code 26 = .ok (.iadd, 1) := by decide +kernel
theorem d_8_33_27 : decode prog_8_method_33_code 27 = .ok (.putfield 189, 3) := by decide +kernel
theorem d_8_33_30 : decode prog_8_method_33_code 30 = .ok (.aload_n 0, 1) := by decide +kernel
theorem d_8_33_31 : decode prog_8_method_33_code 31 = .ok (.iload_n 1, 1) := by decide +kernel
theorem d_8_33_32 : decode prog_8_method_33_code 32 = .ok (.invokevirtual 177, 3) := by decide +kernel
theorem d_8_33_35 : decode prog_8_method_33_code 35 = .ok (.return_, 1) := by decide +kernel
theorem d_8_27_0 : decode prog_8_method_27_code 0 = .ok (.aload_n 0, 1) := by decide +kernel
theorem d_8_27_1 : decode prog_8_method_27_code 1 = .ok (.getfield 167, 3) := by decide +kernel
theorem d_8_27_4 : decode prog_8_method_27_code 4 = .ok (.bipush 20, 2) := by decide +kernel
theorem d_8_27_6 : decode prog_8_method_27_code 6 = .ok (.if_icmp .ge 13, 3) := by decide +kernel
theorem d_8_27_9 : decode prog_8_method_27_code 9 = .ok (.aload_n 0, 1) := by decide +kernel
theorem d_8_27_10 : decode prog_8_method_27_code 10 = .ok (.getfield 76, 3) := by decide +kernel
theorem d_8_27_13 : decode prog_8_method_27_code 13 = .ok (.aload_n 0, 1) := by decide +kernel
theorem d_8_27_14 : decode prog_8_method_27_code 14 = .ok (.getfield 167, 3) := by decide +kernel
theorem d_8_27_17 : decode prog_8_method_27_code 17 = .ok (.iload_n 1, 1) := by decide +kernel
theorem d_8_27_18 : decode prog_8_method_27_code 18 = .ok (.iastore, 1) := by decide +kernel
theorem d_8_27_19 : decode prog_8_method_27_code 19 = .ok (.aload_n 0, 1) := by decide +kernel
theorem d_8_27_20 : decode prog_8_method_27_code 20 = .ok (.dup, 1) := by decide +kernel
theorem d_8_27_21 : decode prog_8_method_27_code 21 = .ok (.getfield 167, 3) := by decide +kernel
theorem d_8_27_24 : decode prog_8_method_27_code 24 = .ok (.iconst 1, 1) := by decide +kernel
theorem d_8_27_25 : decode prog_8_method_27_code 25 = .ok (.iadd, 1) := by decide +kernel
theorem d_8_27_26 : decode prog_8_method_27_code 26 = .ok (.putfield 167, 3) := by decide +kernel
theorem d_8_27_29 : decode prog_8_method_27_code 29 = .ok (.return_, 1) := by decide +kernel
theorem d_8_28_0 : decode prog_8_method_28_code 0 = .ok (.bipush 14, 2) := by decide +kernel
theorem d_8_28_2 : decode prog_8_method_28_code 2 = .ok (.istore 4, 2) := by decide +kernel
theorem d_8_28_4 : decode prog_8_method_28_code 4 = .ok (.iload 4, 2) := by decide +kernel
theorem d_8_28_6 : decode prog_8_method_28_code 6 = .ok (.ifCond .le 123, 3) := by decide +kernel
theorem d_8_28_9 : decode prog_8_method_28_code 9 = .ok (.iconst 4, 1) := by decide +kernel
theorem d_8_28_10 : decode prog_8_method_28_code 10 = .ok (.iload_n 1, 1) := by decide +kernel
theorem d_8_28_11 : decode prog_8_method_28_code 11 = .ok (.imul, 1) := by decide +kernel
theorem d_8_28_12 : decode prog_8_method_28_code 12 = .ok (.istore 5, 2) := by decide +kernel
theorem d_8_28_14 : decode prog_8_method_28_code 14 = .ok (.iload 5, 2) := by decide +kernel
theorem d_8_28_16 : decode prog_8_method_28_code 16 = .ok (.iconst 4, 1) := by decide +kernel
theorem d_8_28_17 : decode prog_8_method_28_code 17 = .ok (.iload_n 1, 1) := by decide +kernel
theorem d_8_28_18 : decode prog_8_method_28_code 18 = .ok (.imul, 1) := by decide +kernel
theorem d_8_28_19 : decode prog_8_method_28_code 19 = .ok (.aload_n 0, 1) := by decide +kernel
theorem d_8_28_20 : decode prog_8_method_28_code 20 = .ok (.getfield 42, 3) := by decide +kernel
theorem d_8_28_23 : decode prog_8_method_28_code 23 = .ok (.iload_n 1, 1) := by decide +kernel
theorem d_8_28_24 : decode prog_8_method_28_code 24 = .ok (.iaload, 1) := by decide +kernel
theorem d_8_28_25 : decode prog_8_method_28_code 25 = .ok (.iadd, 1) := by decide +kernel
theorem d_8_28_26 : decode prog_8_method_28_code 26 = .ok (.if_icmp .ge 97, 3) := by decide +kernel
theorem d_8_28_29 : decode prog_8_method_28_code 29 = .ok (.aload_n 0, 1) := by decide +kernel
theorem d_8_28_30 : decode prog_8_method_28_code 30 = .ok (.getfield 57, 3) := by decide +kernel
theorem d_8_28_33 : decode prog_8_method_28_code 33 = .ok (.iload 5, 2) := by decide +kernel
theorem d_8_28_35 : decode prog_8_method_28_code 35 = .ok (.laload, 1) := by decide +kernel
theorem d_8_28_36 : decode prog_8_method_28_code 36 = .ok (.invokestatic 170, 3) := by decide +kernel
theorem d_8_28_39 : decode prog_8_method_28_code 39 = .ok (.iload 4, 2) := by decide +kernel
theorem d_8_28_41 : decode prog_8_method_28_code 41 = .ok (.if_icmp .ne 76, 3) := by decide +kernel
theorem d_8_28_44 : decode prog_8_method_28_code 44 = .ok (.lload_n 2, 1) := by decide +kernel
theorem d_8_28_45 : decode prog_8_method_28_code 45 = .ok (.aload_n 0, 1) := by decide +kernel
theorem d_8_28_46 : decode prog_8_method_28_code 46 = .ok (.getfield 57, 3) := by decide +kernel
theorem d_8_28_49 : decode prog_8_method_28_code 49 = .ok (.iload 5, 2) := by decide +kernel
theorem d_8_28_51 : decode prog_8_method_28_code 51 = .ok (.laload, 1) := by decide +kernel
theorem d_8_28_52 : decode prog_8_method_28_code 52 = .ok (.invokestatic 173, 3) := by decide +kernel
theorem d_8_28_55 : decode prog_8_method_28_code 55 = .ok (.ifCond .eq 62, 3) := by decide +kernel
theorem d_8_28_58 : decode prog_8_method_28_code 58 = .ok (.aload_n 0, 1) := by decide +kernel
theorem d_8_28_59 : decode prog_8_method_28_code 59 = .ok (.getfield 63, 3) := by decide +kernel
theorem d_8_28_62 : decode prog_8_method_28_code 62 = .ok (.aload_n 0, 1) := by decide +kernel
theorem d_8_28_63 : decode prog_8_method_28_code 63 = .ok (.getfield 45, 3) := by decide +kernel
theorem d_8_28_66 : decode prog_8_method_28_code 66 = .ok (.iload 5, 2) := by decide +kernel
theorem d_8_28_68 : decode prog_8_method_28_code 68 = .ok (.iaload, 1) := by decide +kernel
theorem d_8_28_69 : decode prog_8_method_28_code 69 = .ok (.baload, 1) := by decide +kernel
theorem d_8_28_70 : decode prog_8_method_28_code 70 = .ok (.ifCond .ne 47, 3) := by decide +kernel
theorem d_8_28_73 : decode prog_8_method_28_code 73 = .ok (.aload_n 0, 1) := by decide +kernel
theorem d_8_28_74 : decode prog_8_method_28_code 74 = .ok (.aload_n 0, 1) := by decide +kernel
theorem d_8_28_75 : decode prog_8_method_28_code 75 = .ok (.getfield 45, 3) := by decide +kernel
theorem d_8_28_78 : decode prog_8_method_28_code 78 = .ok (.iload 5, 2) := by decide +kernel
theorem d_8_28_80 : decode prog_8_method_28_code 80 = .ok (.iaload, 1) := by decide +kernel
theorem d_8_28_81 : decode prog_8_method_28_code 81 = .ok (.invokevirtual 177, 3) := by decide +kernel
theorem d_8_28_84 : decode prog_8_method_28_code 84 = .ok (.aload_n 0, 1) := by decide +kernel
theorem d_8_28_85 : decode prog_8_method_28_code 85 = .ok (.aload_n 0, 1) := by decide +kernel
theorem d_8_28_86 : decode prog_8_method_28_code 86 = .ok (.getfield 45, 3) := by decide +kernel
theorem d_8_28_89 : decode prog_8_method_28_code 89 = .ok (.iload 5, 2) := by decide +kernel
theorem d_8_28_91 : decode prog_8_method_28_code 91 = .ok (.iaload, 1) := by decide +kernel
theorem d_8_28_92 : decode prog_8_method_28_code 92 = .ok (.lload_n 2, 1) := by decide +kernel
theorem d_8_28_93 : decode prog_8_method_28_code 93 = .ok (.invokevirtual 181, 3) := by decide +kernel
theorem d_8_28_96 : decode prog_8_method_28_code 96 = .ok (.istore 6, 2) := by decide +kernel
theorem d_8_28_98 : decode prog_8_method_28_code 98 = .ok (.iload 6, 2) := by decide +kernel
theorem d_8_28_100 : decode prog_8_method_28_code 100 = .ok (.ifCond .lt 17, 3) := by decide +kernel
theorem d_8_28_103 : decode prog_8_method_28_code 103 = .ok (.aload_n 0, 1) := by decide +kernel
theorem d_8_28_104 : decode prog_8_method_28_code 104 = .ok (.aload_n 0, 1) := by decide +kernel
theorem d_8_28_105 : decode prog_8_method_28_code 105 = .ok (.getfield 45, 3) := by decide +kernel
theorem d_8_28_108 : decode prog_8_method_28_code 108 = .ok (.iload 5, 2) := by decide +kernel
theorem d_8_28_110 : decode prog_8_method_28_code 110 = .ok (.iaload, 1) := by decide +kernel
theorem d_8_28_111 : decode prog_8_method_28_code 111 = .ok (.iload 6, 2) := by decide +kernel
theorem d_8_28_113 : decode prog_8_method_28_code 113 = .ok (.invokevirtual 185, 3) := by decide +kernel
theorem d_8_28_116 : decode prog_8_method_28_code 116 = .ok (.ireturn, 1) := by decide +kernel
theorem d_8_28_117 : decode prog_8_method_28_code 117 = .ok (.iinc 5 1, 3) := by decide +kernel
theorem d_8_28_120 : decode prog_8_method_28_code 120 = .ok (.goto (-106), 3) := by decide +kernel
theorem d_8_28_123 : decode prog_8_method_28_code 123 = .ok (.iinc 4 (-1), 3) := by decide +kernel
theorem d_8_28_126 : decode prog_8_method_28_code 126 = .ok (.goto (-122), 3) := by decide +kernel
theorem d_8_28_129 : decode prog_8_method_28_code 129 = .ok (.iconst (-1), 1) := by decide +kernel
theorem d_8_28_130 : decode prog_8_method_28_code 130 = .ok (.ireturn, 1) := by decide +kernel
theorem d_8_24_0 : decode prog_8_method_24_code 0 = .ok (.lload_n 0, 1) := by decide +kernel
theorem d_8_24_1 : decode prog_8_method_24_code 1 = .ok (.bipush 20, 2) := by decide +kernel
theorem d_8_24_3 : decode prog_8_method_24_code 3 = .ok (.lshr, 1) := by decide +kernel
theorem d_8_24_4 : decode prog_8_method_24_code 4 = .ok (.ldc2_w 161, 3) := by decide +kernel
theorem d_8_24_7 : decode prog_8_method_24_code 7 = .ok (.land, 1) := by decide +kernel
theorem d_8_24_8 : decode prog_8_method_24_code 8 = .ok (.lstore_n 2, 1) := by decide +kernel
theorem d_8_24_9 : decode prog_8_method_24_code 9 = .ok (.lload_n 0, 1) := by decide +kernel
theorem d_8_24_10 : decode prog_8_method_24_code 10 = .ok (.ldc2_w 161, 3) := by decide +kernel
theorem d_8_24_13 : decode prog_8_method_24_code 13 = .ok (.land, 1) := by decide +kernel
theorem d_8_24_14 : decode prog_8_method_24_code 14 = .ok (.lstore 4, 2) := by decide +kernel
theorem d_8_24_16 : decode prog_8_method_24_code 16 = .ok (.lload_n 0, 1) := by decide +kernel
theorem d_8_24_17 : decode prog_8_method_24_code 17 = .ok (.bipush 40, 2) := by decide +kernel
theorem d_8_24_19 : decode prog_8_method_24_code 19 = .ok (.lshr, 1) := by decide +kernel
theorem d_8_24_20 : decode prog_8_method_24_code 20 = .ok (.invokestatic 163, 3) := by decide +kernel
theorem d_8_24_23 : decode prog_8_method_24_code 23 = .ok (.lload_n 2, 1) := by decide +kernel
theorem d_8_24_24 : decode prog_8_method_24_code 24 = .ok (.lconst 0, 1) := by decide +kernel
theorem d_8_24_25 : decode prog_8_method_24_code 25 = .ok (.lcmp, 1) := by decide +kernel
theorem d_8_24_26 : decode prog_8_method_24_code 26 = .ok (.ifCond .le 12, 3) := by decide +kernel
theorem d_8_24_29 : decode prog_8_method_24_code 29 = .ok (.iconst 1, 1) := by decide +kernel
theorem d_8_24_30 : decode prog_8_method_24_code 30 = .ok (.lload_n 2, 1) := by decide +kernel
theorem d_8_24_31 : decode prog_8_method_24_code 31 = .ok (.invokestatic 163, 3) := by decide +kernel
theorem d_8_24_34 : decode prog_8_method_24_code 34 = .ok (.iadd, 1) := by decide +kernel
theorem d_8_24_35 : decode prog_8_method_24_code 35 = .ok (.goto 4, 3) := by decide +kernel
theorem d_8_24_38 : decode prog_8_method_24_code 38 = .ok (.iconst 0, 1) := by decide +kernel
theorem d_8_24_39 : decode prog_8_method_24_code 39 = .ok (.iadd, 1) := by decide +kernel
theorem d_8_24_40 : decode prog_8_method_24_code 40 = .ok (.lload 4, 2) := by decide +kernel
theorem d_8_24_42 : decode prog_8_method_24_code 42 = .ok (.lconst 0, 1) := by decide +kernel
theorem d_8_24_43 : decode prog_8_method_24_code 43 = .ok (.lcmp, 1) := by decide +kernel
theorem d_8_24_44 : decode prog_8_method_24_code 44 = .ok (.ifCond .le 13, 3) := by decide +kernel
theorem d_8_24_47 : decode prog_8_method_24_code 47 = .ok (.iconst 1, 1) := by decide +kernel
theorem d_8_24_48 : decode prog_8_method_24_code 48 = .ok (.lload 4, 2) := by decide +kernel
theorem d_8_24_50 : decode prog_8_method_24_code 50 = .ok (.invokestatic 163, 3) := by decide +kernel
theorem d_8_24_53 : decode prog_8_method_24_code 53 = .ok (.iadd, 1) := by decide +kernel
theorem d_8_24_54 : decode prog_8_method_24_code 54 = .ok (.goto 4, 3) := by decide +kernel
theorem d_8_24_57 : decode prog_8_method_24_code 57 = .ok (.iconst 0, 1) := by decide +kernel
theorem d_8_24_58 : decode prog_8_method_24_code 58 = .ok (.iadd, 1) := by decide +kernel
theorem d_8_24_59 : decode prog_8_method_24_code 59 = .ok (.ireturn, 1) := by decide +kernel
theorem d_8_23_0 : decode prog_8_method_23_code 0 = .ok (.iconst 0, 1) := by decide +kernel
theorem d_8_23_1 : decode prog_8_method_23_code 1 = .ok (.istore_n 2, 1) := by decide +kernel
theorem d_8_23_2 : decode prog_8_method_23_code 2 = .ok (.iconst 0, 1) := by decide +kernel
theorem d_8_23_3 : decode prog_8_method_23_code 3 = .ok (.istore_n 3, 1) := by decide +kernel
theorem d_8_23_4 : decode prog_8_method_23_code 4 = .ok (.iload_n 3, 1) := by decide +kernel
theorem d_8_23_5 : decode prog_8_method_23_code 5 = .ok (.bipush 20, 2) := by decide +kernel
theorem d_8_23_7 : decode prog_8_method_23_code 7 = .ok (.if_icmp .ge 30, 3) := by decide +kernel
theorem d_8_23_10 : decode prog_8_method_23_code 10 = .ok (.lload_n 0, 1) := by decide +kernel
theorem d_8_23_11 : decode prog_8_method_23_code 11 = .ok (.iload_n 3, 1) := by decide +kernel
theorem d_8_23_12 : decode prog_8_method_23_code 12 = .ok (.lshr, 1) := by decide +kernel
theorem d_8_23_13 : decode prog_8_method_23_code 13 = .ok (.ldc2_w 159, 3) := by decide +kernel
theorem d_8_23_16 : decode prog_8_method_23_code 16 = .ok (.land, 1) := by decide +kernel
theorem d_8_23_17 : decode prog_8_method_23_code 17 = .ok (.lconst 0, 1) := by decide +kernel
theorem d_8_23_18 : decode prog_8_method_23_code 18 = .ok (.lcmp, 1) := by decide +kernel
theorem d_8_23_19 : decode prog_8_method_23_code 19 = .ok (.ifCond .le 9, 3) := by decide +kernel
theorem d_8_23_22 : decode prog_8_method_23_code 22 = .ok (.iload_n 2, 1) := by decide +kernel
theorem d_8_23_23 : decode prog_8_method_23_code 23 = .ok (.iconst 1, 1) := by decide +kernel
theorem d_8_23_24 : decode prog_8_method_23_code 24 = .ok (.iadd, 1) := by decide +kernel
theorem d_8_23_25 : decode prog_8_method_23_code 25 = .ok (.goto 4, 3) := by decide +kernel
theorem d_8_23_28 : decode prog_8_method_23_code 28 = .ok (.iload_n 2, 1) := by decide +kernel
theorem d_8_23_29 : decode prog_8_method_23_code 29 = .ok (.istore_n 2, 1) := by decide +kernel
theorem d_8_23_30 : decode prog_8_method_23_code 30 = .ok (.iload_n 3, 1) := by decide +kernel
theorem d_8_23_31 : decode prog_8_method_23_code 31 = .ok (.iconst 5, 1) := by decide +kernel
theorem d_8_23_32 : decode prog_8_method_23_code 32 = .ok (.iadd, 1) := by decide +kernel
theorem d_8_23_33 : decode prog_8_method_23_code 33 = .ok (.istore_n 3, 1) := by decide +kernel
theorem d_8_23_34 : decode prog_8_method_23_code 34 = .ok (.goto (-30), 3) := by decide +kernel
theorem d_8_23_37 : decode prog_8_method_23_code 37 = .ok (.iload_n 2, 1) := by decide +kernel
theorem d_8_23_38 : decode prog_8_method_23_code 38 = .ok (.ireturn, 1) := by decide +kernel
theorem d_8_25_0 : decode prog_8_method_25_code 0 = .ok (.lload_n 2, 1) := by decide +kernel
theorem d_8_25_1 : decode prog_8_method_25_code 1 = .ok (.bipush 20, 2) := by decide +kernel
theorem d_8_25_3 : decode prog_8_method_25_code 3 = .ok (.lshr, 1) := by decide +kernel
theorem d_8_25_4 : decode prog_8_method_25_code 4 = .ok (.ldc2_w 161, 3) := by decide +kernel
theorem d_8_25_7 : decode prog_8_method_25_code 7 = .ok (.land, 1) := by decide +kernel
theorem d_8_25_8 : decode prog_8_method_25_code 8 = .ok (.lconst 0, 1) := by decide +kernel
theorem d_8_25_9 : decode prog_8_method_25_code 9 = .ok (.lcmp, 1) := by decide +kernel
theorem d_8_25_10 : decode prog_8_method_25_code 10 = .ok (.ifCond .le 7, 3) := by decide +kernel
theorem d_8_25_13 : decode prog_8_method_25_code 13 = .ok (.iconst 1, 1) := by decide +kernel
theorem d_8_25_14 : decode prog_8_method_25_code 14 = .ok (.goto 4, 3) := by decide +kernel
theorem d_8_25_17 : decode prog_8_method_25_code 17 = .ok (.iconst 0, 1) := by decide +kernel
theorem d_8_25_18 : decode prog_8_method_25_code 18 = .ok (.istore 4, 2) := by decide +kernel
theorem d_8_25_20 : decode prog_8_method_25_code 20 = .ok (.lload_n 2, 1) := by decide +kernel
theorem d_8_25_21 : decode prog_8_method_25_code 21 = .ok (.ldc2_w 161, 3) := by decide +kernel
theorem d_8_25_24 : decode prog_8_method_25_code 24 = .ok (.land, 1) := by decide +kernel
theorem d_8_25_25 : decode prog_8_method_25_code 25 = .ok (.lconst 0, 1) := by decide +kernel
theorem d_8_25_26 : decode prog_8_method_25_code 26 = .ok (.lcmp, 1) := by decide +kernel
theorem d_8_25_27 : decode prog_8_method_25_code 27 = .ok (.ifCond .le 7, 3) := by decide +kernel
theorem d_8_25_30 : decode prog_8_method_25_code 30 = .ok (.iconst 1, 1) := by decide +kernel
theorem d_8_25_31 : decode prog_8_method_25_code 31 = .ok (.goto 4, 3) := by decide +kernel
theorem d_8_25_34 : decode prog_8_method_25_code 34 = .ok (.iconst 0, 1) := by decide +kernel
theorem d_8_25_35 : decode prog_8_method_25_code 35 = .ok (.istore 5, 2) := by decide +kernel
theorem d_8_25_37 : decode prog_8_method_25_code 37 = .ok (.iload 5, 2) := by decide +kernel
theorem d_8_25_39 : decode prog_8_method_25_code 39 = .ok (.ifCond .eq 17, 3) := by decide +kernel
theorem d_8_25_42 : decode prog_8_method_25_code 42 = .ok (.lload_n 0, 1) := by decide +kernel
theorem d_8_25_43 : decode prog_8_method_25_code 43 = .ok (.lload_n 2, 1) := by decide +kernel
theorem d_8_25_44 : decode prog_8_method_25_code 44 = .ok (.lcmp, 1) := by decide +kernel
theorem d_8_25_45 : decode prog_8_method_25_code 45 = .ok (.ifCond .ne 7, 3) := by decide +kernel
theorem d_8_25_48 : decode prog_8_method_25_code 48 = .ok (.iconst 1, 1) := by decide +kernel
theorem d_8_25_49 : decode prog_8_method_25_code 49 = .ok (.goto 49, 3) := by decide +kernel
theorem d_8_25_52 : decode prog_8_method_25_code 52 = .ok (.iconst 0, 1) := by decide +kernel
theorem d_8_25_53 : decode prog_8_method_25_code 53 = .ok (.goto 45, 3) := by decide +kernel
theorem d_8_25_56 : decode prog_8_method_25_code 56 = .ok (.iload 4, 2) := by decide +kernel
theorem d_8_25_58 : decode prog_8_method_25_code 58 = .ok (.ifCond .eq 23, 3) := by decide +kernel
theorem d_8_25_61 : decode prog_8_method_25_code 61 = .ok (.lload_n 0, 1) := by decide +kernel
theorem d_8_25_62 : decode prog_8_method_25_code 62 = .ok (.bipush 20, 2) := by decide +kernel
theorem d_8_25_64 : decode prog_8_method_25_code 64 = .ok (.lshr, 1) := by decide +kernel
theorem d_8_25_65 : decode prog_8_method_25_code 65 = .ok (.lload_n 2, 1) := by decide +kernel
theorem d_8_25_66 : decode prog_8_method_25_code 66 = .ok (.bipush 20, 2) := by decide +kernel
theorem d_8_25_68 : decode prog_8_method_25_code 68 = .ok (.lshr, 1) := by decide +kernel
theorem d_8_25_69 : decode prog_8_method_25_code 69 = .ok (.lcmp, 1) := by decide +kernel
theorem d_8_25_70 : decode prog_8_method_25_code 70 = .ok (.ifCond .ne 7, 3) := by decide +kernel
theorem d_8_25_73 : decode prog_8_method_25_code 73 = .ok (.iconst 1, 1) := by decide +kernel
theorem d_8_25_74 : decode prog_8_method_25_code 74 = .ok (.goto 24, 3) := by decide +kernel
theorem d_8_25_77 : decode prog_8_method_25_code 77 = .ok (.iconst 0, 1) := by decide +kernel
theorem d_8_25_78 : decode prog_8_method_25_code 78 = .ok (.goto 20, 3) := by decide +kernel
theorem d_8_25_81 : decode prog_8_method_25_code 81 = .ok (.lload_n 0, 1) := by decide +kernel
theorem d_8_25_82 : decode prog_8_method_25_code 82 = .ok (.bipush 40, 2) := by decide +kernel
theorem d_8_25_84 : decode prog_8_method_25_code 84 = .ok (.lshr, 1) := by decide +kernel
theorem d_8_25_85 : decode prog_8_method_25_code 85 = .ok (.lload_n 2, 1) := by decide +kernel
theorem d_8_25_86 : decode prog_8_method_25_code 86 = .ok (.bipush 40, 2) := by decide +kernel
theorem d_8_25_88 : decode prog_8_method_25_code 88 = .ok (.lshr, 1) := by decide +kernel
theorem d_8_25_89 : decode prog_8_method_25_code 89 = .ok (.lcmp, 1) := by decide +kernel
theorem d_8_25_90 : decode prog_8_method_25_code 90 = .ok (.ifCond .ne 7, 3) := by decide +kernel
theorem d_8_25_93 : decode prog_8_method_25_code 93 = .ok (.iconst 1, 1) := by decide +kernel
theorem d_8_25_94 : decode prog_8_method_25_code 94 = .ok (.goto 4, 3) := by decide +kernel
theorem d_8_25_97 : decode prog_8_method_25_code 97 = .ok (.iconst 0, 1) := by decide +kernel
theorem d_8_25_98 : decode prog_8_method_25_code 98 = .ok (.ireturn, 1) := by decide +kernel
theorem d_8_26_0 : decode prog_8_method_26_code 0 = .ok (.iconst 4, 1) := by decide +kernel
theorem d_8_26_1 : decode prog_8_method_26_code 1 = .ok (.iload_n 1, 1) := by decide +kernel
theorem d_8_26_2 : decode prog_8_method_26_code 2 = .ok (.imul, 1) := by decide +kernel
theorem d_8_26_3 : decode prog_8_method_26_code 3 = .ok (.istore 4, 2) := by decide +kernel
theorem d_8_26_5 : decode prog_8_method_26_code 5 = .ok (.iload 4, 2) := by decide +kernel
theorem d_8_26_7 : decode prog_8_method_26_code 7 = .ok (.iconst 4, 1) := by decide +kernel
theorem d_8_26_8 : decode prog_8_method_26_code 8 = .ok (.iload_n 1, 1) := by decide +kernel
theorem d_8_26_9 : decode prog_8_method_26_code 9 = .ok (.imul, 1) := by decide +kernel
theorem d_8_26_10 : decode prog_8_method_26_code 10 = .ok (.aload_n 0, 1) := by decide +kernel
theorem d_8_26_11 : decode prog_8_method_26_code 11 = .ok (.getfield 36, 3) := by decide +kernel
theorem d_8_26_14 : decode prog_8_method_26_code 14 = .ok (.iload_n 1, 1) := by decide +kernel
theorem d_8_26_15 : decode prog_8_method_26_code 15 = .ok (.iaload, 1) := by decide +kernel
theorem d_8_26_16 : decode prog_8_method_26_code 16 = .ok (.iadd, 1) := by decide +kernel
theorem d_8_26_17 : decode prog_8_method_26_code 17 = .ok (.if_icmp .ge 32, 3) := by decide +kernel
theorem d_8_26_20 : decode prog_8_method_26_code 20 = .ok (.aload_n 0, 1) := by decide +kernel
theorem d_8_26_21 : decode prog_8_method_26_code 21 = .ok (.aload_n 0, 1) := by decide +kernel
theorem d_8_26_22 : decode prog_8_method_26_code 22 = .ok (.getfield 39, 3) := by decide +kernel
theorem d_8_26_25 : decode prog_8_method_26_code 25 = .ok (.iload 4, 2) := by decide +kernel
theorem d_8_26_27 : decode prog_8_method_26_code 27 = .ok (.iaload, 1) := by decide +kernel
theorem d_8_26_28 : decode prog_8_method_26_code 28 = .ok (.lload_n 2, 1) := by decide +kernel
theorem d_8_26_29 : decode prog_8_method_26_code 29 = .ok (.invokevirtual 148, 3) := by decide +kernel
theorem d_8_26_32 : decode prog_8_method_26_code 32 = .ok (.ifCond .eq 11, 3) := by decide +kernel
theorem d_8_26_35 : decode prog_8_method_26_code 35 = .ok (.aload_n 0, 1) := by decide +kernel
theorem d_8_26_36 : decode prog_8_method_26_code 36 = .ok (.getfield 39, 3) := by decide +kernel
theorem d_8_26_39 : decode prog_8_method_26_code 39 = .ok (.iload 4, 2) := by decide +kernel
theorem d_8_26_41 : decode prog_8_method_26_code 41 = .ok (.iaload, 1) := by decide +kernel
theorem d_8_26_42 : decode prog_8_method_26_code 42 = .ok (.ireturn, 1) := by decide +kernel
theorem d_8_26_43 : decode prog_8_method_26_code 43 = .ok (.iinc 4 1, 3) := by decide +kernel
theorem d_8_26_46 : decode prog_8_method_26_code 46 = .ok (.goto (-41), 3) := by decide +kernel
theorem d_8_26_49 : decode prog_8_method_26_code 49 = .ok (.iconst (-1), 1) := by decide +kernel
theorem d_8_26_50 : decode prog_8_method_26_code 50 = .ok (.ireturn, 1) := by decide +kernel
theorem d_8_29_0 : decode prog_8_method_29_code 0 = .ok (.aload_n 0, 1) := by decide +kernel
theorem d_8_29_1 : decode prog_8_method_29_code 1 = .ok (.getfield 26, 3) := by decide +kernel
theorem d_8_29_4 : decode prog_8_method_29_code 4 = .ok (.iload_n 2, 1) := by decide +kernel
theorem d_8_29_5 : decode prog_8_method_29_code 5 = .ok (.dup2, 1) := by decide +kernel
theorem d_8_29_6 : decode prog_8_method_29_code 6 = .ok (.iaload, 1) := by decide +kernel
theorem d_8_29_7 : decode prog_8_method_29_code 7 = .ok (.iconst 1, 1) := by decide +kernel
theorem d_8_29_8 : decode prog_8_method_29_code 8 = .ok (.iadd, 1) := by decide +kernel
theorem d_8_29_9 : decode prog_8_method_29_code 9 = .ok (.iastore, 1) := by decide +kernel
theorem d_8_29_10 : decode prog_8_method_29_code 10 = .ok (.bipush 16, 2) := by decide +kernel
theorem d_8_29_12 : decode prog_8_method_29_code 12 = .ok (.iload_n 1, 1) := by decide +kernel
theorem d_8_29_13 : decode prog_8_method_29_code 13 = .ok (.imul, 1) := by decide +kernel
theorem d_8_29_14 : decode prog_8_method_29_code 14 = .ok (.iload_n 2, 1) := by decide +kernel
theorem d_8_29_15 : decode prog_8_method_29_code 15 = .ok (.iadd, 1) := by decide +kernel
theorem d_8_29_16 : decode prog_8_method_29_code 16 = .ok (.ireturn, 1) := by decide +kernel
theorem d_8_30_0 : decode prog_8_method_30_code 0 = .ok (.aload_n 0, 1) := by decide +kernel
theorem d_8_30_1 : decode prog_8_method_30_code 1 = .ok (.iload_n 1, 1) := by decide +kernel
theorem d_8_30_2 : decode prog_8_method_30_code 2 = .ok (.lload_n 2, 1) := by decide +kernel
theorem d_8_30_3 : decode prog_8_method_30_code 3 = .ok (.invokevirtual 181, 3) := by decide +kernel
theorem d_8_30_6 : decode prog_8_method_30_code 6 = .ok (.istore 4, 2) := by decide +kernel
theorem d_8_30_8 : decode prog_8_method_30_code 8 = .ok (.iload 4, 2) := by decide +kernel
theorem d_8_30_10 : decode prog_8_method_30_code 10 = .ok (.ifCond .ge 7, 3) := by decide +kernel
theorem d_8_30_13 : decode prog_8_method_30_code 13 = .ok (.iconst (-1), 1) := by decide +kernel
theorem d_8_30_14 : decode prog_8_method_30_code 14 = .ok (.goto 10, 3) := by decide +kernel
theorem d_8_30_17 : decode prog_8_method_30_code 17 = .ok (.aload_n 0, 1) := by decide +kernel
theorem d_8_30_18 : decode prog_8_method_30_code 18 = .ok (.iload_n 1, 1) := by decide +kernel
theorem d_8_30_19 : decode prog_8_method_30_code 19 = .ok (.iload 4, 2) := by decide +kernel
theorem d_8_30_21 : decode prog_8_method_30_code 21 = .ok (.invokevirtual 185, 3) := by decide +kernel
theorem d_8_30_24 : decode prog_8_method_30_code 24 = .ok (.ireturn, 1) := by decide +kernel
theorem d_8_35_0 : decode prog_8_method_35_code 0 = .ok (.iload_n 1, 1) := by decide +kernel
theorem d_8_35_1 : decode prog_8_method_35_code 1 = .ok (.ifCond .lt 20, 3) := by decide +kernel
theorem d_8_35_4 : decode prog_8_method_35_code 4 = .ok (.aload_n 0, 1) := by decide +kernel
theorem d_8_35_5 : decode prog_8_method_35_code 5 = .ok (.getfield 63, 3) := by decide +kernel
theorem d_8_35_8 : decode prog_8_method_35_code 8 = .ok (.iload_n 1, 1) := by decide +kernel
theorem d_8_35_9 : decode prog_8_method_35_code 9 = .ok (.baload, 1) := by decide +kernel
theorem d_8_35_10 : decode prog_8_method_35_code 10 = .ok (.ifCond .ne 11, 3) := by decide +kernel
theorem d_8_35_13 : decode prog_8_method_35_code 13 = .ok (.aload_n 0, 1) := by decide +kernel
theorem d_8_35_14 : decode prog_8_method_35_code 14 = .ok (.iload_n 1, 1) := by decide +kernel
theorem d_8_35_15 : decode prog_8_method_35_code 15 = .ok (.invokevirtual 204, 3) := by decide +kernel
theorem d_8_35_18 : decode prog_8_method_35_code 18 = .ok (.ifCond .eq 5, 3) := by decide +kernel
theorem d_8_35_21 : decode prog_8_method_35_code 21 = .ok (.iconst (-1), 1) := by decide +kernel
theorem d_8_35_22 : decode prog_8_method_35_code 22 = .ok (.ireturn, 1) := by decide +kernel
theorem d_8_35_23 : decode prog_8_method_35_code 23 = .ok (.aload_n 0, 1) := by decide +kernel
theorem d_8_35_24 : decode prog_8_method_35_code 24 = .ok (.iload_n 1, 1) := by decide +kernel
theorem d_8_35_25 : decode prog_8_method_35_code 25 = .ok (.lload_n 2, 1) := by decide +kernel
theorem d_8_35_26 : decode prog_8_method_35_code 26 = .ok (.invokevirtual 208, 3) := by decide +kernel
theorem d_8_35_29 : decode prog_8_method_35_code 29 = .ok (.istore 4, 2) := by decide +kernel
theorem d_8_35_31 : decode prog_8_method_35_code 31 = .ok (.iload 4, 2) := by decide +kernel
theorem d_8_35_33 : decode prog_8_method_35_code 33 = .ok (.ifCond .ge 8, 3) := by decide +kernel
theorem d_8_35_36 : decode prog_8_method_35_code 36 = .ok (.aload_n 0, 1) := by decide +kernel
theorem d_8_35_37 : decode prog_8_method_35_code 37 = .ok (.iload_n 1, 1) := by decide +kernel
theorem d_8_35_38 : decode prog_8_method_35_code 38 = .ok (.invokevirtual 192, 3) := by decide +kernel
theorem d_8_35_41 : decode prog_8_method_35_code 41 = .ok (.iload 4, 2) := by decide +kernel
theorem d_8_35_43 : decode prog_8_method_35_code 43 = .ok (.ireturn, 1) := by decide +kernel
theorem d_8_32_0 : decode prog_8_method_32_code 0 = .ok (.iconst 0, 1) := by decide +kernel
theorem d_8_32_1 : decode prog_8_method_32_code 1 = .ok (.istore_n 2, 1) := by decide +kernel
theorem d_8_32_2 : decode prog_8_method_32_code 2 = .ok (.iconst 0, 1) := by decide +kernel
theorem d_8_32_3 : decode prog_8_method_32_code 3 = .ok (.istore_n 3, 1) := by decide +kernel
theorem d_8_32_4 : decode prog_8_method_32_code 4 = .ok (.iload_n 3, 1) := by decide +kernel
theorem d_8_32_5 : decode prog_8_method_32_code 5 = .ok (.aload_n 0, 1) := by decide +kernel
theorem d_8_32_6 : decode prog_8_method_32_code 6 = .ok (.getfield 189, 3) := by decide +kernel
theorem d_8_32_9 : decode prog_8_method_32_code 9 = .ok (.if_icmp .ge 29, 3) := by decide +kernel
theorem d_8_32_12 : decode prog_8_method_32_code 12 = .ok (.iload_n 2, 1) := by decide +kernel
theorem d_8_32_13 : decode prog_8_method_32_code 13 = .ok (.ifCond .ne 13, 3) := by decide +kernel
theorem d_8_32_16 : decode prog_8_method_32_code 16 = .ok (.aload_n 0, 1) := by decide +kernel
theorem d_8_32_17 : decode prog_8_method_32_code 17 = .ok (.getfield 70, 3) := by decide +kernel
theorem d_8_32_20 : decode prog_8_method_32_code 20 = .ok (.iload_n 3, 1) := by decide +kernel
theorem d_8_32_21 : decode prog_8_method_32_code 21 = .ok (.iaload, 1) := by decide +kernel
theorem d_8_32_22 : decode prog_8_method_32_code 22 = .ok (.iload_n 1, 1) := by decide +kernel
theorem d_8_32_23 : decode prog_8_method_32_code 23 = .ok (.if_icmp .ne 7, 3) := by decide +kernel
theorem d_8_32_26 : decode prog_8_method_32_code 26 = .ok (.iconst 1, 1) := by decide +kernel
theorem d_8_32_27 : decode prog_8_method_32_code 27 = .ok (.goto 4, 3) := by decide +kernel
theorem d_8_32_30 : decode prog_8_method_32_code 30 = .ok (.iconst 0, 1) := by decide +kernel
theorem d_8_32_31 : decode prog_8_method_32_code 31 = .ok (.istore_n 2, 1) := by decide +kernel
theorem d_8_32_32 : decode prog_8_method_32_code 32 = .ok (.iinc 3 1, 3) := by decide +kernel
theorem d_8_32_35 : decode prog_8_method_32_code 35 = .ok (.goto (-31), 3) := by decide +kernel
theorem d_8_32_38 : decode prog_8_method_32_code 38 = .ok (.iload_n 2, 1) := by decide +kernel
theorem d_8_32_39 : decode prog_8_method_32_code 39 = .ok (.ireturn, 1) := by decide +kernel
theorem d_8_37_0 : decode prog_8_method_37_code 0 = .ok (.aload_n 0, 1) := by decide +kernel
theorem d_8_37_1 : decode prog_8_method_37_code 1 = .ok (.iconst 0, 1) := by decide +kernel
theorem d_8_37_2 : decode prog_8_method_37_code 2 = .ok (.putfield 79, 3) := by decide +kernel
theorem d_8_37_5 : decode prog_8_method_37_code 5 = .ok (.aload_n 0, 1) := by decide +kernel
theorem d_8_37_6 : decode prog_8_method_37_code 6 = .ok (.getfield 167, 3) := by decide +kernel
theorem d_8_37_9 : decode prog_8_method_37_code 9 = .ok (.ireturn, 1) := by decide +kernel
theorem d_8_38_0 : decode prog_8_method_38_code 0 = .ok (.aload_n 0, 1) := by decide +kernel
theorem d_8_38_1 : decode prog_8_method_38_code 1 = .ok (.iconst 0, 1) := by decide +kernel
theorem d_8_38_2 : decode prog_8_method_38_code 2 = .ok (.putfield 79, 3) := by decide +kernel
theorem d_8_38_5 : decode prog_8_method_38_code 5 = .ok (.iload_n 1, 1) := by decide +kernel
theorem d_8_38_6 : decode prog_8_method_38_code 6 = .ok (.ifCond .lt 26, 3) := by decide +kernel
theorem d_8_38_9 : decode prog_8_method_38_code 9 = .ok (.iload_n 1, 1) := by decide +kernel
theorem d_8_38_10 : decode prog_8_method_38_code 10 = .ok (.aload_n 0, 1) := by decide +kernel
theorem d_8_38_11 : decode prog_8_method_38_code 11 = .ok (.getfield 167, 3) := by decide +kernel
theorem d_8_38_14 : decode prog_8_method_38_code 14 = .ok (.if_icmp .ge 18, 3) := by decide +kernel
theorem d_8_38_17 : decode prog_8_method_38_code 17 = .ok (.iload_n 1, 1) := by decide +kernel
theorem d_8_38_18 : decode prog_8_method_38_code 18 = .ok (.bipush 20, 2) := by decide +kernel
theorem d_8_38_20 : decode prog_8_method_38_code 20 = .ok (.if_icmp .ge 12, 3) := by decide +kernel
theorem d_8_38_23 : decode prog_8_method_38_code 23 = .ok (.aload_n 0, 1) := by decide +kernel
theorem d_8_38_24 : decode prog_8_method_38_code 24 = .ok (.getfield 76, 3) := by decide +kernel
theorem d_8_38_27 : decode prog_8_method_38_code 27 = .ok (.iload_n 1, 1) := by decide +kernel
theorem d_8_38_28 : decode prog_8_method_38_code 28 = .ok (.iaload, 1) := by decide +kernel
theorem d_8_38_29 : decode prog_8_method_38_code 29 = .ok (.goto 4, 3) := by decide +kernel
theorem d_8_38_32 : decode prog_8_method_38_code 32 = .ok (.iconst (-1), 1) := by decide +kernel
theorem d_8_38_33 : decode prog_8_method_38_code 33 = .ok (.ireturn, 1) := by decide +kernel
theorem d_8_40_0 : decode prog_8_method_40_code 0 = .ok (.aload_n 0, 1) := by decide +kernel
theorem d_8_40_1 : decode prog_8_method_40_code 1 = .ok (.iconst 0, 1) := by decide +kernel
theorem d_8_40_2 : decode prog_8_method_40_code 2 = .ok (.putfield 79, 3) := by decide +kernel
theorem d_8_40_5 : decode prog_8_method_40_code 5 = .ok (.aload_n 0, 1) := by decide +kernel
theorem d_8_40_6 : decode prog_8_method_40_code 6 = .ok (.iload_n 1, 1) := by decide +kernel
theorem d_8_40_7 : decode prog_8_method_40_code 7 = .ok (.invokevirtual 214, 3) := by decide +kernel
theorem d_8_40_10 : decode prog_8_method_40_code 10 = .ok (.ifCond .eq 12, 3) := by decide +kernel
theorem d_8_40_13 : decode prog_8_method_40_code 13 = .ok (.aload_n 0, 1) := by decide +kernel
theorem d_8_40_14 : decode prog_8_method_40_code 14 = .ok (.getfield 51, 3) := by decide +kernel
theorem d_8_40_17 : decode prog_8_method_40_code 17 = .ok (.iload_n 1, 1) := by decide +kernel
theorem d_8_40_18 : decode prog_8_method_40_code 18 = .ok (.iaload, 1) := by decide +kernel
theorem d_8_40_19 : decode prog_8_method_40_code 19 = .ok (.goto 4, 3) := by decide +kernel
theorem d_8_40_22 : decode prog_8_method_40_code 22 = .ok (.iconst (-1), 1) := by decide +kernel
theorem d_8_40_23 : decode prog_8_method_40_code 23 = .ok (.ireturn, 1) := by decide +kernel
theorem d_8_39_0 : decode prog_8_method_39_code 0 = .ok (.iload_n 1, 1) := by decide +kernel
theorem d_8_39_1 : decode prog_8_method_39_code 1 = .ok (.ifCond .lt 24, 3) := by decide +kernel
theorem d_8_39_4 : decode prog_8_method_39_code 4 = .ok (.iload_n 1, 1) := by decide +kernel
theorem d_8_39_5 : decode prog_8_method_39_code 5 = .ok (.aload_n 0, 1) := by decide +kernel
theorem d_8_39_6 : decode prog_8_method_39_code 6 = .ok (.getfield 98, 3) := by decide +kernel
theorem d_8_39_9 : decode prog_8_method_39_code 9 = .ok (.if_icmp .ge 16, 3) := by decide +kernel
theorem d_8_39_12 : decode prog_8_method_39_code 12 = .ok (.aload_n 0, 1) := by decide +kernel
theorem d_8_39_13 : decode prog_8_method_39_code 13 = .ok (.getfield 63, 3) := by decide +kernel
theorem d_8_39_16 : decode prog_8_method_39_code 16 = .ok (.iload_n 1, 1) := by decide +kernel
theorem d_8_39_17 : decode prog_8_method_39_code 17 = .ok (.baload, 1) := by decide +kernel
theorem d_8_39_18 : decode prog_8_method_39_code 18 = .ok (.ifCond .ne 7, 3) := by decide +kernel
theorem d_8_39_21 : decode prog_8_method_39_code 21 = .ok (.iconst 1, 1) := by decide +kernel
theorem d_8_39_22 : decode prog_8_method_39_code 22 = .ok (.goto 4, 3) := by decide +kernel
theorem d_8_39_25 : decode prog_8_method_39_code 25 = .ok (.iconst 0, 1) := by decide +kernel
theorem d_8_39_26 : decode prog_8_method_39_code 26 = .ok (.ireturn, 1) := by decide +kernel
theorem d_8_41_0 : decode prog_8_method_41_code 0 = .ok (.aload_n 0, 1) := by decide +kernel
theorem d_8_41_1 : decode prog_8_method_41_code 1 = .ok (.iconst 0, 1) := by decide +kernel
theorem d_8_41_2 : decode prog_8_method_41_code 2 = .ok (.putfield 79, 3) := by decide +kernel
theorem d_8_41_5 : decode prog_8_method_41_code 5 = .ok (.iload_n 1, 1) := by decide +kernel
theorem d_8_41_6 : decode prog_8_method_41_code 6 = .ok (.ifCond .lt 20, 3) := by decide +kernel
theorem d_8_41_9 : decode prog_8_method_41_code 9 = .ok (.iload_n 1, 1) := by decide +kernel
theorem d_8_41_10 : decode prog_8_method_41_code 10 = .ok (.aload_n 0, 1) := by decide +kernel
theorem d_8_41_11 : decode prog_8_method_41_code 11 = .ok (.getfield 95, 3) := by decide +kernel
theorem d_8_41_14 : decode prog_8_method_41_code 14 = .ok (.if_icmp .ge 12, 3) := by decide +kernel
theorem d_8_41_17 : decode prog_8_method_41_code 17 = .ok (.aload_n 0, 1) := by decide +kernel
theorem d_8_41_18 : decode prog_8_method_41_code 18 = .ok (.getfield 26, 3) := by decide +kernel
theorem d_8_41_21 : decode prog_8_method_41_code 21 = .ok (.iload_n 1, 1) := by decide +kernel
theorem d_8_41_22 : decode prog_8_method_41_code 22 = .ok (.iaload, 1) := by decide +kernel
theorem d_8_41_23 : decode prog_8_method_41_code 23 = .ok (.goto 4, 3) := by decide +kernel
theorem d_8_41_26 : decode prog_8_method_41_code 26 = .ok (.iconst (-1), 1) := by decide +kernel
theorem d_8_41_27 : decode prog_8_method_41_code 27 = .ok (.ireturn, 1) := by decide +kernel
theorem d_8_42_0 : decode prog_8_method_42_code 0 = .ok (.aload_n 0, 1) := by decide +kernel
theorem d_8_42_1 : decode prog_8_method_42_code 1 = .ok (.iconst 0, 1) := by decide +kernel
theorem d_8_42_2 : decode prog_8_method_42_code 2 = .ok (.putfield 79, 3) := by decide +kernel
theorem d_8_42_5 : decode prog_8_method_42_code 5 = .ok (.aload_n 0, 1) := by decide +kernel
theorem d_8_42_6 : decode prog_8_method_42_code 6 = .ok (.iload_n 1, 1) := by decide +kernel
theorem d_8_42_7 : decode prog_8_method_42_code 7 = .ok (.invokevirtual 214, 3) := by decide +kernel
theorem d_8_42_10 : decode prog_8_method_42_code 10 = .ok (.ifCond .ne 5, 3) := by decide +kernel
theorem d_8_42_13 : decode prog_8_method_42_code 13 = .ok (.iconst 0, 1) := by decide +kernel
theorem d_8_42_14 : decode prog_8_method_42_code 14 = .ok (.ireturn, 1) := by decide +kernel
theorem d_8_42_15 : decode prog_8_method_42_code 15 = .ok (.aload_n 0, 1) := by decide +kernel
theorem d_8_42_16 : decode prog_8_method_42_code 16 = .ok (.getfield 63, 3) := by decide +kernel
theorem d_8_42_19 : decode prog_8_method_42_code 19 = .ok (.iload_n 1, 1) := by decide +kernel
theorem d_8_42_20 : decode prog_8_method_42_code 20 = .ok (.iconst 1, 1) := by decide +kernel
theorem d_8_42_21 : decode prog_8_method_42_code 21 = .ok (.bastore, 1) := by decide +kernel
theorem d_8_42_22 : decode prog_8_method_42_code 22 = .ok (.iconst 1, 1) := by decide +kernel
theorem d_8_42_23 : decode prog_8_method_42_code 23 = .ok (.ireturn, 1) := by decide +kernel
theorem d_8_43_0 : decode prog_8_method_43_code 0 = .ok (.aload_n 0, 1) := by decide +kernel
theorem d_8_43_1 : decode prog_8_method_43_code 1 = .ok (.iconst 0, 1) := by decide +kernel
theorem d_8_43_2 : decode prog_8_method_43_code 2 = .ok (.putfield 79, 3) := by decide +kernel
theorem d_8_43_5 : decode prog_8_method_43_code 5 = .ok (.aload_n 0, 1) := by decide +kernel
theorem d_8_43_6 : decode prog_8_method_43_code 6 = .ok (.invokevirtual 101, 3) := by decide +kernel
theorem d_8_43_9 : decode prog_8_method_43_code 9 = .ok (.aload_n 0, 1) := by decide +kernel
theorem d_8_43_10 : decode prog_8_method_43_code 10 = .ok (.getfield 86, 3) := by decide +kernel
theorem d_8_43_13 : decode prog_8_method_43_code 13 = .ok (.iconst 1, 1) := by decide +kernel
theorem d_8_43_14 : decode prog_8_method_43_code 14 = .ok (.if_icmp .ne 11, 3) := by decide +kernel
theorem d_8_43_17 : decode prog_8_method_43_code 17 = .ok (.aload_n 0, 1) := by decide +kernel
theorem d_8_43_18 : decode prog_8_method_43_code 18 = .ok (.iconst 0, 1) := by decide +kernel
theorem d_8_43_19 : decode prog_8_method_43_code 19 = .ok (.invokevirtual 142, 3) := by decide +kernel
theorem d_8_43_22 : decode prog_8_method_43_code 22 = .ok (.goto 4, 3) := by decide +kernel
theorem d_8_43_25 : decode prog_8_method_43_code 25 = .ok (.iconst 0, 1) := by decide +kernel
theorem d_8_43_26 : decode prog_8_method_43_code 26 = .ok (.istore_n 1, 1) := by decide +kernel
theorem d_8_43_27 : decode prog_8_method_43_code 27 = .ok (.iload_n 1, 1) := by decide +kernel
theorem d_8_43_28 : decode prog_8_method_43_code 28 = .ok (.ifCond .ne 7, 3) := by decide +kernel
theorem d_8_43_31 : decode prog_8_method_43_code 31 = .ok (.iconst (-1), 1) := by decide +kernel
theorem d_8_43_32 : decode prog_8_method_43_code 32 = .ok (.goto 8, 3) := by decide +kernel
theorem d_8_43_35 : decode prog_8_method_43_code 35 = .ok (.aload_n 0, 1) := by decide +kernel
theorem d_8_43_36 : decode prog_8_method_43_code 36 = .ok (.iload_n 1, 1) := by decide +kernel
theorem d_8_43_37 : decode prog_8_method_43_code 37 = .ok (.invokevirtual 152, 3) := by decide +kernel
theorem d_8_43_40 : decode prog_8_method_43_code 40 = .ok (.ireturn, 1) := by decide +kernel
theorem d_8_44_0 : decode prog_8_method_44_code 0 = .ok (.aload_n 0, 1) := by decide +kernel
theorem d_8_44_1 : decode prog_8_method_44_code 1 = .ok (.iconst 0, 1) := by decide +kernel
theorem d_8_44_2 : decode prog_8_method_44_code 2 = .ok (.putfield 79, 3) := by decide +kernel
theorem d_8_44_5 : decode prog_8_method_44_code 5 = .ok (.iconst 0, 1) := by decide +kernel
theorem d_8_44_6 : decode prog_8_method_44_code 6 = .ok (.istore_n 2, 1) := by decide +kernel
theorem d_8_44_7 : decode prog_8_method_44_code 7 = .ok (.iconst 0, 1) := by decide +kernel
theorem d_8_44_8 : decode prog_8_method_44_code 8 = .ok (.istore_n 3, 1) := by decide +kernel
theorem d_8_44_9 : decode prog_8_method_44_code 9 = .ok (.iload_n 3, 1) := by decide +kernel
theorem d_8_44_10 : decode prog_8_method_44_code 10 = .ok (.aload_n 0, 1) := by decide +kernel
theorem d_8_44_11 : decode prog_8_method_44_code 11 = .ok (.getfield 98, 3) := by decide +kernel
theorem d_8_44_14 : decode prog_8_method_44_code 14 = .ok (.if_icmp .ge 26, 3) := by decide +kernel
theorem d_8_44_17 : decode prog_8_method_44_code 17 = .ok (.aload_n 0, 1) := by decide +kernel
theorem d_8_44_18 : decode prog_8_method_44_code 18 = .ok (.getfield 63, 3) := by decide +kernel
theorem d_8_44_21 : decode prog_8_method_44_code 21 = .ok (.iload_n 3, 1) := by decide +kernel
theorem d_8_44_22 : decode prog_8_method_44_code 22 = .ok (.baload, 1) := by decide +kernel
theorem d_8_44_23 : decode prog_8_method_44_code 23 = .ok (.ifCond .eq 7, 3) := by decide +kernel
theorem d_8_44_26 : decode prog_8_method_44_code 26 = .ok (.iload_n 2, 1) := by decide +kernel
theorem d_8_44_27 : decode prog_8_method_44_code 27 = .ok (.goto 6, 3) := by decide +kernel
theorem d_8_44_30 : decode prog_8_method_44_code 30 = .ok (.iload_n 2, 1) := by decide +kernel
theorem d_8_44_31 : decode prog_8_method_44_code 31 = .ok (.iconst 1, 1) := by decide +kernel
theorem d_8_44_32 : decode prog_8_method_44_code 32 = .ok (.iadd, 1) := by decide +kernel
theorem d_8_44_33 : decode prog_8_method_44_code 33 = .ok (.istore_n 2, 1) := by decide +kernel
theorem d_8_44_34 : decode prog_8_method_44_code 34 = .ok (.iinc 3 1, 3) := by decide +kernel
theorem d_8_44_37 : decode prog_8_method_44_code 37 = .ok (.goto (-28), 3) := by decide +kernel
theorem d_8_44_40 : decode prog_8_method_44_code 40 = .ok (.iload_n 1, 1) := by decide +kernel
theorem d_8_44_41 : decode prog_8_method_44_code 41 = .ok (.ifCond .ne 10, 3) := by decide +kernel
theorem d_8_44_44 : decode prog_8_method_44_code 44 = .ok (.aload_n 0, 1) := by decide +kernel
theorem d_8_44_45 : decode prog_8_method_44_code 45 = .ok (.getfield 95, 3) := by decide +kernel
theorem d_8_44_48 : decode prog_8_method_44_code 48 = .ok (.goto 25, 3) := by decide +kernel
theorem d_8_44_51 : decode prog_8_method_44_code 51 = .ok (.iload_n 1, 1) := by decide +kernel
theorem d_8_44_52 : decode prog_8_method_44_code 52 = .ok (.iconst 1, 1) := by decide +kernel
theorem d_8_44_53 : decode prog_8_method_44_code 53 = .ok (.if_icmp .ne 10, 3) := by decide +kernel
theorem d_8_44_56 : decode prog_8_method_44_code 56 = .ok (.aload_n 0, 1) := by decide +kernel
theorem d_8_44_57 : decode prog_8_method_44_code 57 = .ok (.getfield 98, 3) := by decide +kernel
theorem d_8_44_60 : decode prog_8_method_44_code 60 = .ok (.goto 13, 3) := by decide +kernel
theorem d_8_44_63 : decode prog_8_method_44_code 63 = .ok (.iload_n 1, 1) := by decide +kernel
theorem d_8_44_64 : decode prog_8_method_44_code 64 = .ok (.iconst 2, 1) := by decide +kernel
theorem d_8_44_65 : decode prog_8_method_44_code 65 = .ok (.if_icmp .ne 7, 3) := by decide +kernel
theorem d_8_44_68 : decode prog_8_method_44_code 68 = .ok (.iload_n 2, 1) := by decide +kernel
theorem d_8_44_69 : decode prog_8_method_44_code 69 = .ok (.goto 4, 3) := by decide +kernel
theorem d_8_44_72 : decode prog_8_method_44_code 72 = .ok (.iconst (-1), 1) := by decide +kernel
theorem d_8_44_73 : decode prog_8_method_44_code 73 = .ok (.ireturn, 1) := by decide +kernel
