/-! decode rows of the JDK's methods, of the class, of the law's line and look. -/
theorem d_36_11_0 : decode prog_36_method_11_code 0 = .ok (.iload_n 0, 1) := by decide +kernel
theorem d_36_11_1 : decode prog_36_method_11_code 1 = .ok (.ifCond .lt 8, 3) := by decide +kernel
theorem d_36_11_4 : decode prog_36_method_11_code 4 = .ok (.iload_n 0, 1) := by decide +kernel
theorem d_36_11_5 : decode prog_36_method_11_code 5 = .ok (.iload_n 1, 1) := by decide +kernel
theorem d_36_11_6 : decode prog_36_method_11_code 6 = .ok (.if_icmp .lt 10, 3) := by decide +kernel
theorem d_36_11_9 : decode prog_36_method_11_code 9 = .ok (.aload_n 2, 1) := by decide +kernel
theorem d_36_11_10 : decode prog_36_method_11_code 10 = .ok (.iload_n 0, 1) := by decide +kernel
theorem d_36_11_11 : decode prog_36_method_11_code 11 = .ok (.iload_n 1, 1) := by decide +kernel
theorem d_36_11_12 : decode prog_36_method_11_code 12 = .ok (.invokestatic 95, 3) := by decide +kernel
theorem d_36_11_15 : decode prog_36_method_11_code 15 = .ok (.athrow, 1) := by decide +kernel
theorem d_36_11_16 : decode prog_36_method_11_code 16 = .ok (.iload_n 0, 1) := by decide +kernel
theorem d_36_11_17 : decode prog_36_method_11_code 17 = .ok (.ireturn, 1) := by decide +kernel
theorem d_36_12_0 : decode prog_36_method_12_code 0 = .ok (.iload_n 0, 1) := by decide +kernel
theorem d_36_12_1 : decode prog_36_method_12_code 1 = .ok (.ifCond .lt 13, 3) := by decide +kernel
theorem d_36_12_4 : decode prog_36_method_12_code 4 = .ok (.iload_n 0, 1) := by decide +kernel
theorem d_36_12_5 : decode prog_36_method_12_code 5 = .ok (.iload_n 1, 1) := by decide +kernel
theorem d_36_12_6 : decode prog_36_method_12_code 6 = .ok (.if_icmp .gt 8, 3) := by decide +kernel
theorem d_36_12_9 : decode prog_36_method_12_code 9 = .ok (.iload_n 1, 1) := by decide +kernel
theorem d_36_12_10 : decode prog_36_method_12_code 10 = .ok (.iload_n 2, 1) := by decide +kernel
theorem d_36_12_11 : decode prog_36_method_12_code 11 = .ok (.if_icmp .le 11, 3) := by decide +kernel
theorem d_36_12_14 : decode prog_36_method_12_code 14 = .ok (.aload_n 3, 1) := by decide +kernel
theorem d_36_12_15 : decode prog_36_method_12_code 15 = .ok (.iload_n 0, 1) := by decide +kernel
theorem d_36_12_16 : decode prog_36_method_12_code 16 = .ok (.iload_n 1, 1) := by decide +kernel
theorem d_36_12_17 : decode prog_36_method_12_code 17 = .ok (.iload_n 2, 1) := by decide +kernel
theorem d_36_12_18 : decode prog_36_method_12_code 18 = .ok (.invokestatic 99, 3) := by decide +kernel
theorem d_36_12_21 : decode prog_36_method_12_code 21 = .ok (.athrow, 1) := by decide +kernel
theorem d_36_12_22 : decode prog_36_method_12_code 22 = .ok (.iload_n 0, 1) := by decide +kernel
theorem d_36_12_23 : decode prog_36_method_12_code 23 = .ok (.ireturn, 1) := by decide +kernel
theorem d_32_17_0 : decode prog_32_method_17_code 0 = .ok (.iload_n 0, 1) := by decide +kernel
theorem d_32_17_1 : decode prog_32_method_17_code 1 = .ok (.iload_n 1, 1) := by decide +kernel
theorem d_32_17_2 : decode prog_32_method_17_code 2 = .ok (.aconst_null, 1) := by decide +kernel
theorem d_32_17_3 : decode prog_32_method_17_code 3 = .ok (.invokestatic 105, 3) := by decide +kernel
theorem d_32_17_6 : decode prog_32_method_17_code 6 = .ok (.ireturn, 1) := by decide +kernel
theorem d_19_155_0 : decode prog_19_method_155_code 0 = .ok (.iload_n 0, 1) := by decide +kernel
theorem d_19_155_1 : decode prog_19_method_155_code 1 = .ok (.iload_n 1, 1) := by decide +kernel
theorem d_19_155_2 : decode prog_19_method_155_code 2 = .ok (.getstatic 1053, 3) := by decide +kernel
theorem d_19_155_5 : decode prog_19_method_155_code 5 = .ok (.invokestatic 1059, 3) := by decide +kernel
theorem d_19_155_8 : decode prog_19_method_155_code 8 = .ok (.pop, 1) := by decide +kernel
theorem d_19_155_9 : decode prog_19_method_155_code 9 = .ok (.return_, 1) := by decide +kernel
theorem d_19_158_0 : decode prog_19_method_158_code 0 = .ok (.iload_n 0, 1) := by decide +kernel
theorem d_19_158_1 : decode prog_19_method_158_code 1 = .ok (.iload_n 1, 1) := by decide +kernel
theorem d_19_158_2 : decode prog_19_method_158_code 2 = .ok (.iload_n 2, 1) := by decide +kernel
theorem d_19_158_3 : decode prog_19_method_158_code 3 = .ok (.getstatic 1053, 3) := by decide +kernel
theorem d_19_158_6 : decode prog_19_method_158_code 6 = .ok (.invokestatic 1062, 3) := by decide +kernel
theorem d_19_158_9 : decode prog_19_method_158_code 9 = .ok (.pop, 1) := by decide +kernel
theorem d_19_158_10 : decode prog_19_method_158_code 10 = .ok (.return_, 1) := by decide +kernel
theorem d_17_69_0 : decode prog_17_method_69_code 0 = .ok (.iload_n 0, 1) := by decide +kernel
theorem d_17_69_1 : decode prog_17_method_69_code 1 = .ok (.iload_n 1, 1) := by decide +kernel
theorem d_17_69_2 : decode prog_17_method_69_code 2 = .ok (.if_icmp .gt 7, 3) := by decide +kernel
theorem d_17_69_5 : decode prog_17_method_69_code 5 = .ok (.iload_n 0, 1) := by decide +kernel
theorem d_17_69_6 : decode prog_17_method_69_code 6 = .ok (.goto 4, 3) := by decide +kernel
theorem d_17_69_9 : decode prog_17_method_69_code 9 = .ok (.iload_n 1, 1) := by decide +kernel
theorem d_17_69_10 : decode prog_17_method_69_code 10 = .ok (.ireturn, 1) := by decide +kernel
theorem d_17_65_0 : decode prog_17_method_65_code 0 = .ok (.iload_n 0, 1) := by decide +kernel
theorem d_17_65_1 : decode prog_17_method_65_code 1 = .ok (.iload_n 1, 1) := by decide +kernel
theorem d_17_65_2 : decode prog_17_method_65_code 2 = .ok (.if_icmp .lt 7, 3) := by decide +kernel
theorem d_17_65_5 : decode prog_17_method_65_code 5 = .ok (.iload_n 0, 1) := by decide +kernel
theorem d_17_65_6 : decode prog_17_method_65_code 6 = .ok (.goto 4, 3) := by decide +kernel
theorem d_17_65_9 : decode prog_17_method_65_code 9 = .ok (.iload_n 1, 1) := by decide +kernel
theorem d_17_65_10 : decode prog_17_method_65_code 10 = .ok (.ireturn, 1) := by decide +kernel
theorem d_35_27_0 : decode prog_35_method_27_code 0 = .ok (.iload_n 0, 1) := by decide +kernel
theorem d_35_27_1 : decode prog_35_method_27_code 1 = .ok (.iload_n 1, 1) := by decide +kernel
theorem d_35_27_2 : decode prog_35_method_27_code 2 = .ok (.iload_n 2, 1) := by decide +kernel
theorem d_35_27_3 : decode prog_35_method_27_code 3 = .ok (.invokestatic 194, 3) := by decide +kernel
theorem d_35_27_6 : decode prog_35_method_27_code 6 = .ok (.iadd, 1) := by decide +kernel
theorem d_35_27_7 : decode prog_35_method_27_code 7 = .ok (.istore_n 3, 1) := by decide +kernel
theorem d_35_27_8 : decode prog_35_method_27_code 8 = .ok (.iconst 0, 1) := by decide +kernel
theorem d_35_27_9 : decode prog_35_method_27_code 9 = .ok (.iload_n 3, 1) := by decide +kernel
theorem d_35_27_10 : decode prog_35_method_27_code 10 = .ok (.if_icmp .ge 11, 3) := by decide +kernel
theorem d_35_27_13 : decode prog_35_method_27_code 13 = .ok (.iload_n 3, 1) := by decide +kernel
theorem d_35_27_14 : decode prog_35_method_27_code 14 = .ok (.ldc 200, 2) := by decide +kernel
theorem d_35_27_16 : decode prog_35_method_27_code 16 = .ok (.if_icmp .gt 5, 3) := by decide +kernel
theorem d_35_27_19 : decode prog_35_method_27_code 19 = .ok (.iload_n 3, 1) := by decide +kernel
theorem d_35_27_20 : decode prog_35_method_27_code 20 = .ok (.ireturn, 1) := by decide +kernel
theorem d_35_27_21 : decode prog_35_method_27_code 21 = .ok (.iload_n 0, 1) := by decide +kernel
theorem d_35_27_22 : decode prog_35_method_27_code 22 = .ok (.iload_n 1, 1) := by decide +kernel
theorem d_35_27_23 : decode prog_35_method_27_code 23 = .ok (.invokestatic 201, 3) := by decide +kernel
theorem d_35_27_26 : decode prog_35_method_27_code 26 = .ok (.ireturn, 1) := by decide +kernel
theorem d_28_131_0 : decode prog_28_method_131_code 0 = .ok (.iload_n 1, 1) := by decide +kernel
theorem d_28_131_1 : decode prog_28_method_131_code 1 = .ok (.iload_n 0, 1) := by decide +kernel
theorem d_28_131_2 : decode prog_28_method_131_code 2 = .ok (.if_icmp .ge 35, 3) := by decide +kernel
theorem d_28_131_5 : decode prog_28_method_131_code 5 = .ok (.new 43, 3) := by decide +kernel
theorem d_28_131_8 : decode prog_28_method_131_code 8 = .ok (.dup, 1) := by decide +kernel
theorem d_28_131_9 : decode prog_28_method_131_code 9 = .ok (.new 45, 3) := by decide +kernel
theorem d_28_131_12 : decode prog_28_method_131_code 12 = .ok (.dup, 1) := by decide +kernel
theorem d_28_131_13 : decode prog_28_method_131_code 13 = .ok (.invokespecial 47, 3) := by decide +kernel
theorem d_28_131_16 : decode prog_28_method_131_code 16 = .ok (.iload_n 0, 1) := by decide +kernel
theorem d_28_131_17 : decode prog_28_method_131_code 17 = .ok (.invokevirtual 54, 3) := by decide +kernel
theorem d_28_131_20 : decode prog_28_method_131_code 20 = .ok (.ldc_w 337, 3) := by decide +kernel
theorem d_28_131_23 : decode prog_28_method_131_code 23 = .ok (.invokevirtual 50, 3) := by decide +kernel
theorem d_28_131_26 : decode prog_28_method_131_code 26 = .ok (.iload_n 1, 1) := by decide +kernel
theorem d_28_131_27 : decode prog_28_method_131_code 27 = .ok (.invokevirtual 54, 3) := by decide +kernel
theorem d_28_131_30 : decode prog_28_method_131_code 30 = .ok (.invokevirtual 61, 3) := by decide +kernel
theorem d_28_131_33 : decode prog_28_method_131_code 33 = .ok (.invokespecial 65, 3) := by decide +kernel
theorem d_28_131_36 : decode prog_28_method_131_code 36 = .ok (.athrow, 1) := by decide +kernel
theorem d_28_131_37 : decode prog_28_method_131_code 37 = .ok (.return_, 1) := by decide +kernel
theorem d_28_132_0 : decode prog_28_method_132_code 0 = .ok (.iload_n 1, 1) := by decide +kernel
theorem d_28_132_1 : decode prog_28_method_132_code 1 = .ok (.ifCond .ne 9, 3) := by decide +kernel
theorem d_28_132_4 : decode prog_28_method_132_code 4 = .ok (.iload_n 2, 1) := by decide +kernel
theorem d_28_132_5 : decode prog_28_method_132_code 5 = .ok (.aload_n 0, 1) := by decide +kernel
theorem d_28_132_6 : decode prog_28_method_132_code 6 = .ok (.arraylength, 1) := by decide +kernel
theorem d_28_132_7 : decode prog_28_method_132_code 7 = .ok (.if_icmp .eq 10, 3) := by decide +kernel
theorem d_28_132_10 : decode prog_28_method_132_code 10 = .ok (.aload_n 0, 1) := by decide +kernel
theorem d_28_132_11 : decode prog_28_method_132_code 11 = .ok (.iload_n 1, 1) := by decide +kernel
theorem d_28_132_12 : decode prog_28_method_132_code 12 = .ok (.iload_n 2, 1) := by decide +kernel
theorem d_28_132_13 : decode prog_28_method_132_code 13 = .ok (.invokestatic 339, 3) := by decide +kernel
theorem d_28_132_16 : decode prog_28_method_132_code 16 = .ok (.areturn, 1) := by decide +kernel
theorem d_28_132_17 : decode prog_28_method_132_code 17 = .ok (.aload_n 0, 1) := by decide +kernel
theorem d_28_132_18 : decode prog_28_method_132_code 18 = .ok (.invokevirtual 310, 3) := by decide +kernel
theorem d_28_132_21 : decode prog_28_method_132_code 21 = .ok (.checkcast 311, 3) := by decide +kernel
theorem d_28_132_24 : decode prog_28_method_132_code 24 = .ok (.areturn, 1) := by decide +kernel
theorem d_28_133_0 : decode prog_28_method_133_code 0 = .ok (.iload_n 1, 1) := by decide +kernel
theorem d_28_133_1 : decode prog_28_method_133_code 1 = .ok (.iload_n 2, 1) := by decide +kernel
theorem d_28_133_2 : decode prog_28_method_133_code 2 = .ok (.invokestatic 343, 3) := by decide +kernel
theorem d_28_133_5 : decode prog_28_method_133_code 5 = .ok (.iload_n 2, 1) := by decide +kernel
theorem d_28_133_6 : decode prog_28_method_133_code 6 = .ok (.iload_n 1, 1) := by decide +kernel
theorem d_28_133_7 : decode prog_28_method_133_code 7 = .ok (.isub, 1) := by decide +kernel
theorem d_28_133_8 : decode prog_28_method_133_code 8 = .ok (.istore_n 3, 1) := by decide +kernel
theorem d_28_133_9 : decode prog_28_method_133_code 9 = .ok (.iload_n 3, 1) := by decide +kernel
theorem d_28_133_10 : decode prog_28_method_133_code 10 = .ok (.newarray .byte, 2) := by decide +kernel
theorem d_28_133_12 : decode prog_28_method_133_code 12 = .ok (.astore 4, 2) := by decide +kernel
theorem d_28_133_14 : decode prog_28_method_133_code 14 = .ok (.aload_n 0, 1) := by decide +kernel
theorem d_28_133_15 : decode prog_28_method_133_code 15 = .ok (.iload_n 1, 1) := by decide +kernel
theorem d_28_133_16 : decode prog_28_method_133_code 16 = .ok (.aload 4, 2) := by decide +kernel
theorem d_28_133_18 : decode prog_28_method_133_code 18 = .ok (.iconst 0, 1) := by decide +kernel
theorem d_28_133_19 : decode prog_28_method_133_code 19 = .ok (.aload_n 0, 1) := by decide +kernel
theorem d_28_133_20 : decode prog_28_method_133_code 20 = .ok (.arraylength, 1) := by decide +kernel
theorem d_28_133_21 : decode prog_28_method_133_code 21 = .ok (.iload_n 1, 1) := by decide +kernel
theorem d_28_133_22 : decode prog_28_method_133_code 22 = .ok (.isub, 1) := by decide +kernel
theorem d_28_133_23 : decode prog_28_method_133_code 23 = .ok (.iload_n 3, 1) := by decide +kernel
theorem d_28_133_24 : decode prog_28_method_133_code 24 = .ok (.invokestatic 304, 3) := by decide +kernel
theorem d_28_133_27 : decode prog_28_method_133_code 27 = .ok (.invokestatic 150, 3) := by decide +kernel
theorem d_28_133_30 : decode prog_28_method_133_code 30 = .ok (.aload 4, 2) := by decide +kernel
theorem d_28_133_32 : decode prog_28_method_133_code 32 = .ok (.areturn, 1) := by decide +kernel
theorem d_28_121_0 : decode prog_28_method_121_code 0 = .ok (.iload_n 1, 1) := by decide +kernel
theorem d_28_121_1 : decode prog_28_method_121_code 1 = .ok (.aload_n 0, 1) := by decide +kernel
theorem d_28_121_2 : decode prog_28_method_121_code 2 = .ok (.arraylength, 1) := by decide +kernel
theorem d_28_121_3 : decode prog_28_method_121_code 3 = .ok (.if_icmp .ne 11, 3) := by decide +kernel
theorem d_28_121_6 : decode prog_28_method_121_code 6 = .ok (.aload_n 0, 1) := by decide +kernel
theorem d_28_121_7 : decode prog_28_method_121_code 7 = .ok (.invokevirtual 310, 3) := by decide +kernel
theorem d_28_121_10 : decode prog_28_method_121_code 10 = .ok (.checkcast 311, 3) := by decide +kernel
theorem d_28_121_13 : decode prog_28_method_121_code 13 = .ok (.areturn, 1) := by decide +kernel
theorem d_28_121_14 : decode prog_28_method_121_code 14 = .ok (.iload_n 1, 1) := by decide +kernel
theorem d_28_121_15 : decode prog_28_method_121_code 15 = .ok (.newarray .byte, 2) := by decide +kernel
theorem d_28_121_17 : decode prog_28_method_121_code 17 = .ok (.astore_n 2, 1) := by decide +kernel
theorem d_28_121_18 : decode prog_28_method_121_code 18 = .ok (.aload_n 0, 1) := by decide +kernel
theorem d_28_121_19 : decode prog_28_method_121_code 19 = .ok (.iconst 0, 1) := by decide +kernel
theorem d_28_121_20 : decode prog_28_method_121_code 20 = .ok (.aload_n 2, 1) := by decide +kernel
theorem d_28_121_21 : decode prog_28_method_121_code 21 = .ok (.iconst 0, 1) := by decide +kernel
theorem d_28_121_22 : decode prog_28_method_121_code 22 = .ok (.aload_n 0, 1) := by decide +kernel
theorem d_28_121_23 : decode prog_28_method_121_code 23 = .ok (.arraylength, 1) := by decide +kernel
theorem d_28_121_24 : decode prog_28_method_121_code 24 = .ok (.iload_n 1, 1) := by decide +kernel
theorem d_28_121_25 : decode prog_28_method_121_code 25 = .ok (.invokestatic 304, 3) := by decide +kernel
theorem d_28_121_28 : decode prog_28_method_121_code 28 = .ok (.invokestatic 150, 3) := by decide +kernel
theorem d_28_121_31 : decode prog_28_method_121_code 31 = .ok (.aload_n 2, 1) := by decide +kernel
theorem d_28_121_32 : decode prog_28_method_121_code 32 = .ok (.areturn, 1) := by decide +kernel
theorem d_28_119_0 : decode prog_28_method_119_code 0 = .ok (.aload_n 0, 1) := by decide +kernel
theorem d_28_119_1 : decode prog_28_method_119_code 1 = .ok (.iload_n 1, 1) := by decide +kernel
theorem d_28_119_2 : decode prog_28_method_119_code 2 = .ok (.aload_n 0, 1) := by decide +kernel
theorem d_28_119_3 : decode prog_28_method_119_code 3 = .ok (.invokevirtual 86, 3) := by decide +kernel
theorem d_28_119_6 : decode prog_28_method_119_code 6 = .ok (.invokestatic 300, 3) := by decide +kernel
theorem d_28_119_9 : decode prog_28_method_119_code 9 = .ok (.areturn, 1) := by decide +kernel
theorem d_28_120_0 : decode prog_28_method_120_code 0 = .ok (.aload_n 2, 1) := by decide +kernel
theorem d_28_120_1 : decode prog_28_method_120_code 1 = .ok (.ldc 110, 2) := by decide +kernel
theorem d_28_120_3 : decode prog_28_method_120_code 3 = .ok (.if_acmp .ne 10, 3) := by decide +kernel
theorem d_28_120_6 : decode prog_28_method_120_code 6 = .ok (.iload_n 1, 1) := by decide +kernel
theorem d_28_120_7 : decode prog_28_method_120_code 7 = .ok (.anewarray 2, 3) := by decide +kernel
theorem d_28_120_10 : decode prog_28_method_120_code 10 = .ok (.goto 14, 3) := by decide +kernel
theorem d_28_120_13 : decode prog_28_method_120_code 13 = .ok (.aload_n 2, 1) := by decide +kernel
theorem d_28_120_14 : decode prog_28_method_120_code 14 = .ok (.invokevirtual 90, 3) := by decide +kernel
theorem d_28_120_17 : decode prog_28_method_120_code 17 = .ok (.iload_n 1, 1) := by decide +kernel
theorem d_28_120_18 : decode prog_28_method_120_code 18 = .ok (.invokestatic 95, 3) := by decide +kernel
theorem d_28_120_21 : decode prog_28_method_120_code 21 = .ok (.checkcast 110, 3) := by decide +kernel
theorem d_28_120_24 : decode prog_28_method_120_code 24 = .ok (.astore_n 3, 1) := by decide +kernel
theorem d_28_120_25 : decode prog_28_method_120_code 25 = .ok (.aload_n 0, 1) := by decide +kernel
theorem d_28_120_26 : decode prog_28_method_120_code 26 = .ok (.iconst 0, 1) := by decide +kernel
theorem d_28_120_27 : decode prog_28_method_120_code 27 = .ok (.aload_n 3, 1) := by decide +kernel
theorem d_28_120_28 : decode prog_28_method_120_code 28 = .ok (.iconst 0, 1) := by decide +kernel
theorem d_28_120_29 : decode prog_28_method_120_code 29 = .ok (.aload_n 0, 1) := by decide +kernel
theorem d_28_120_30 : decode prog_28_method_120_code 30 = .ok (.arraylength, 1) := by decide +kernel
theorem d_28_120_31 : decode prog_28_method_120_code 31 = .ok (.iload_n 1, 1) := by decide +kernel
theorem d_28_120_32 : decode prog_28_method_120_code 32 = .ok (.invokestatic 304, 3) := by decide +kernel
theorem d_28_120_35 : decode prog_28_method_120_code 35 = .ok (.invokestatic 150, 3) := by decide +kernel
theorem d_28_120_38 : decode prog_28_method_120_code 38 = .ok (.aload_n 3, 1) := by decide +kernel
theorem d_28_120_39 : decode prog_28_method_120_code 39 = .ok (.areturn, 1) := by decide +kernel
theorem d_19_152_0 : decode prog_19_method_152_code 0 = .ok (.getstatic 38, 3) := by decide +kernel
theorem d_19_152_3 : decode prog_19_method_152_code 3 = .ok (.ifCond .eq 10, 3) := by decide +kernel
theorem d_19_152_6 : decode prog_19_method_152_code 6 = .ok (.aload_n 0, 1) := by decide +kernel
theorem d_19_152_7 : decode prog_19_method_152_code 7 = .ok (.getfield 15, 3) := by decide +kernel
theorem d_19_152_10 : decode prog_19_method_152_code 10 = .ok (.goto 4, 3) := by decide +kernel
theorem d_19_152_13 : decode prog_19_method_152_code 13 = .ok (.iconst 1, 1) := by decide +kernel
theorem d_19_152_14 : decode prog_19_method_152_code 14 = .ok (.ireturn, 1) := by decide +kernel
theorem d_19_154_0 : decode prog_19_method_154_code 0 = .ok (.getstatic 38, 3) := by decide +kernel
theorem d_19_154_3 : decode prog_19_method_154_code 3 = .ok (.ifCond .eq 14, 3) := by decide +kernel
theorem d_19_154_6 : decode prog_19_method_154_code 6 = .ok (.aload_n 0, 1) := by decide +kernel
theorem d_19_154_7 : decode prog_19_method_154_code 7 = .ok (.getfield 15, 3) := by decide +kernel
theorem d_19_154_10 : decode prog_19_method_154_code 10 = .ok (.ifCond .ne 7, 3) := by decide +kernel
theorem d_19_154_13 : decode prog_19_method_154_code 13 = .ok (.iconst 1, 1) := by decide +kernel
theorem d_19_154_14 : decode prog_19_method_154_code 14 = .ok (.goto 4, 3) := by decide +kernel
theorem d_19_154_17 : decode prog_19_method_154_code 17 = .ok (.iconst 0, 1) := by decide +kernel
theorem d_19_154_18 : decode prog_19_method_154_code 18 = .ok (.ireturn, 1) := by decide +kernel
theorem d_19_54_0 : decode prog_19_method_54_code 0 = .ok (.aload_n 0, 1) := by decide +kernel
theorem d_19_54_1 : decode prog_19_method_54_code 1 = .ok (.getfield 9, 3) := by decide +kernel
theorem d_19_54_4 : decode prog_19_method_54_code 4 = .ok (.arraylength, 1) := by decide +kernel
theorem d_19_54_5 : decode prog_19_method_54_code 5 = .ok (.aload_n 0, 1) := by decide +kernel
theorem d_19_54_6 : decode prog_19_method_54_code 6 = .ok (.invokevirtual 335, 3) := by decide +kernel
theorem d_19_54_9 : decode prog_19_method_54_code 9 = .ok (.ishr, 1) := by decide +kernel
theorem d_19_54_10 : decode prog_19_method_54_code 10 = .ok (.ireturn, 1) := by decide +kernel
theorem d_19_56_0 : decode prog_19_method_56_code 0 = .ok (.aload_n 0, 1) := by decide +kernel
theorem d_19_56_1 : decode prog_19_method_56_code 1 = .ok (.invokevirtual 492, 3) := by decide +kernel
theorem d_19_56_4 : decode prog_19_method_56_code 4 = .ok (.ifCond .eq 12, 3) := by decide +kernel
theorem d_19_56_7 : decode prog_19_method_56_code 7 = .ok (.aload_n 0, 1) := by decide +kernel
theorem d_19_56_8 : decode prog_19_method_56_code 8 = .ok (.getfield 9, 3) := by decide +kernel
theorem d_19_56_11 : decode prog_19_method_56_code 11 = .ok (.iload_n 1, 1) := by decide +kernel
theorem d_19_56_12 : decode prog_19_method_56_code 12 = .ok (.invokestatic 495, 3) := by decide +kernel
theorem d_19_56_15 : decode prog_19_method_56_code 15 = .ok (.ireturn, 1) := by decide +kernel
theorem d_19_56_16 : decode prog_19_method_56_code 16 = .ok (.aload_n 0, 1) := by decide +kernel
theorem d_19_56_17 : decode prog_19_method_56_code 17 = .ok (.getfield 9, 3) := by decide +kernel
theorem d_19_56_20 : decode prog_19_method_56_code 20 = .ok (.iload_n 1, 1) := by decide +kernel
theorem d_19_56_21 : decode prog_19_method_56_code 21 = .ok (.invokestatic 498, 3) := by decide +kernel
theorem d_19_56_24 : decode prog_19_method_56_code 24 = .ok (.ireturn, 1) := by decide +kernel
theorem d_19_66_0 : decode prog_19_method_66_code 0 = .ok (.aload_n 0, 1) := by decide +kernel
theorem d_19_66_1 : decode prog_19_method_66_code 1 = .ok (.aload_n 1, 1) := by decide +kernel
theorem d_19_66_2 : decode prog_19_method_66_code 2 = .ok (.if_acmp .ne 5, 3) := by decide +kernel
theorem d_19_66_5 : decode prog_19_method_66_code 5 = .ok (.iconst 1, 1) := by decide +kernel
theorem d_19_66_6 : decode prog_19_method_66_code 6 = .ok (.ireturn, 1) := by decide +kernel
theorem d_19_66_7 : decode prog_19_method_66_code 7 = .ok (.aload_n 1, 1) := by decide +kernel
theorem d_19_66_8 : decode prog_19_method_66_code 8 = .ok (.instanceof 10, 3) := by decide +kernel
theorem d_19_66_11 : decode prog_19_method_66_code 11 = .ok (.ifCond .eq 43, 3) := by decide +kernel
theorem d_19_66_14 : decode prog_19_method_66_code 14 = .ok (.aload_n 1, 1) := by decide +kernel
theorem d_19_66_15 : decode prog_19_method_66_code 15 = .ok (.checkcast 10, 3) := by decide +kernel
theorem d_19_66_18 : decode prog_19_method_66_code 18 = .ok (.astore_n 2, 1) := by decide +kernel
theorem d_19_66_19 : decode prog_19_method_66_code 19 = .ok (.getstatic 38, 3) := by decide +kernel
theorem d_19_66_22 : decode prog_19_method_66_code 22 = .ok (.ifCond .eq 14, 3) := by decide +kernel
theorem d_19_66_25 : decode prog_19_method_66_code 25 = .ok (.aload_n 0, 1) := by decide +kernel
theorem d_19_66_26 : decode prog_19_method_66_code 26 = .ok (.getfield 15, 3) := by decide +kernel
theorem d_19_66_29 : decode prog_19_method_66_code 29 = .ok (.aload_n 2, 1) := by decide +kernel
theorem d_19_66_30 : decode prog_19_method_66_code 30 = .ok (.getfield 15, 3) := by decide +kernel
theorem d_19_66_33 : decode prog_19_method_66_code 33 = .ok (.if_icmp .ne 21, 3) := by decide +kernel
theorem d_19_66_36 : decode prog_19_method_66_code 36 = .ok (.aload_n 0, 1) := by decide +kernel
theorem d_19_66_37 : decode prog_19_method_66_code 37 = .ok (.getfield 9, 3) := by decide +kernel
theorem d_19_66_40 : decode prog_19_method_66_code 40 = .ok (.aload_n 2, 1) := by decide +kernel
theorem d_19_66_41 : decode prog_19_method_66_code 41 = .ok (.getfield 9, 3) := by decide +kernel
theorem d_19_66_44 : decode prog_19_method_66_code 44 = .ok (.invokestatic 541, 3) := by decide +kernel
theorem d_19_66_47 : decode prog_19_method_66_code 47 = .ok (.ifCond .eq 7, 3) := by decide +kernel
theorem d_19_66_50 : decode prog_19_method_66_code 50 = .ok (.iconst 1, 1) := by decide +kernel
theorem d_19_66_51 : decode prog_19_method_66_code 51 = .ok (.goto 4, 3) := by decide +kernel
theorem d_19_66_54 : decode prog_19_method_66_code 54 = .ok (.iconst 0, 1) := by decide +kernel
theorem d_19_66_55 : decode prog_19_method_66_code 55 = .ok (.ireturn, 1) := by decide +kernel
theorem d_19_92_0 : decode prog_19_method_92_code 0 = .ok (.aload_n 0, 1) := by decide +kernel
theorem d_19_92_1 : decode prog_19_method_92_code 1 = .ok (.invokevirtual 505, 3) := by decide +kernel
theorem d_19_92_4 : decode prog_19_method_92_code 4 = .ok (.istore_n 3, 1) := by decide +kernel
theorem d_19_92_5 : decode prog_19_method_92_code 5 = .ok (.iload_n 1, 1) := by decide +kernel
theorem d_19_92_6 : decode prog_19_method_92_code 6 = .ok (.iload_n 2, 1) := by decide +kernel
theorem d_19_92_7 : decode prog_19_method_92_code 7 = .ok (.iload_n 3, 1) := by decide +kernel
theorem d_19_92_8 : decode prog_19_method_92_code 8 = .ok (.invokestatic 521, 3) := by decide +kernel
theorem d_19_92_11 : decode prog_19_method_92_code 11 = .ok (.iload_n 1, 1) := by decide +kernel
theorem d_19_92_12 : decode prog_19_method_92_code 12 = .ok (.ifCond .ne 10, 3) := by decide +kernel
theorem d_19_92_15 : decode prog_19_method_92_code 15 = .ok (.iload_n 2, 1) := by decide +kernel
theorem d_19_92_16 : decode prog_19_method_92_code 16 = .ok (.iload_n 3, 1) := by decide +kernel
theorem d_19_92_17 : decode prog_19_method_92_code 17 = .ok (.if_icmp .ne 5, 3) := by decide +kernel
theorem d_19_92_20 : decode prog_19_method_92_code 20 = .ok (.aload_n 0, 1) := by decide +kernel
theorem d_19_92_21 : decode prog_19_method_92_code 21 = .ok (.areturn, 1) := by decide +kernel
theorem d_19_92_22 : decode prog_19_method_92_code 22 = .ok (.iload_n 2, 1) := by decide +kernel
theorem d_19_92_23 : decode prog_19_method_92_code 23 = .ok (.iload_n 1, 1) := by decide +kernel
theorem d_19_92_24 : decode prog_19_method_92_code 24 = .ok (.isub, 1) := by decide +kernel
theorem d_19_92_25 : decode prog_19_method_92_code 25 = .ok (.istore 4, 2) := by decide +kernel
theorem d_19_92_27 : decode prog_19_method_92_code 27 = .ok (.aload_n 0, 1) := by decide +kernel
theorem d_19_92_28 : decode prog_19_method_92_code 28 = .ok (.invokevirtual 492, 3) := by decide +kernel
theorem d_19_92_31 : decode prog_19_method_92_code 31 = .ok (.ifCond .eq 16, 3) := by decide +kernel
theorem d_19_92_34 : decode prog_19_method_92_code 34 = .ok (.aload_n 0, 1) := by decide +kernel
theorem d_19_92_35 : decode prog_19_method_92_code 35 = .ok (.getfield 9, 3) := by decide +kernel
theorem d_19_92_38 : decode prog_19_method_92_code 38 = .ok (.iload_n 1, 1) := by decide +kernel
theorem d_19_92_39 : decode prog_19_method_92_code 39 = .ok (.iload 4, 2) := by decide +kernel
theorem d_19_92_41 : decode prog_19_method_92_code 41 = .ok (.invokestatic 685, 3) := by decide +kernel
theorem d_19_92_44 : decode prog_19_method_92_code 44 = .ok (.goto 13, 3) := by decide +kernel
theorem d_19_92_47 : decode prog_19_method_92_code 47 = .ok (.aload_n 0, 1) := by decide +kernel
theorem d_19_92_48 : decode prog_19_method_92_code 48 = .ok (.getfield 9, 3) := by decide +kernel
theorem d_19_92_51 : decode prog_19_method_92_code 51 = .ok (.iload_n 1, 1) := by decide +kernel
theorem d_19_92_52 : decode prog_19_method_92_code 52 = .ok (.iload 4, 2) := by decide +kernel
theorem d_19_92_54 : decode prog_19_method_92_code 54 = .ok (.invokestatic 689, 3) := by decide +kernel
theorem d_19_92_57 : decode prog_19_method_92_code 57 = .ok (.areturn, 1) := by decide +kernel
theorem d_19_53_0 : decode prog_19_method_53_code 0 = .ok (.aload_n 0, 1) := by decide +kernel
theorem d_19_53_1 : decode prog_19_method_53_code 1 = .ok (.aload_n 1, 1) := by decide +kernel
theorem d_19_53_2 : decode prog_19_method_53_code 2 = .ok (.aconst_null, 1) := by decide +kernel
theorem d_19_53_3 : decode prog_19_method_53_code 3 = .ok (.invokespecial 489, 3) := by decide +kernel
theorem d_19_53_6 : decode prog_19_method_53_code 6 = .ok (.return_, 1) := by decide +kernel
theorem d_19_150_0 : decode prog_19_method_150_code 0 = .ok (.aload_n 0, 1) := by decide +kernel
theorem d_19_150_1 : decode prog_19_method_150_code 1 = .ok (.invokespecial 1, 3) := by decide +kernel
theorem d_19_150_4 : decode prog_19_method_150_code 4 = .ok (.aload_n 1, 1) := by decide +kernel
theorem d_19_150_5 : decode prog_19_method_150_code 5 = .ok (.invokevirtual 552, 3) := by decide +kernel
theorem d_19_150_8 : decode prog_19_method_150_code 8 = .ok (.astore_n 3, 1) := by decide +kernel
theorem d_19_150_9 : decode prog_19_method_150_code 9 = .ok (.aload_n 1, 1) := by decide +kernel
theorem d_19_150_10 : decode prog_19_method_150_code 10 = .ok (.invokevirtual 549, 3) := by decide +kernel
theorem d_19_150_13 : decode prog_19_method_150_code 13 = .ok (.istore 4, 2) := by decide +kernel
theorem d_19_150_15 : decode prog_19_method_150_code 15 = .ok (.aload_n 1, 1) := by decide +kernel
theorem d_19_150_16 : decode prog_19_method_150_code 16 = .ok (.invokevirtual 1047, 3) := by decide +kernel
theorem d_19_150_19 : decode prog_19_method_150_code 19 = .ok (.ifCond .eq 22, 3) := by decide +kernel
theorem d_19_150_22 : decode prog_19_method_150_code 22 = .ok (.aload_n 0, 1) := by decide +kernel
theorem d_19_150_23 : decode prog_19_method_150_code 23 = .ok (.iconst 0, 1) := by decide +kernel
theorem d_19_150_24 : decode prog_19_method_150_code 24 = .ok (.putfield 15, 3) := by decide +kernel
theorem d_19_150_27 : decode prog_19_method_150_code 27 = .ok (.aload_n 0, 1) := by decide +kernel
theorem d_19_150_28 : decode prog_19_method_150_code 28 = .ok (.aload_n 3, 1) := by decide +kernel
theorem d_19_150_29 : decode prog_19_method_150_code 29 = .ok (.iconst 0, 1) := by decide +kernel
theorem d_19_150_30 : decode prog_19_method_150_code 30 = .ok (.iload 4, 2) := by decide +kernel
theorem d_19_150_32 : decode prog_19_method_150_code 32 = .ok (.invokestatic 54, 3) := by decide +kernel
theorem d_19_150_35 : decode prog_19_method_150_code 35 = .ok (.putfield 9, 3) := by decide +kernel
theorem d_19_150_38 : decode prog_19_method_150_code 38 = .ok (.goto 59, 3) := by decide +kernel
theorem d_19_150_41 : decode prog_19_method_150_code 41 = .ok (.getstatic 38, 3) := by decide +kernel
theorem d_19_150_44 : decode prog_19_method_150_code 44 = .ok (.ifCond .eq 35, 3) := by decide +kernel
theorem d_19_150_47 : decode prog_19_method_150_code 47 = .ok (.aload_n 1, 1) := by decide +kernel
theorem d_19_150_48 : decode prog_19_method_150_code 48 = .ok (.getfield 1048, 3) := by decide +kernel
theorem d_19_150_51 : decode prog_19_method_150_code 51 = .ok (.ifCond .eq 28, 3) := by decide +kernel
theorem d_19_150_54 : decode prog_19_method_150_code 54 = .ok (.aload_n 0, 1) := by decide +kernel
theorem d_19_150_55 : decode prog_19_method_150_code 55 = .ok (.aload_n 3, 1) := by decide +kernel
theorem d_19_150_56 : decode prog_19_method_150_code 56 = .ok (.iconst 0, 1) := by decide +kernel
theorem d_19_150_57 : decode prog_19_method_150_code 57 = .ok (.iload 4, 2) := by decide +kernel
theorem d_19_150_59 : decode prog_19_method_150_code 59 = .ok (.invokestatic 1051, 3) := by decide +kernel
theorem d_19_150_62 : decode prog_19_method_150_code 62 = .ok (.putfield 9, 3) := by decide +kernel
theorem d_19_150_65 : decode prog_19_method_150_code 65 = .ok (.aload_n 0, 1) := by decide +kernel
theorem d_19_150_66 : decode prog_19_method_150_code 66 = .ok (.aload_n 0, 1) := by decide +kernel
theorem d_19_150_67 : decode prog_19_method_150_code 67 = .ok (.getfield 9, 3) := by decide +kernel
theorem d_19_150_70 : decode prog_19_method_150_code 70 = .ok (.iload 4, 2) := by decide +kernel
theorem d_19_150_72 : decode prog_19_method_150_code 72 = .ok (.invokestatic 47, 3) := by decide +kernel
theorem d_19_150_75 : decode prog_19_method_150_code 75 = .ok (.putfield 15, 3) := by decide +kernel
theorem d_19_150_78 : decode prog_19_method_150_code 78 = .ok (.return_, 1) := by decide +kernel
theorem d_19_150_79 : decode prog_19_method_150_code 79 = .ok (.aload_n 0, 1) := by decide +kernel
theorem d_19_150_80 : decode prog_19_method_150_code 80 = .ok (.iconst 1, 1) := by decide +kernel
theorem d_19_150_81 : decode prog_19_method_150_code 81 = .ok (.putfield 15, 3) := by decide +kernel
theorem d_19_150_84 : decode prog_19_method_150_code 84 = .ok (.aload_n 0, 1) := by decide +kernel
theorem d_19_150_85 : decode prog_19_method_150_code 85 = .ok (.aload_n 3, 1) := by decide +kernel
theorem d_19_150_86 : decode prog_19_method_150_code 86 = .ok (.iconst 0, 1) := by decide +kernel
theorem d_19_150_87 : decode prog_19_method_150_code 87 = .ok (.iload 4, 2) := by decide +kernel
theorem d_19_150_89 : decode prog_19_method_150_code 89 = .ok (.iconst 1, 1) := by decide +kernel
theorem d_19_150_90 : decode prog_19_method_150_code 90 = .ok (.ishl, 1) := by decide +kernel
theorem d_19_150_91 : decode prog_19_method_150_code 91 = .ok (.invokestatic 54, 3) := by decide +kernel
theorem d_19_150_94 : decode prog_19_method_150_code 94 = .ok (.putfield 9, 3) := by decide +kernel
theorem d_19_150_97 : decode prog_19_method_150_code 97 = .ok (.return_, 1) := by decide +kernel
theorem d_19_151_0 : decode prog_19_method_151_code 0 = .ok (.aload_n 0, 1) := by decide +kernel
theorem d_19_151_1 : decode prog_19_method_151_code 1 = .ok (.invokespecial 1, 3) := by decide +kernel
theorem d_19_151_4 : decode prog_19_method_151_code 4 = .ok (.aload_n 0, 1) := by decide +kernel
theorem d_19_151_5 : decode prog_19_method_151_code 5 = .ok (.aload_n 1, 1) := by decide +kernel
theorem d_19_151_6 : decode prog_19_method_151_code 6 = .ok (.putfield 9, 3) := by decide +kernel
theorem d_19_151_9 : decode prog_19_method_151_code 9 = .ok (.aload_n 0, 1) := by decide +kernel
theorem d_19_151_10 : decode prog_19_method_151_code 10 = .ok (.iload_n 2, 1) := by decide +kernel
theorem d_19_151_11 : decode prog_19_method_151_code 11 = .ok (.putfield 15, 3) := by decide +kernel
theorem d_19_151_14 : decode prog_19_method_151_code 14 = .ok (.return_, 1) := by decide +kernel
theorem d_21_2_0 : decode prog_21_method_2_code 0 = .ok (.iload_n 1, 1) := by decide +kernel
theorem d_21_2_1 : decode prog_21_method_2_code 1 = .ok (.aload_n 0, 1) := by decide +kernel
theorem d_21_2_2 : decode prog_21_method_2_code 2 = .ok (.arraylength, 1) := by decide +kernel
theorem d_21_2_3 : decode prog_21_method_2_code 3 = .ok (.invokestatic 9, 3) := by decide +kernel
theorem d_21_2_6 : decode prog_21_method_2_code 6 = .ok (.aload_n 0, 1) := by decide +kernel
theorem d_21_2_7 : decode prog_21_method_2_code 7 = .ok (.iload_n 1, 1) := by decide +kernel
theorem d_21_2_8 : decode prog_21_method_2_code 8 = .ok (.baload, 1) := by decide +kernel
theorem d_21_2_9 : decode prog_21_method_2_code 9 = .ok (.sipush 255, 3) := by decide +kernel
theorem d_21_2_12 : decode prog_21_method_2_code 12 = .ok (.iand, 1) := by decide +kernel
theorem d_21_2_13 : decode prog_21_method_2_code 13 = .ok (.i2c, 1) := by decide +kernel
theorem d_21_2_14 : decode prog_21_method_2_code 14 = .ok (.ireturn, 1) := by decide +kernel
theorem d_21_13_0 : decode prog_21_method_13_code 0 = .ok (.aload_n 0, 1) := by decide +kernel
theorem d_21_13_1 : decode prog_21_method_13_code 1 = .ok (.arraylength, 1) := by decide +kernel
theorem d_21_13_2 : decode prog_21_method_13_code 2 = .ok (.aload_n 1, 1) := by decide +kernel
theorem d_21_13_3 : decode prog_21_method_13_code 3 = .ok (.arraylength, 1) := by decide +kernel
theorem d_21_13_4 : decode prog_21_method_13_code 4 = .ok (.if_icmp .ne 30, 3) := by decide +kernel
theorem d_21_13_7 : decode prog_21_method_13_code 7 = .ok (.iconst 0, 1) := by decide +kernel
theorem d_21_13_8 : decode prog_21_method_13_code 8 = .ok (.istore_n 2, 1) := by decide +kernel
theorem d_21_13_9 : decode prog_21_method_13_code 9 = .ok (.iload_n 2, 1) := by decide +kernel
theorem d_21_13_10 : decode prog_21_method_13_code 10 = .ok (.aload_n 0, 1) := by decide +kernel
theorem d_21_13_11 : decode prog_21_method_13_code 11 = .ok (.arraylength, 1) := by decide +kernel
theorem d_21_13_12 : decode prog_21_method_13_code 12 = .ok (.if_icmp .ge 20, 3) := by decide +kernel
theorem d_21_13_15 : decode prog_21_method_13_code 15 = .ok (.aload_n 0, 1) := by decide +kernel
theorem d_21_13_16 : decode prog_21_method_13_code 16 = .ok (.iload_n 2, 1) := by decide +kernel
theorem d_21_13_17 : decode prog_21_method_13_code 17 = .ok (.baload, 1) := by decide +kernel
theorem d_21_13_18 : decode prog_21_method_13_code 18 = .ok (.aload_n 1, 1) := by decide +kernel
theorem d_21_13_19 : decode prog_21_method_13_code 19 = .ok (.iload_n 2, 1) := by decide +kernel
theorem d_21_13_20 : decode prog_21_method_13_code 20 = .ok (.baload, 1) := by decide +kernel
theorem d_21_13_21 : decode prog_21_method_13_code 21 = .ok (.if_icmp .eq 5, 3) := by decide +kernel
theorem d_21_13_24 : decode prog_21_method_13_code 24 = .ok (.iconst 0, 1) := by decide +kernel
theorem d_21_13_25 : decode prog_21_method_13_code 25 = .ok (.ireturn, 1) := by decide +kernel
theorem d_21_13_26 : decode prog_21_method_13_code 26 = .ok (.iinc 2 1, 3) := by decide +kernel
theorem d_21_13_29 : decode prog_21_method_13_code 29 = .ok (.goto (-20), 3) := by decide +kernel
theorem d_21_13_32 : decode prog_21_method_13_code 32 = .ok (.iconst 1, 1) := by decide +kernel
theorem d_21_13_33 : decode prog_21_method_13_code 33 = .ok (.ireturn, 1) := by decide +kernel
theorem d_21_13_34 : decode prog_21_method_13_code 34 = .ok (.iconst 0, 1) := by decide +kernel
theorem d_21_13_35 : decode prog_21_method_13_code 35 = .ok (.ireturn, 1) := by decide +kernel
theorem d_21_47_0 : decode prog_21_method_47_code 0 = .ok (.iload_n 2, 1) := by decide +kernel
theorem d_21_47_1 : decode prog_21_method_47_code 1 = .ok (.ifCond .ne 6, 3) := by decide +kernel
theorem d_21_47_4 : decode prog_21_method_47_code 4 = .ok (.ldc 151, 2) := by decide +kernel
theorem d_21_47_6 : decode prog_21_method_47_code 6 = .ok (.areturn, 1) := by decide +kernel
theorem d_21_47_7 : decode prog_21_method_47_code 7 = .ok (.new 1, 3) := by decide +kernel
theorem d_21_47_10 : decode prog_21_method_47_code 10 = .ok (.dup, 1) := by decide +kernel
theorem d_21_47_11 : decode prog_21_method_47_code 11 = .ok (.aload_n 0, 1) := by decide +kernel
theorem d_21_47_12 : decode prog_21_method_47_code 12 = .ok (.iload_n 1, 1) := by decide +kernel
theorem d_21_47_13 : decode prog_21_method_47_code 13 = .ok (.iload_n 1, 1) := by decide +kernel
theorem d_21_47_14 : decode prog_21_method_47_code 14 = .ok (.iload_n 2, 1) := by decide +kernel
theorem d_21_47_15 : decode prog_21_method_47_code 15 = .ok (.iadd, 1) := by decide +kernel
theorem d_21_47_16 : decode prog_21_method_47_code 16 = .ok (.invokestatic 232, 3) := by decide +kernel
theorem d_21_47_19 : decode prog_21_method_47_code 19 = .ok (.iconst 0, 1) := by decide +kernel
theorem d_21_47_20 : decode prog_21_method_47_code 20 = .ok (.invokespecial 112, 3) := by decide +kernel
theorem d_21_47_23 : decode prog_21_method_47_code 23 = .ok (.areturn, 1) := by decide +kernel
theorem d_21_3_0 : decode prog_21_method_3_code 0 = .ok (.iload_n 0, 1) := by decide +kernel
theorem d_21_3_1 : decode prog_21_method_3_code 1 = .ok (.sipush 255, 3) := by decide +kernel
theorem d_21_3_4 : decode prog_21_method_3_code 4 = .ok (.if_icmp .gt 7, 3) := by decide +kernel
theorem d_21_3_7 : decode prog_21_method_3_code 7 = .ok (.iconst 1, 1) := by decide +kernel
theorem d_21_3_8 : decode prog_21_method_3_code 8 = .ok (.goto 4, 3) := by decide +kernel
theorem d_21_3_11 : decode prog_21_method_3_code 11 = .ok (.iconst 0, 1) := by decide +kernel
theorem d_21_3_12 : decode prog_21_method_3_code 12 = .ok (.ireturn, 1) := by decide +kernel
theorem d_10_2_0 : decode prog_10_method_2_code 0 = .ok (.aload_n 0, 1) := by decide +kernel
theorem d_10_2_1 : decode prog_10_method_2_code 1 = .ok (.invokespecial 3, 3) := by decide +kernel
theorem d_10_2_4 : decode prog_10_method_2_code 4 = .ok (.getstatic 18, 3) := by decide +kernel
theorem d_10_2_7 : decode prog_10_method_2_code 7 = .ok (.ifCond .eq 18, 3) := by decide +kernel
theorem d_10_2_10 : decode prog_10_method_2_code 10 = .ok (.aload_n 0, 1) := by decide +kernel
theorem d_10_2_11 : decode prog_10_method_2_code 11 = .ok (.iload_n 1, 1) := by decide +kernel
theorem d_10_2_12 : decode prog_10_method_2_code 12 = .ok (.newarray .byte, 2) := by decide +kernel
theorem d_10_2_14 : decode prog_10_method_2_code 14 = .ok (.putfield 15, 3) := by decide +kernel
theorem d_10_2_17 : decode prog_10_method_2_code 17 = .ok (.aload_n 0, 1) := by decide +kernel
theorem d_10_2_18 : decode prog_10_method_2_code 18 = .ok (.iconst 0, 1) := by decide +kernel
theorem d_10_2_19 : decode prog_10_method_2_code 19 = .ok (.putfield 22, 3) := by decide +kernel
theorem d_10_2_22 : decode prog_10_method_2_code 22 = .ok (.goto 16, 3) := by decide +kernel
theorem d_10_2_25 : decode prog_10_method_2_code 25 = .ok (.aload_n 0, 1) := by decide +kernel
theorem d_10_2_26 : decode prog_10_method_2_code 26 = .ok (.iload_n 1, 1) := by decide +kernel
theorem d_10_2_27 : decode prog_10_method_2_code 27 = .ok (.invokestatic 26, 3) := by decide +kernel
theorem d_10_2_30 : decode prog_10_method_2_code 30 = .ok (.putfield 15, 3) := by decide +kernel
theorem d_10_2_33 : decode prog_10_method_2_code 33 = .ok (.aload_n 0, 1) := by decide +kernel
theorem d_10_2_34 : decode prog_10_method_2_code 34 = .ok (.iconst 1, 1) := by decide +kernel
theorem d_10_2_35 : decode prog_10_method_2_code 35 = .ok (.putfield 22, 3) := by decide +kernel
theorem d_10_2_38 : decode prog_10_method_2_code 38 = .ok (.return_, 1) := by decide +kernel
theorem d_10_31_0 : decode prog_10_method_31_code 0 = .ok (.aload_n 0, 1) := by decide +kernel
theorem d_10_31_1 : decode prog_10_method_31_code 1 = .ok (.aload_n 0, 1) := by decide +kernel
theorem d_10_31_2 : decode prog_10_method_31_code 2 = .ok (.getfield 79, 3) := by decide +kernel
theorem d_10_31_5 : decode prog_10_method_31_code 5 = .ok (.iconst 1, 1) := by decide +kernel
theorem d_10_31_6 : decode prog_10_method_31_code 6 = .ok (.iadd, 1) := by decide +kernel
theorem d_10_31_7 : decode prog_10_method_31_code 7 = .ok (.invokevirtual 100, 3) := by decide +kernel
theorem d_10_31_10 : decode prog_10_method_31_code 10 = .ok (.aload_n 0, 1) := by decide +kernel
theorem d_10_31_11 : decode prog_10_method_31_code 11 = .ok (.invokevirtual 83, 3) := by decide +kernel
theorem d_10_31_14 : decode prog_10_method_31_code 14 = .ok (.ifCond .eq 31, 3) := by decide +kernel
theorem d_10_31_17 : decode prog_10_method_31_code 17 = .ok (.iload_n 1, 1) := by decide +kernel
theorem d_10_31_18 : decode prog_10_method_31_code 18 = .ok (.invokestatic 191, 3) := by decide +kernel
theorem d_10_31_21 : decode prog_10_method_31_code 21 = .ok (.ifCond .eq 24, 3) := by decide +kernel
theorem d_10_31_24 : decode prog_10_method_31_code 24 = .ok (.aload_n 0, 1) := by decide +kernel
theorem d_10_31_25 : decode prog_10_method_31_code 25 = .ok (.getfield 15, 3) := by decide +kernel
theorem d_10_31_28 : decode prog_10_method_31_code 28 = .ok (.aload_n 0, 1) := by decide +kernel
theorem d_10_31_29 : decode prog_10_method_31_code 29 = .ok (.dup, 1) := by decide +kernel
theorem d_10_31_30 : decode prog_10_method_31_code 30 = .ok (.getfield 79, 3) := by decide +kernel
theorem d_10_31_33 : decode prog_10_method_31_code 33 = .ok (.dup_x1, 1) := by decide +kernel
theorem d_10_31_34 : decode prog_10_method_31_code 34 = .ok (.iconst 1, 1) := by decide +kernel
theorem d_10_31_35 : decode prog_10_method_31_code 35 = .ok (.iadd, 1) := by decide +kernel
theorem d_10_31_36 : decode prog_10_method_31_code 36 = .ok (.putfield 79, 3) := by decide +kernel
theorem d_10_31_39 : decode prog_10_method_31_code 39 = .ok (.iload_n 1, 1) := by decide +kernel
theorem d_10_31_40 : decode prog_10_method_31_code 40 = .ok (.i2b, 1) := by decide +kernel
theorem d_10_31_41 : decode prog_10_method_31_code 41 = .ok (.bastore, 1) := by decide +kernel
theorem d_10_31_42 : decode prog_10_method_31_code 42 = .ok (.goto 33, 3) := by decide +kernel
theorem d_10_31_45 : decode prog_10_method_31_code 45 = .ok (.aload_n 0, 1) := by decide +kernel
theorem d_10_31_46 : decode prog_10_method_31_code 46 = .ok (.invokevirtual 83, 3) := by decide +kernel
theorem d_10_31_49 : decode prog_10_method_31_code 49 = .ok (.ifCond .eq 7, 3) := by decide +kernel
theorem d_10_31_52 : decode prog_10_method_31_code 52 = .ok (.aload_n 0, 1) := by decide +kernel
theorem d_10_31_53 : decode prog_10_method_31_code 53 = .ok (.invokevirtual 195, 3) := by decide +kernel
theorem d_10_31_56 : decode prog_10_method_31_code 56 = .ok (.aload_n 0, 1) := by decide +kernel
theorem d_10_31_57 : decode prog_10_method_31_code 57 = .ok (.getfield 15, 3) := by decide +kernel
theorem d_10_31_60 : decode prog_10_method_31_code 60 = .ok (.aload_n 0, 1) := by decide +kernel
theorem d_10_31_61 : decode prog_10_method_31_code 61 = .ok (.dup, 1) := by decide +kernel
theorem d_10_31_62 : decode prog_10_method_31_code 62 = .ok (.getfield 79, 3) := by decide +kernel
theorem d_10_31_65 : decode prog_10_method_31_code 65 = .ok (.dup_x1, 1) := by decide +kernel
theorem d_10_31_66 : decode prog_10_method_31_code 66 = .ok (.iconst 1, 1) := by decide +kernel
theorem d_10_31_67 : decode prog_10_method_31_code 67 = .ok (.iadd, 1) := by decide +kernel
theorem d_10_31_68 : decode prog_10_method_31_code 68 = .ok (.putfield 79, 3) := by decide +kernel
theorem d_10_31_71 : decode prog_10_method_31_code 71 = .ok (.iload_n 1, 1) := by decide +kernel
theorem d_10_31_72 : decode prog_10_method_31_code 72 = .ok (.invokestatic 197, 3) := by decide +kernel
theorem d_10_31_75 : decode prog_10_method_31_code 75 = .ok (.aload_n 0, 1) := by decide +kernel
theorem d_10_31_76 : decode prog_10_method_31_code 76 = .ok (.areturn, 1) := by decide +kernel
theorem d_10_9_0 : decode prog_10_method_9_code 0 = .ok (.aload_n 0, 1) := by decide +kernel
theorem d_10_9_1 : decode prog_10_method_9_code 1 = .ok (.getfield 15, 3) := by decide +kernel
theorem d_10_9_4 : decode prog_10_method_9_code 4 = .ok (.arraylength, 1) := by decide +kernel
theorem d_10_9_5 : decode prog_10_method_9_code 5 = .ok (.aload_n 0, 1) := by decide +kernel
theorem d_10_9_6 : decode prog_10_method_9_code 6 = .ok (.getfield 22, 3) := by decide +kernel
theorem d_10_9_9 : decode prog_10_method_9_code 9 = .ok (.ishr, 1) := by decide +kernel
theorem d_10_9_10 : decode prog_10_method_9_code 10 = .ok (.istore_n 2, 1) := by decide +kernel
theorem d_10_9_11 : decode prog_10_method_9_code 11 = .ok (.iload_n 1, 1) := by decide +kernel
theorem d_10_9_12 : decode prog_10_method_9_code 12 = .ok (.iload_n 2, 1) := by decide +kernel
theorem d_10_9_13 : decode prog_10_method_9_code 13 = .ok (.isub, 1) := by decide +kernel
theorem d_10_9_14 : decode prog_10_method_9_code 14 = .ok (.ifCond .le 24, 3) := by decide +kernel
theorem d_10_9_17 : decode prog_10_method_9_code 17 = .ok (.aload_n 0, 1) := by decide +kernel
theorem d_10_9_18 : decode prog_10_method_9_code 18 = .ok (.aload_n 0, 1) := by decide +kernel
theorem d_10_9_19 : decode prog_10_method_9_code 19 = .ok (.getfield 15, 3) := by decide +kernel
theorem d_10_9_22 : decode prog_10_method_9_code 22 = .ok (.aload_n 0, 1) := by decide +kernel
theorem d_10_9_23 : decode prog_10_method_9_code 23 = .ok (.iload_n 1, 1) := by decide +kernel
theorem d_10_9_24 : decode prog_10_method_9_code 24 = .ok (.invokevirtual 104, 3) := by decide +kernel
theorem d_10_9_27 : decode prog_10_method_9_code 27 = .ok (.aload_n 0, 1) := by decide +kernel
theorem d_10_9_28 : decode prog_10_method_9_code 28 = .ok (.getfield 22, 3) := by decide +kernel
theorem d_10_9_31 : decode prog_10_method_9_code 31 = .ok (.ishl, 1) := by decide +kernel
theorem d_10_9_32 : decode prog_10_method_9_code 32 = .ok (.invokestatic 108, 3) := by decide +kernel
theorem d_10_9_35 : decode prog_10_method_9_code 35 = .ok (.putfield 15, 3) := by decide +kernel
theorem d_10_9_38 : decode prog_10_method_9_code 38 = .ok (.return_, 1) := by decide +kernel
theorem d_10_10_0 : decode prog_10_method_10_code 0 = .ok (.aload_n 0, 1) := by decide +kernel
theorem d_10_10_1 : decode prog_10_method_10_code 1 = .ok (.getfield 15, 3) := by decide +kernel
theorem d_10_10_4 : decode prog_10_method_10_code 4 = .ok (.arraylength, 1) := by decide +kernel
theorem d_10_10_5 : decode prog_10_method_10_code 5 = .ok (.istore_n 2, 1) := by decide +kernel
theorem d_10_10_6 : decode prog_10_method_10_code 6 = .ok (.iload_n 1, 1) := by decide +kernel
theorem d_10_10_7 : decode prog_10_method_10_code 7 = .ok (.aload_n 0, 1) := by decide +kernel
theorem d_10_10_8 : decode prog_10_method_10_code 8 = .ok (.getfield 22, 3) := by decide +kernel
theorem d_10_10_11 : decode prog_10_method_10_code 11 = .ok (.ishl, 1) := by decide +kernel
theorem d_10_10_12 : decode prog_10_method_10_code 12 = .ok (.istore_n 3, 1) := by decide +kernel
theorem d_10_10_13 : decode prog_10_method_10_code 13 = .ok (.iload_n 3, 1) := by decide +kernel
theorem d_10_10_14 : decode prog_10_method_10_code 14 = .ok (.iload_n 2, 1) := by decide +kernel
theorem d_10_10_15 : decode prog_10_method_10_code 15 = .ok (.isub, 1) := by decide +kernel
theorem d_10_10_16 : decode prog_10_method_10_code 16 = .ok (.istore 4, 2) := by decide +kernel
theorem d_10_10_18 : decode prog_10_method_10_code 18 = .ok (.iload_n 2, 1) := by decide +kernel
theorem d_10_10_19 : decode prog_10_method_10_code 19 = .ok (.iload 4, 2) := by decide +kernel
theorem d_10_10_21 : decode prog_10_method_10_code 21 = .ok (.iload_n 2, 1) := by decide +kernel
theorem d_10_10_22 : decode prog_10_method_10_code 22 = .ok (.iconst 2, 1) := by decide +kernel
theorem d_10_10_23 : decode prog_10_method_10_code 23 = .ok (.aload_n 0, 1) := by decide +kernel
theorem d_10_10_24 : decode prog_10_method_10_code 24 = .ok (.getfield 22, 3) := by decide +kernel
theorem d_10_10_27 : decode prog_10_method_10_code 27 = .ok (.ishl, 1) := by decide +kernel
theorem d_10_10_28 : decode prog_10_method_10_code 28 = .ok (.iadd, 1) := by decide +kernel
theorem d_10_10_29 : decode prog_10_method_10_code 29 = .ok (.invokestatic 114, 3) := by decide +kernel
theorem d_10_10_32 : decode prog_10_method_10_code 32 = .ok (.istore 5, 2) := by decide +kernel
theorem d_10_10_34 : decode prog_10_method_10_code 34 = .ok (.iload 5, 2) := by decide +kernel
theorem d_10_10_36 : decode prog_10_method_10_code 36 = .ok (.ldc 39, 2) := by decide +kernel
theorem d_10_10_38 : decode prog_10_method_10_code 38 = .ok (.if_icmp .ne 13, 3) := by decide +kernel
theorem d_10_10_41 : decode prog_10_method_10_code 41 = .ok (.new 120, 3) := by decide +kernel
theorem d_10_10_44 : decode prog_10_method_10_code 44 = .ok (.dup, 1) := by decide +kernel
theorem d_10_10_45 : decode prog_10_method_10_code 45 = .ok (.ldc 122, 2) := by decide +kernel
theorem d_10_10_47 : decode prog_10_method_10_code 47 = .ok (.invokespecial 124, 3) := by decide +kernel
theorem d_10_10_50 : decode prog_10_method_10_code 50 = .ok (.athrow, 1) := by decide +kernel
theorem d_10_10_51 : decode prog_10_method_10_code 51 = .ok (.iload 5, 2) := by decide +kernel
theorem d_10_10_53 : decode prog_10_method_10_code 53 = .ok (.aload_n 0, 1) := by decide +kernel
theorem d_10_10_54 : decode prog_10_method_10_code 54 = .ok (.getfield 22, 3) := by decide +kernel
theorem d_10_10_57 : decode prog_10_method_10_code 57 = .ok (.ishr, 1) := by decide +kernel
theorem d_10_10_58 : decode prog_10_method_10_code 58 = .ok (.ireturn, 1) := by decide +kernel
theorem d_10_68_0 : decode prog_10_method_68_code 0 = .ok (.getstatic 18, 3) := by decide +kernel
theorem d_10_68_3 : decode prog_10_method_68_code 3 = .ok (.ifCond .eq 14, 3) := by decide +kernel
theorem d_10_68_6 : decode prog_10_method_68_code 6 = .ok (.aload_n 0, 1) := by decide +kernel
theorem d_10_68_7 : decode prog_10_method_68_code 7 = .ok (.getfield 22, 3) := by decide +kernel
theorem d_10_68_10 : decode prog_10_method_68_code 10 = .ok (.ifCond .ne 7, 3) := by decide +kernel
theorem d_10_68_13 : decode prog_10_method_68_code 13 = .ok (.iconst 1, 1) := by decide +kernel
theorem d_10_68_14 : decode prog_10_method_68_code 14 = .ok (.goto 4, 3) := by decide +kernel
theorem d_10_68_17 : decode prog_10_method_68_code 17 = .ok (.iconst 0, 1) := by decide +kernel
theorem d_10_68_18 : decode prog_10_method_68_code 18 = .ok (.ireturn, 1) := by decide +kernel
theorem d_10_6_0 : decode prog_10_method_6_code 0 = .ok (.aload_n 0, 1) := by decide +kernel
theorem d_10_6_1 : decode prog_10_method_6_code 1 = .ok (.getfield 79, 3) := by decide +kernel
theorem d_10_6_4 : decode prog_10_method_6_code 4 = .ok (.ireturn, 1) := by decide +kernel
theorem d_10_13_0 : decode prog_10_method_13_code 0 = .ok (.iload_n 1, 1) := by decide +kernel
theorem d_10_13_1 : decode prog_10_method_13_code 1 = .ok (.ifCond .ge 12, 3) := by decide +kernel
theorem d_10_13_4 : decode prog_10_method_13_code 4 = .ok (.new 129, 3) := by decide +kernel
theorem d_10_13_7 : decode prog_10_method_13_code 7 = .ok (.dup, 1) := by decide +kernel
theorem d_10_13_8 : decode prog_10_method_13_code 8 = .ok (.iload_n 1, 1) := by decide +kernel
theorem d_10_13_9 : decode prog_10_method_13_code 9 = .ok (.invokespecial 131, 3) := by decide +kernel
theorem d_10_13_12 : decode prog_10_method_13_code 12 = .ok (.athrow, 1) := by decide +kernel
theorem d_10_13_13 : decode prog_10_method_13_code 13 = .ok (.aload_n 0, 1) := by decide +kernel
theorem d_10_13_14 : decode prog_10_method_13_code 14 = .ok (.iload_n 1, 1) := by decide +kernel
theorem d_10_13_15 : decode prog_10_method_13_code 15 = .ok (.invokevirtual 100, 3) := by decide +kernel
theorem d_10_13_18 : decode prog_10_method_13_code 18 = .ok (.aload_n 0, 1) := by decide +kernel
theorem d_10_13_19 : decode prog_10_method_13_code 19 = .ok (.getfield 79, 3) := by decide +kernel
theorem d_10_13_22 : decode prog_10_method_13_code 22 = .ok (.iload_n 1, 1) := by decide +kernel
theorem d_10_13_23 : decode prog_10_method_13_code 23 = .ok (.if_icmp .ge 40, 3) := by decide +kernel
theorem d_10_13_26 : decode prog_10_method_13_code 26 = .ok (.aload_n 0, 1) := by decide +kernel
theorem d_10_13_27 : decode prog_10_method_13_code 27 = .ok (.invokevirtual 83, 3) := by decide +kernel
theorem d_10_13_30 : decode prog_10_method_13_code 30 = .ok (.ifCond .eq 18, 3) := by decide +kernel
theorem d_10_13_33 : decode prog_10_method_13_code 33 = .ok (.aload_n 0, 1) := by decide +kernel
theorem d_10_13_34 : decode prog_10_method_13_code 34 = .ok (.getfield 15, 3) := by decide +kernel
theorem d_10_13_37 : decode prog_10_method_13_code 37 = .ok (.aload_n 0, 1) := by decide +kernel
theorem d_10_13_38 : decode prog_10_method_13_code 38 = .ok (.getfield 79, 3) := by decide +kernel
theorem d_10_13_41 : decode prog_10_method_13_code 41 = .ok (.iload_n 1, 1) := by decide +kernel
theorem d_10_13_42 : decode prog_10_method_13_code 42 = .ok (.invokestatic 133, 3) := by decide +kernel
theorem d_10_13_45 : decode prog_10_method_13_code 45 = .ok (.goto 31, 3) := by decide +kernel
theorem d_10_13_48 : decode prog_10_method_13_code 48 = .ok (.aload_n 0, 1) := by decide +kernel
theorem d_10_13_49 : decode prog_10_method_13_code 49 = .ok (.getfield 15, 3) := by decide +kernel
theorem d_10_13_52 : decode prog_10_method_13_code 52 = .ok (.aload_n 0, 1) := by decide +kernel
theorem d_10_13_53 : decode prog_10_method_13_code 53 = .ok (.getfield 79, 3) := by decide +kernel
theorem d_10_13_56 : decode prog_10_method_13_code 56 = .ok (.iload_n 1, 1) := by decide +kernel
theorem d_10_13_57 : decode prog_10_method_13_code 57 = .ok (.invokestatic 137, 3) := by decide +kernel
theorem d_10_13_60 : decode prog_10_method_13_code 60 = .ok (.goto 16, 3) := by decide +kernel
theorem d_10_13_63 : decode prog_10_method_13_code 63 = .ok (.aload_n 0, 1) := by decide +kernel
theorem d_10_13_64 : decode prog_10_method_13_code 64 = .ok (.getfield 79, 3) := by decide +kernel
theorem d_10_13_67 : decode prog_10_method_13_code 67 = .ok (.iload_n 1, 1) := by decide +kernel
theorem d_10_13_68 : decode prog_10_method_13_code 68 = .ok (.if_icmp .le 8, 3) := by decide +kernel
theorem d_10_13_71 : decode prog_10_method_13_code 71 = .ok (.aload_n 0, 1) := by decide +kernel
theorem d_10_13_72 : decode prog_10_method_13_code 72 = .ok (.iconst 1, 1) := by decide +kernel
theorem d_10_13_73 : decode prog_10_method_13_code 73 = .ok (.putfield 73, 3) := by decide +kernel
theorem d_10_13_76 : decode prog_10_method_13_code 76 = .ok (.aload_n 0, 1) := by decide +kernel
theorem d_10_13_77 : decode prog_10_method_13_code 77 = .ok (.iload_n 1, 1) := by decide +kernel
theorem d_10_13_78 : decode prog_10_method_13_code 78 = .ok (.putfield 79, 3) := by decide +kernel
theorem d_10_13_81 : decode prog_10_method_13_code 81 = .ok (.return_, 1) := by decide +kernel
theorem d_10_64_0 : decode prog_10_method_64_code 0 = .ok (.aload_n 0, 1) := by decide +kernel
theorem d_10_64_1 : decode prog_10_method_64_code 1 = .ok (.getfield 15, 3) := by decide +kernel
theorem d_10_64_4 : decode prog_10_method_64_code 4 = .ok (.areturn, 1) := by decide +kernel
theorem d_20_1_0 : decode prog_20_method_1_code 0 = .ok (.aload_n 0, 1) := by decide +kernel
theorem d_20_1_1 : decode prog_20_method_1_code 1 = .ok (.bipush 16, 2) := by decide +kernel
theorem d_20_1_3 : decode prog_20_method_1_code 3 = .ok (.invokespecial 1, 3) := by decide +kernel
theorem d_20_1_6 : decode prog_20_method_1_code 6 = .ok (.return_, 1) := by decide +kernel
theorem d_20_14_0 : decode prog_20_method_14_code 0 = .ok (.aload_n 0, 1) := by decide +kernel
theorem d_20_14_1 : decode prog_20_method_14_code 1 = .ok (.iload_n 1, 1) := by decide +kernel
theorem d_20_14_2 : decode prog_20_method_14_code 2 = .ok (.invokespecial 50, 3) := by decide +kernel
theorem d_20_14_5 : decode prog_20_method_14_code 5 = .ok (.pop, 1) := by decide +kernel
theorem d_20_14_6 : decode prog_20_method_14_code 6 = .ok (.aload_n 0, 1) := by decide +kernel
theorem d_20_14_7 : decode prog_20_method_14_code 7 = .ok (.areturn, 1) := by decide +kernel
theorem d_20_93_0 : decode prog_20_method_93_code 0 = .ok (.aload_n 0, 1) := by decide +kernel
theorem d_20_93_1 : decode prog_20_method_93_code 1 = .ok (.invokespecial 343, 3) := by decide +kernel
theorem d_20_93_4 : decode prog_20_method_93_code 4 = .ok (.ireturn, 1) := by decide +kernel
theorem d_20_89_0 : decode prog_20_method_89_code 0 = .ok (.aload_n 0, 1) := by decide +kernel
theorem d_20_89_1 : decode prog_20_method_89_code 1 = .ok (.iload_n 1, 1) := by decide +kernel
theorem d_20_89_2 : decode prog_20_method_89_code 2 = .ok (.invokespecial 333, 3) := by decide +kernel
theorem d_20_89_5 : decode prog_20_method_89_code 5 = .ok (.return_, 1) := by decide +kernel
theorem d_20_42_0 : decode prog_20_method_42_code 0 = .ok (.new 18, 3) := by decide +kernel
theorem d_20_42_3 : decode prog_20_method_42_code 3 = .ok (.dup, 1) := by decide +kernel
theorem d_20_42_4 : decode prog_20_method_42_code 4 = .ok (.aload_n 0, 1) := by decide +kernel
theorem d_20_42_5 : decode prog_20_method_42_code 5 = .ok (.invokespecial 137, 3) := by decide +kernel
theorem d_20_42_8 : decode prog_20_method_42_code 8 = .ok (.areturn, 1) := by decide +kernel
theorem d_27_2_0 : decode prog_27_method_2_code 0 = .ok (.aload_n 0, 1) := by decide +kernel
theorem d_27_2_1 : decode prog_27_method_2_code 1 = .ok (.invokespecial 1, 3) := by decide +kernel
theorem d_27_2_4 : decode prog_27_method_2_code 4 = .ok (.aload_n 0, 1) := by decide +kernel
theorem d_27_2_5 : decode prog_27_method_2_code 5 = .ok (.getstatic 39, 3) := by decide +kernel
theorem d_27_2_8 : decode prog_27_method_2_code 8 = .ok (.putfield 9, 3) := by decide +kernel
theorem d_27_2_11 : decode prog_27_method_2_code 11 = .ok (.return_, 1) := by decide +kernel
theorem d_27_8_0 : decode prog_27_method_8_code 0 = .ok (.aload_n 0, 1) := by decide +kernel
theorem d_27_8_1 : decode prog_27_method_8_code 1 = .ok (.getfield 48, 3) := by decide +kernel
theorem d_27_8_4 : decode prog_27_method_8_code 4 = .ok (.ireturn, 1) := by decide +kernel
theorem d_27_20_0 : decode prog_27_method_20_code 0 = .ok (.iload_n 1, 1) := by decide +kernel
theorem d_27_20_1 : decode prog_27_method_20_code 1 = .ok (.aload_n 0, 1) := by decide +kernel
theorem d_27_20_2 : decode prog_27_method_20_code 2 = .ok (.getfield 48, 3) := by decide +kernel
theorem d_27_20_5 : decode prog_27_method_20_code 5 = .ok (.invokestatic 118, 3) := by decide +kernel
theorem d_27_20_8 : decode prog_27_method_20_code 8 = .ok (.pop, 1) := by decide +kernel
theorem d_27_20_9 : decode prog_27_method_20_code 9 = .ok (.aload_n 0, 1) := by decide +kernel
theorem d_27_20_10 : decode prog_27_method_20_code 10 = .ok (.iload_n 1, 1) := by decide +kernel
theorem d_27_20_11 : decode prog_27_method_20_code 11 = .ok (.invokevirtual 123, 3) := by decide +kernel
theorem d_27_20_14 : decode prog_27_method_20_code 14 = .ok (.areturn, 1) := by decide +kernel
theorem d_27_18_0 : decode prog_27_method_18_code 0 = .ok (.aload_n 0, 1) := by decide +kernel
theorem d_27_18_1 : decode prog_27_method_18_code 1 = .ok (.getfield 9, 3) := by decide +kernel
theorem d_27_18_4 : decode prog_27_method_18_code 4 = .ok (.iload_n 1, 1) := by decide +kernel
theorem d_27_18_5 : decode prog_27_method_18_code 5 = .ok (.aaload, 1) := by decide +kernel
theorem d_27_18_6 : decode prog_27_method_18_code 6 = .ok (.areturn, 1) := by decide +kernel
theorem d_27_25_0 : decode prog_27_method_25_code 0 = .ok (.aload_n 0, 1) := by decide +kernel
theorem d_27_25_1 : decode prog_27_method_25_code 1 = .ok (.dup, 1) := by decide +kernel
theorem d_27_25_2 : decode prog_27_method_25_code 2 = .ok (.getfield 63, 3) := by decide +kernel
theorem d_27_25_5 : decode prog_27_method_25_code 5 = .ok (.iconst 1, 1) := by decide +kernel
theorem d_27_25_6 : decode prog_27_method_25_code 6 = .ok (.iadd, 1) := by decide +kernel
theorem d_27_25_7 : decode prog_27_method_25_code 7 = .ok (.putfield 63, 3) := by decide +kernel
theorem d_27_25_10 : decode prog_27_method_25_code 10 = .ok (.aload_n 0, 1) := by decide +kernel
theorem d_27_25_11 : decode prog_27_method_25_code 11 = .ok (.aload_n 1, 1) := by decide +kernel
theorem d_27_25_12 : decode prog_27_method_25_code 12 = .ok (.aload_n 0, 1) := by decide +kernel
theorem d_27_25_13 : decode prog_27_method_25_code 13 = .ok (.getfield 9, 3) := by decide +kernel
theorem d_27_25_16 : decode prog_27_method_25_code 16 = .ok (.aload_n 0, 1) := by decide +kernel
theorem d_27_25_17 : decode prog_27_method_25_code 17 = .ok (.getfield 48, 3) := by decide +kernel
theorem d_27_25_20 : decode prog_27_method_25_code 20 = .ok (.invokevirtual 131, 3) := by decide +kernel
theorem d_27_25_23 : decode prog_27_method_25_code 23 = .ok (.iconst 1, 1) := by decide +kernel
theorem d_27_25_24 : decode prog_27_method_25_code 24 = .ok (.ireturn, 1) := by decide +kernel
theorem d_27_24_0 : decode prog_27_method_24_code 0 = .ok (.iload_n 3, 1) := by decide +kernel
theorem d_27_24_1 : decode prog_27_method_24_code 1 = .ok (.aload_n 2, 1) := by decide +kernel
theorem d_27_24_2 : decode prog_27_method_24_code 2 = .ok (.arraylength, 1) := by decide +kernel
theorem d_27_24_3 : decode prog_27_method_24_code 3 = .ok (.if_icmp .ne 8, 3) := by decide +kernel
theorem d_27_24_6 : decode prog_27_method_24_code 6 = .ok (.aload_n 0, 1) := by decide +kernel
theorem d_27_24_7 : decode prog_27_method_24_code 7 = .ok (.invokevirtual 129, 3) := by decide +kernel
theorem d_27_24_10 : decode prog_27_method_24_code 10 = .ok (.astore_n 2, 1) := by decide +kernel
theorem d_27_24_11 : decode prog_27_method_24_code 11 = .ok (.aload_n 2, 1) := by decide +kernel
theorem d_27_24_12 : decode prog_27_method_24_code 12 = .ok (.iload_n 3, 1) := by decide +kernel
theorem d_27_24_13 : decode prog_27_method_24_code 13 = .ok (.aload_n 1, 1) := by decide +kernel
theorem d_27_24_14 : decode prog_27_method_24_code 14 = .ok (.aastore, 1) := by decide +kernel
theorem d_27_24_15 : decode prog_27_method_24_code 15 = .ok (.aload_n 0, 1) := by decide +kernel
theorem d_27_24_16 : decode prog_27_method_24_code 16 = .ok (.iload_n 3, 1) := by decide +kernel
theorem d_27_24_17 : decode prog_27_method_24_code 17 = .ok (.iconst 1, 1) := by decide +kernel
theorem d_27_24_18 : decode prog_27_method_24_code 18 = .ok (.iadd, 1) := by decide +kernel
theorem d_27_24_19 : decode prog_27_method_24_code 19 = .ok (.putfield 48, 3) := by decide +kernel
theorem d_27_24_22 : decode prog_27_method_24_code 22 = .ok (.return_, 1) := by decide +kernel
theorem d_27_7_0 : decode prog_27_method_7_code 0 = .ok (.aload_n 0, 1) := by decide +kernel
theorem d_27_7_1 : decode prog_27_method_7_code 1 = .ok (.aload_n 0, 1) := by decide +kernel
theorem d_27_7_2 : decode prog_27_method_7_code 2 = .ok (.getfield 48, 3) := by decide +kernel
theorem d_27_7_5 : decode prog_27_method_7_code 5 = .ok (.iconst 1, 1) := by decide +kernel
theorem d_27_7_6 : decode prog_27_method_7_code 6 = .ok (.iadd, 1) := by decide +kernel
theorem d_27_7_7 : decode prog_27_method_7_code 7 = .ok (.invokevirtual 69, 3) := by decide +kernel
theorem d_27_7_10 : decode prog_27_method_7_code 10 = .ok (.areturn, 1) := by decide +kernel
theorem d_27_6_0 : decode prog_27_method_6_code 0 = .ok (.aload_n 0, 1) := by decide +kernel
theorem d_27_6_1 : decode prog_27_method_6_code 1 = .ok (.getfield 9, 3) := by decide +kernel
theorem d_27_6_4 : decode prog_27_method_6_code 4 = .ok (.arraylength, 1) := by decide +kernel
theorem d_27_6_5 : decode prog_27_method_6_code 5 = .ok (.istore_n 2, 1) := by decide +kernel
theorem d_27_6_6 : decode prog_27_method_6_code 6 = .ok (.iload_n 2, 1) := by decide +kernel
theorem d_27_6_7 : decode prog_27_method_6_code 7 = .ok (.ifCond .gt 13, 3) := by decide +kernel
theorem d_27_6_10 : decode prog_27_method_6_code 10 = .ok (.aload_n 0, 1) := by decide +kernel
theorem d_27_6_11 : decode prog_27_method_6_code 11 = .ok (.getfield 9, 3) := by decide +kernel
theorem d_27_6_14 : decode prog_27_method_6_code 14 = .ok (.getstatic 39, 3) := by decide +kernel
theorem d_27_6_17 : decode prog_27_method_6_code 17 = .ok (.if_acmp .eq 28, 3) := by decide +kernel
theorem d_27_6_20 : decode prog_27_method_6_code 20 = .ok (.iload_n 2, 1) := by decide +kernel
theorem d_27_6_21 : decode prog_27_method_6_code 21 = .ok (.iload_n 1, 1) := by decide +kernel
theorem d_27_6_22 : decode prog_27_method_6_code 22 = .ok (.iload_n 2, 1) := by decide +kernel
theorem d_27_6_23 : decode prog_27_method_6_code 23 = .ok (.isub, 1) := by decide +kernel
theorem d_27_6_24 : decode prog_27_method_6_code 24 = .ok (.iload_n 2, 1) := by decide +kernel
theorem d_27_6_25 : decode prog_27_method_6_code 25 = .ok (.iconst 1, 1) := by decide +kernel
theorem d_27_6_26 : decode prog_27_method_6_code 26 = .ok (.ishr, 1) := by decide +kernel
theorem d_27_6_27 : decode prog_27_method_6_code 27 = .ok (.invokestatic 73, 3) := by decide +kernel
theorem d_27_6_30 : decode prog_27_method_6_code 30 = .ok (.istore_n 3, 1) := by decide +kernel
theorem d_27_6_31 : decode prog_27_method_6_code 31 = .ok (.aload_n 0, 1) := by decide +kernel
theorem d_27_6_32 : decode prog_27_method_6_code 32 = .ok (.aload_n 0, 1) := by decide +kernel
theorem d_27_6_33 : decode prog_27_method_6_code 33 = .ok (.getfield 9, 3) := by decide +kernel
theorem d_27_6_36 : decode prog_27_method_6_code 36 = .ok (.iload_n 3, 1) := by decide +kernel
theorem d_27_6_37 : decode prog_27_method_6_code 37 = .ok (.invokestatic 66, 3) := by decide +kernel
theorem d_27_6_40 : decode prog_27_method_6_code 40 = .ok (.dup_x1, 1) := by decide +kernel
theorem d_27_6_41 : decode prog_27_method_6_code 41 = .ok (.putfield 9, 3) := by decide +kernel
theorem d_27_6_44 : decode prog_27_method_6_code 44 = .ok (.areturn, 1) := by decide +kernel
theorem d_27_6_45 : decode prog_27_method_6_code 45 = .ok (.aload_n 0, 1) := by decide +kernel
theorem d_27_6_46 : decode prog_27_method_6_code 46 = .ok (.bipush 10, 2) := by decide +kernel
theorem d_27_6_48 : decode prog_27_method_6_code 48 = .ok (.iload_n 1, 1) := by decide +kernel
theorem d_27_6_49 : decode prog_27_method_6_code 49 = .ok (.invokestatic 79, 3) := by decide +kernel
theorem d_27_6_52 : decode prog_27_method_6_code 52 = .ok (.anewarray 7, 3) := by decide +kernel
theorem d_27_6_55 : decode prog_27_method_6_code 55 = .ok (.dup_x1, 1) := by decide +kernel
theorem d_27_6_56 : decode prog_27_method_6_code 56 = .ok (.putfield 9, 3) := by decide +kernel
theorem d_27_6_59 : decode prog_27_method_6_code 59 = .ok (.areturn, 1) := by decide +kernel
theorem d_27_9_0 : decode prog_27_method_9_code 0 = .ok (.aload_n 0, 1) := by decide +kernel
theorem d_27_9_1 : decode prog_27_method_9_code 1 = .ok (.getfield 48, 3) := by decide +kernel
theorem d_27_9_4 : decode prog_27_method_9_code 4 = .ok (.ifCond .ne 7, 3) := by decide +kernel
theorem d_27_9_7 : decode prog_27_method_9_code 7 = .ok (.iconst 1, 1) := by decide +kernel
theorem d_27_9_8 : decode prog_27_method_9_code 8 = .ok (.goto 4, 3) := by decide +kernel
theorem d_27_9_11 : decode prog_27_method_9_code 11 = .ok (.iconst 0, 1) := by decide +kernel
theorem d_27_9_12 : decode prog_27_method_9_code 12 = .ok (.ireturn, 1) := by decide +kernel
theorem d_27_26_0 : decode prog_27_method_26_code 0 = .ok (.aload_n 0, 1) := by decide +kernel
theorem d_27_26_1 : decode prog_27_method_26_code 1 = .ok (.iload_n 1, 1) := by decide +kernel
theorem d_27_26_2 : decode prog_27_method_26_code 2 = .ok (.invokevirtual 135, 3) := by decide +kernel
theorem d_27_26_5 : decode prog_27_method_26_code 5 = .ok (.aload_n 0, 1) := by decide +kernel
theorem d_27_26_6 : decode prog_27_method_26_code 6 = .ok (.dup, 1) := by decide +kernel
theorem d_27_26_7 : decode prog_27_method_26_code 7 = .ok (.getfield 63, 3) := by decide +kernel
theorem d_27_26_10 : decode prog_27_method_26_code 10 = .ok (.iconst 1, 1) := by decide +kernel
theorem d_27_26_11 : decode prog_27_method_26_code 11 = .ok (.iadd, 1) := by decide +kernel
theorem d_27_26_12 : decode prog_27_method_26_code 12 = .ok (.putfield 63, 3) := by decide +kernel
theorem d_27_26_15 : decode prog_27_method_26_code 15 = .ok (.aload_n 0, 1) := by decide +kernel
theorem d_27_26_16 : decode prog_27_method_26_code 16 = .ok (.getfield 48, 3) := by decide +kernel
theorem d_27_26_19 : decode prog_27_method_26_code 19 = .ok (.dup, 1) := by decide +kernel
theorem d_27_26_20 : decode prog_27_method_26_code 20 = .ok (.istore_n 3, 1) := by decide +kernel
theorem d_27_26_21 : decode prog_27_method_26_code 21 = .ok (.aload_n 0, 1) := by decide +kernel
theorem d_27_26_22 : decode prog_27_method_26_code 22 = .ok (.getfield 9, 3) := by decide +kernel
theorem d_27_26_25 : decode prog_27_method_26_code 25 = .ok (.dup, 1) := by decide +kernel
theorem d_27_26_26 : decode prog_27_method_26_code 26 = .ok (.astore 4, 2) := by decide +kernel
theorem d_27_26_28 : decode prog_27_method_26_code 28 = .ok (.arraylength, 1) := by decide +kernel
theorem d_27_26_29 : decode prog_27_method_26_code 29 = .ok (.if_icmp .ne 9, 3) := by decide +kernel
theorem d_27_26_32 : decode prog_27_method_26_code 32 = .ok (.aload_n 0, 1) := by decide +kernel
theorem d_27_26_33 : decode prog_27_method_26_code 33 = .ok (.invokevirtual 129, 3) := by decide +kernel
theorem d_27_26_36 : decode prog_27_method_26_code 36 = .ok (.astore 4, 2) := by decide +kernel
theorem d_27_26_38 : decode prog_27_method_26_code 38 = .ok (.aload 4, 2) := by decide +kernel
theorem d_27_26_40 : decode prog_27_method_26_code 40 = .ok (.iload_n 1, 1) := by decide +kernel
theorem d_27_26_41 : decode prog_27_method_26_code 41 = .ok (.aload 4, 2) := by decide +kernel
theorem d_27_26_43 : decode prog_27_method_26_code 43 = .ok (.iload_n 1, 1) := by decide +kernel
theorem d_27_26_44 : decode prog_27_method_26_code 44 = .ok (.iconst 1, 1) := by decide +kernel
theorem d_27_26_45 : decode prog_27_method_26_code 45 = .ok (.iadd, 1) := by decide +kernel
theorem d_27_26_46 : decode prog_27_method_26_code 46 = .ok (.iload_n 3, 1) := by decide +kernel
theorem d_27_26_47 : decode prog_27_method_26_code 47 = .ok (.iload_n 1, 1) := by decide +kernel
theorem d_27_26_48 : decode prog_27_method_26_code 48 = .ok (.isub, 1) := by decide +kernel
theorem d_27_26_49 : decode prog_27_method_26_code 49 = .ok (.invokestatic 112, 3) := by decide +kernel
theorem d_27_26_52 : decode prog_27_method_26_code 52 = .ok (.aload 4, 2) := by decide +kernel
theorem d_27_26_54 : decode prog_27_method_26_code 54 = .ok (.iload_n 1, 1) := by decide +kernel
theorem d_27_26_55 : decode prog_27_method_26_code 55 = .ok (.aload_n 2, 1) := by decide +kernel
theorem d_27_26_56 : decode prog_27_method_26_code 56 = .ok (.aastore, 1) := by decide +kernel
theorem d_27_26_57 : decode prog_27_method_26_code 57 = .ok (.aload_n 0, 1) := by decide +kernel
theorem d_27_26_58 : decode prog_27_method_26_code 58 = .ok (.iload_n 3, 1) := by decide +kernel
theorem d_27_26_59 : decode prog_27_method_26_code 59 = .ok (.iconst 1, 1) := by decide +kernel
theorem d_27_26_60 : decode prog_27_method_26_code 60 = .ok (.iadd, 1) := by decide +kernel
theorem d_27_26_61 : decode prog_27_method_26_code 61 = .ok (.putfield 48, 3) := by decide +kernel
theorem d_27_26_64 : decode prog_27_method_26_code 64 = .ok (.return_, 1) := by decide +kernel
theorem d_27_45_0 : decode prog_27_method_45_code 0 = .ok (.iload_n 1, 1) := by decide +kernel
theorem d_27_45_1 : decode prog_27_method_45_code 1 = .ok (.aload_n 0, 1) := by decide +kernel
theorem d_27_45_2 : decode prog_27_method_45_code 2 = .ok (.getfield 48, 3) := by decide +kernel
theorem d_27_45_5 : decode prog_27_method_45_code 5 = .ok (.if_icmp .gt 7, 3) := by decide +kernel
theorem d_27_45_8 : decode prog_27_method_45_code 8 = .ok (.iload_n 1, 1) := by decide +kernel
theorem d_27_45_9 : decode prog_27_method_45_code 9 = .ok (.ifCond .ge 16, 3) := by decide +kernel
theorem d_27_45_12 : decode prog_27_method_45_code 12 = .ok (.new 187, 3) := by decide +kernel
theorem d_27_45_15 : decode prog_27_method_45_code 15 = .ok (.dup, 1) := by decide +kernel
theorem d_27_45_16 : decode prog_27_method_45_code 16 = .ok (.aload_n 0, 1) := by decide +kernel
theorem d_27_45_17 : decode prog_27_method_45_code 17 = .ok (.iload_n 1, 1) := by decide +kernel
theorem d_27_45_18 : decode prog_27_method_45_code 18 = .ok (.invokevirtual 198, 3) := by decide +kernel
theorem d_27_45_21 : decode prog_27_method_45_code 21 = .ok (.invokespecial 193, 3) := by decide +kernel
theorem d_27_45_24 : decode prog_27_method_45_code 24 = .ok (.athrow, 1) := by decide +kernel
theorem d_27_45_25 : decode prog_27_method_45_code 25 = .ok (.return_, 1) := by decide +kernel
theorem d_26_1_0 : decode prog_26_method_1_code 0 = .ok (.aload_n 0, 1) := by decide +kernel
theorem d_26_1_1 : decode prog_26_method_1_code 1 = .ok (.invokespecial 1, 3) := by decide +kernel
theorem d_26_1_4 : decode prog_26_method_1_code 4 = .ok (.aload_n 0, 1) := by decide +kernel
theorem d_26_1_5 : decode prog_26_method_1_code 5 = .ok (.iconst 0, 1) := by decide +kernel
theorem d_26_1_6 : decode prog_26_method_1_code 6 = .ok (.putfield 7, 3) := by decide +kernel
theorem d_26_1_9 : decode prog_26_method_1_code 9 = .ok (.return_, 1) := by decide +kernel
theorem d_25_1_0 : decode prog_25_method_1_code 0 = .ok (.aload_n 0, 1) := by decide +kernel
theorem d_25_1_1 : decode prog_25_method_1_code 1 = .ok (.invokespecial 1, 3) := by decide +kernel
theorem d_25_1_4 : decode prog_25_method_1_code 4 = .ok (.return_, 1) := by decide +kernel
theorem d_1_1_0 : decode prog_1_method_1_code 0 = .ok (.aload_n 0, 1) := by decide +kernel
theorem d_1_1_1 : decode prog_1_method_1_code 1 = .ok (.invokespecial 1, 3) := by decide +kernel
theorem d_1_1_4 : decode prog_1_method_1_code 4 = .ok (.aload_n 0, 1) := by decide +kernel
theorem d_1_1_5 : decode prog_1_method_1_code 5 = .ok (.new 7, 3) := by decide +kernel
theorem d_1_1_8 : decode prog_1_method_1_code 8 = .ok (.dup, 1) := by decide +kernel
theorem d_1_1_9 : decode prog_1_method_1_code 9 = .ok (.invokespecial 9, 3) := by decide +kernel
theorem d_1_1_12 : decode prog_1_method_1_code 12 = .ok (.putfield 10, 3) := by decide +kernel
theorem d_1_1_15 : decode prog_1_method_1_code 15 = .ok (.aload_n 0, 1) := by decide +kernel
theorem d_1_1_16 : decode prog_1_method_1_code 16 = .ok (.new 16, 3) := by decide +kernel
theorem d_1_1_19 : decode prog_1_method_1_code 19 = .ok (.dup, 1) := by decide +kernel
theorem d_1_1_20 : decode prog_1_method_1_code 20 = .ok (.invokespecial 18, 3) := by decide +kernel
theorem d_1_1_23 : decode prog_1_method_1_code 23 = .ok (.putfield 19, 3) := by decide +kernel
theorem d_1_1_26 : decode prog_1_method_1_code 26 = .ok (.aload_n 0, 1) := by decide +kernel
theorem d_1_1_27 : decode prog_1_method_1_code 27 = .ok (.new 16, 3) := by decide +kernel
theorem d_1_1_30 : decode prog_1_method_1_code 30 = .ok (.dup, 1) := by decide +kernel
theorem d_1_1_31 : decode prog_1_method_1_code 31 = .ok (.invokespecial 18, 3) := by decide +kernel
theorem d_1_1_34 : decode prog_1_method_1_code 34 = .ok (.putfield 23, 3) := by decide +kernel
theorem d_1_1_37 : decode prog_1_method_1_code 37 = .ok (.aload_n 0, 1) := by decide +kernel
theorem d_1_1_38 : decode prog_1_method_1_code 38 = .ok (.bipush 20, 2) := by decide +kernel
theorem d_1_1_40 : decode prog_1_method_1_code 40 = .ok (.newarray .int, 2) := by decide +kernel
theorem d_1_1_42 : decode prog_1_method_1_code 42 = .ok (.putfield 26, 3) := by decide +kernel
theorem d_1_1_45 : decode prog_1_method_1_code 45 = .ok (.aload_n 0, 1) := by decide +kernel
theorem d_1_1_46 : decode prog_1_method_1_code 46 = .ok (.iconst 0, 1) := by decide +kernel
theorem d_1_1_47 : decode prog_1_method_1_code 47 = .ok (.putfield 30, 3) := by decide +kernel
theorem d_1_1_50 : decode prog_1_method_1_code 50 = .ok (.return_, 1) := by decide +kernel
theorem d_1_2_0 : decode prog_1_method_2_code 0 = .ok (.iload_n 1, 1) := by decide +kernel
theorem d_1_2_1 : decode prog_1_method_2_code 1 = .ok (.bipush 32, 2) := by decide +kernel
theorem d_1_2_3 : decode prog_1_method_2_code 3 = .ok (.if_icmp .lt 21, 3) := by decide +kernel
theorem d_1_2_6 : decode prog_1_method_2_code 6 = .ok (.iload_n 1, 1) := by decide +kernel
theorem d_1_2_7 : decode prog_1_method_2_code 7 = .ok (.bipush 126, 2) := by decide +kernel
theorem d_1_2_9 : decode prog_1_method_2_code 9 = .ok (.if_icmp .gt 15, 3) := by decide +kernel
theorem d_1_2_12 : decode prog_1_method_2_code 12 = .ok (.aload_n 0, 1) := by decide +kernel
theorem d_1_2_13 : decode prog_1_method_2_code 13 = .ok (.getfield 10, 3) := by decide +kernel
theorem d_1_2_16 : decode prog_1_method_2_code 16 = .ok (.invokevirtual 34, 3) := by decide +kernel
theorem d_1_2_19 : decode prog_1_method_2_code 19 = .ok (.bipush 30, 2) := by decide +kernel
theorem d_1_2_21 : decode prog_1_method_2_code 21 = .ok (.if_icmp .lt 5, 3) := by decide +kernel
theorem d_1_2_24 : decode prog_1_method_2_code 24 = .ok (.iconst 0, 1) := by decide +kernel
theorem d_1_2_25 : decode prog_1_method_2_code 25 = .ok (.ireturn, 1) := by decide +kernel
theorem d_1_2_26 : decode prog_1_method_2_code 26 = .ok (.aload_n 0, 1) := by decide +kernel
theorem d_1_2_27 : decode prog_1_method_2_code 27 = .ok (.getfield 10, 3) := by decide +kernel
theorem d_1_2_30 : decode prog_1_method_2_code 30 = .ok (.iload_n 1, 1) := by decide +kernel
theorem d_1_2_31 : decode prog_1_method_2_code 31 = .ok (.invokevirtual 38, 3) := by decide +kernel
theorem d_1_2_34 : decode prog_1_method_2_code 34 = .ok (.pop, 1) := by decide +kernel
theorem d_1_2_35 : decode prog_1_method_2_code 35 = .ok (.iconst 1, 1) := by decide +kernel
theorem d_1_2_36 : decode prog_1_method_2_code 36 = .ok (.ireturn, 1) := by decide +kernel
theorem d_1_5_0 : decode prog_1_method_5_code 0 = .ok (.aload_n 0, 1) := by decide +kernel
theorem d_1_5_1 : decode prog_1_method_5_code 1 = .ok (.getfield 30, 3) := by decide +kernel
theorem d_1_5_4 : decode prog_1_method_5_code 4 = .ok (.ireturn, 1) := by decide +kernel
theorem d_1_6_0 : decode prog_1_method_6_code 0 = .ok (.iload_n 1, 1) := by decide +kernel
theorem d_1_6_1 : decode prog_1_method_6_code 1 = .ok (.ifCond .lt 26, 3) := by decide +kernel
theorem d_1_6_4 : decode prog_1_method_6_code 4 = .ok (.iload_n 1, 1) := by decide +kernel
theorem d_1_6_5 : decode prog_1_method_6_code 5 = .ok (.aload_n 0, 1) := by decide +kernel
theorem d_1_6_6 : decode prog_1_method_6_code 6 = .ok (.getfield 30, 3) := by decide +kernel
theorem d_1_6_9 : decode prog_1_method_6_code 9 = .ok (.if_icmp .ge 18, 3) := by decide +kernel
theorem d_1_6_12 : decode prog_1_method_6_code 12 = .ok (.iload_n 1, 1) := by decide +kernel
theorem d_1_6_13 : decode prog_1_method_6_code 13 = .ok (.bipush 20, 2) := by decide +kernel
theorem d_1_6_15 : decode prog_1_method_6_code 15 = .ok (.if_icmp .ge 12, 3) := by decide +kernel
theorem d_1_6_18 : decode prog_1_method_6_code 18 = .ok (.aload_n 0, 1) := by decide +kernel
theorem d_1_6_19 : decode prog_1_method_6_code 19 = .ok (.getfield 26, 3) := by decide +kernel
theorem d_1_6_22 : decode prog_1_method_6_code 22 = .ok (.iload_n 1, 1) := by decide +kernel
theorem d_1_6_23 : decode prog_1_method_6_code 23 = .ok (.iaload, 1) := by decide +kernel
theorem d_1_6_24 : decode prog_1_method_6_code 24 = .ok (.goto 4, 3) := by decide +kernel
theorem d_1_6_27 : decode prog_1_method_6_code 27 = .ok (.iconst (-1), 1) := by decide +kernel
theorem d_1_6_28 : decode prog_1_method_6_code 28 = .ok (.ireturn, 1) := by decide +kernel
theorem d_1_7_0 : decode prog_1_method_7_code 0 = .ok (.aload_n 0, 1) := by decide +kernel
theorem d_1_7_1 : decode prog_1_method_7_code 1 = .ok (.iload_n 1, 1) := by decide +kernel
theorem d_1_7_2 : decode prog_1_method_7_code 2 = .ok (.invokevirtual 78, 3) := by decide +kernel
theorem d_1_7_5 : decode prog_1_method_7_code 5 = .ok (.ifCond .eq 23, 3) := by decide +kernel
theorem d_1_7_8 : decode prog_1_method_7_code 8 = .ok (.aload_n 0, 1) := by decide +kernel
theorem d_1_7_9 : decode prog_1_method_7_code 9 = .ok (.getfield 23, 3) := by decide +kernel
theorem d_1_7_12 : decode prog_1_method_7_code 12 = .ok (.iload_n 1, 1) := by decide +kernel
theorem d_1_7_13 : decode prog_1_method_7_code 13 = .ok (.invokevirtual 53, 3) := by decide +kernel
theorem d_1_7_16 : decode prog_1_method_7_code 16 = .ok (.checkcast 86, 3) := by decide +kernel
theorem d_1_7_19 : decode prog_1_method_7_code 19 = .ok (.getfield 95, 3) := by decide +kernel
theorem d_1_7_22 : decode prog_1_method_7_code 22 = .ok (.invokevirtual 50, 3) := by decide +kernel
theorem d_1_7_25 : decode prog_1_method_7_code 25 = .ok (.goto 4, 3) := by decide +kernel
theorem d_1_7_28 : decode prog_1_method_7_code 28 = .ok (.iconst (-1), 1) := by decide +kernel
theorem d_1_7_29 : decode prog_1_method_7_code 29 = .ok (.ireturn, 1) := by decide +kernel
theorem d_1_17_0 : decode prog_1_method_17_code 0 = .ok (.iload_n 1, 1) := by decide +kernel
theorem d_1_17_1 : decode prog_1_method_17_code 1 = .ok (.ifCond .lt 35, 3) := by decide +kernel
theorem d_1_17_4 : decode prog_1_method_17_code 4 = .ok (.iload_n 1, 1) := by decide +kernel
theorem d_1_17_5 : decode prog_1_method_17_code 5 = .ok (.aload_n 0, 1) := by decide +kernel
theorem d_1_17_6 : decode prog_1_method_17_code 6 = .ok (.getfield 23, 3) := by decide +kernel
theorem d_1_17_9 : decode prog_1_method_17_code 9 = .ok (.invokevirtual 50, 3) := by decide +kernel
theorem d_1_17_12 : decode prog_1_method_17_code 12 = .ok (.if_icmp .ge 24, 3) := by decide +kernel
theorem d_1_17_15 : decode prog_1_method_17_code 15 = .ok (.aload_n 0, 1) := by decide +kernel
theorem d_1_17_16 : decode prog_1_method_17_code 16 = .ok (.getfield 23, 3) := by decide +kernel
theorem d_1_17_19 : decode prog_1_method_17_code 19 = .ok (.iload_n 1, 1) := by decide +kernel
theorem d_1_17_20 : decode prog_1_method_17_code 20 = .ok (.invokevirtual 53, 3) := by decide +kernel
theorem d_1_17_23 : decode prog_1_method_17_code 23 = .ok (.checkcast 86, 3) := by decide +kernel
theorem d_1_17_26 : decode prog_1_method_17_code 26 = .ok (.getfield 103, 3) := by decide +kernel
theorem d_1_17_29 : decode prog_1_method_17_code 29 = .ok (.ifCond .ne 7, 3) := by decide +kernel
theorem d_1_17_32 : decode prog_1_method_17_code 32 = .ok (.iconst 1, 1) := by decide +kernel
theorem d_1_17_33 : decode prog_1_method_17_code 33 = .ok (.goto 4, 3) := by decide +kernel
theorem d_1_17_36 : decode prog_1_method_17_code 36 = .ok (.iconst 0, 1) := by decide +kernel
theorem d_1_17_37 : decode prog_1_method_17_code 37 = .ok (.ireturn, 1) := by decide +kernel
theorem d_1_8_0 : decode prog_1_method_8_code 0 = .ok (.iload_n 1, 1) := by decide +kernel
theorem d_1_8_1 : decode prog_1_method_8_code 1 = .ok (.ifCond .lt 31, 3) := by decide +kernel
theorem d_1_8_4 : decode prog_1_method_8_code 4 = .ok (.iload_n 1, 1) := by decide +kernel
theorem d_1_8_5 : decode prog_1_method_8_code 5 = .ok (.aload_n 0, 1) := by decide +kernel
theorem d_1_8_6 : decode prog_1_method_8_code 6 = .ok (.getfield 19, 3) := by decide +kernel
theorem d_1_8_9 : decode prog_1_method_8_code 9 = .ok (.invokevirtual 50, 3) := by decide +kernel
theorem d_1_8_12 : decode prog_1_method_8_code 12 = .ok (.if_icmp .ge 20, 3) := by decide +kernel
theorem d_1_8_15 : decode prog_1_method_8_code 15 = .ok (.aload_n 0, 1) := by decide +kernel
theorem d_1_8_16 : decode prog_1_method_8_code 16 = .ok (.getfield 19, 3) := by decide +kernel
theorem d_1_8_19 : decode prog_1_method_8_code 19 = .ok (.iload_n 1, 1) := by decide +kernel
theorem d_1_8_20 : decode prog_1_method_8_code 20 = .ok (.invokevirtual 53, 3) := by decide +kernel
theorem d_1_8_23 : decode prog_1_method_8_code 23 = .ok (.checkcast 98, 3) := by decide +kernel
theorem d_1_8_26 : decode prog_1_method_8_code 26 = .ok (.getfield 100, 3) := by decide +kernel
theorem d_1_8_29 : decode prog_1_method_8_code 29 = .ok (.goto 4, 3) := by decide +kernel
theorem d_1_8_32 : decode prog_1_method_8_code 32 = .ok (.iconst (-1), 1) := by decide +kernel
theorem d_1_8_33 : decode prog_1_method_8_code 33 = .ok (.ireturn, 1) := by decide +kernel
theorem d_1_9_0 : decode prog_1_method_9_code 0 = .ok (.aload_n 0, 1) := by decide +kernel
theorem d_1_9_1 : decode prog_1_method_9_code 1 = .ok (.iload_n 1, 1) := by decide +kernel
theorem d_1_9_2 : decode prog_1_method_9_code 2 = .ok (.invokevirtual 78, 3) := by decide +kernel
theorem d_1_9_5 : decode prog_1_method_9_code 5 = .ok (.ifCond .ne 5, 3) := by decide +kernel
theorem d_1_9_8 : decode prog_1_method_9_code 8 = .ok (.iconst 0, 1) := by decide +kernel
theorem d_1_9_9 : decode prog_1_method_9_code 9 = .ok (.ireturn, 1) := by decide +kernel
theorem d_1_9_10 : decode prog_1_method_9_code 10 = .ok (.aload_n 0, 1) := by decide +kernel
theorem d_1_9_11 : decode prog_1_method_9_code 11 = .ok (.getfield 23, 3) := by decide +kernel
theorem d_1_9_14 : decode prog_1_method_9_code 14 = .ok (.iload_n 1, 1) := by decide +kernel
theorem d_1_9_15 : decode prog_1_method_9_code 15 = .ok (.invokevirtual 53, 3) := by decide +kernel
theorem d_1_9_18 : decode prog_1_method_9_code 18 = .ok (.checkcast 86, 3) := by decide +kernel
theorem d_1_9_21 : decode prog_1_method_9_code 21 = .ok (.iconst 1, 1) := by decide +kernel
theorem d_1_9_22 : decode prog_1_method_9_code 22 = .ok (.putfield 103, 3) := by decide +kernel
theorem d_1_9_25 : decode prog_1_method_9_code 25 = .ok (.iconst 1, 1) := by decide +kernel
theorem d_1_9_26 : decode prog_1_method_9_code 26 = .ok (.ireturn, 1) := by decide +kernel
theorem d_1_10_0 : decode prog_1_method_10_code 0 = .ok (.aload_n 0, 1) := by decide +kernel
theorem d_1_10_1 : decode prog_1_method_10_code 1 = .ok (.aload_n 0, 1) := by decide +kernel
theorem d_1_10_2 : decode prog_1_method_10_code 2 = .ok (.invokevirtual 42, 3) := by decide +kernel
theorem d_1_10_5 : decode prog_1_method_10_code 5 = .ok (.invokevirtual 107, 3) := by decide +kernel
theorem d_1_10_8 : decode prog_1_method_10_code 8 = .ok (.astore_n 1, 1) := by decide +kernel
theorem d_1_10_9 : decode prog_1_method_10_code 9 = .ok (.aload_n 1, 1) := by decide +kernel
theorem d_1_10_10 : decode prog_1_method_10_code 10 = .ok (.ifnonnull 7, 3) := by decide +kernel
theorem d_1_10_13 : decode prog_1_method_10_code 13 = .ok (.iconst (-1), 1) := by decide +kernel
theorem d_1_10_14 : decode prog_1_method_10_code 14 = .ok (.goto 7, 3) := by decide +kernel
theorem d_1_10_17 : decode prog_1_method_10_code 17 = .ok (.aload_n 1, 1) := by decide +kernel
theorem d_1_10_18 : decode prog_1_method_10_code 18 = .ok (.getfield 111, 3) := by decide +kernel
theorem d_1_10_21 : decode prog_1_method_10_code 21 = .ok (.ireturn, 1) := by decide +kernel
theorem d_1_12_0 : decode prog_1_method_12_code 0 = .ok (.aload_n 0, 1) := by decide +kernel
theorem d_1_12_1 : decode prog_1_method_12_code 1 = .ok (.getfield 10, 3) := by decide +kernel
theorem d_1_12_4 : decode prog_1_method_12_code 4 = .ok (.invokevirtual 117, 3) := by decide +kernel
theorem d_1_12_7 : decode prog_1_method_12_code 7 = .ok (.astore_n 1, 1) := by decide +kernel
theorem d_1_12_8 : decode prog_1_method_12_code 8 = .ok (.aload_n 0, 1) := by decide +kernel
theorem d_1_12_9 : decode prog_1_method_12_code 9 = .ok (.getfield 10, 3) := by decide +kernel
theorem d_1_12_12 : decode prog_1_method_12_code 12 = .ok (.iconst 0, 1) := by decide +kernel
theorem d_1_12_13 : decode prog_1_method_12_code 13 = .ok (.invokevirtual 120, 3) := by decide +kernel
theorem d_1_12_16 : decode prog_1_method_12_code 16 = .ok (.aload_n 1, 1) := by decide +kernel
theorem d_1_12_17 : decode prog_1_method_12_code 17 = .ok (.areturn, 1) := by decide +kernel
theorem d_1_20_0 : decode prog_1_method_20_code 0 = .ok (.iconst 0, 1) := by decide +kernel
theorem d_1_20_1 : decode prog_1_method_20_code 1 = .ok (.istore_n 2, 1) := by decide +kernel
theorem d_1_20_2 : decode prog_1_method_20_code 2 = .ok (.iload_n 2, 1) := by decide +kernel
theorem d_1_20_3 : decode prog_1_method_20_code 3 = .ok (.aload_n 0, 1) := by decide +kernel
theorem d_1_20_4 : decode prog_1_method_20_code 4 = .ok (.getfield 23, 3) := by decide +kernel
theorem d_1_20_7 : decode prog_1_method_20_code 7 = .ok (.invokevirtual 50, 3) := by decide +kernel
theorem d_1_20_10 : decode prog_1_method_20_code 10 = .ok (.if_icmp .ge 59, 3) := by decide +kernel
theorem d_1_20_13 : decode prog_1_method_20_code 13 = .ok (.aload_n 0, 1) := by decide +kernel
theorem d_1_20_14 : decode prog_1_method_20_code 14 = .ok (.getfield 23, 3) := by decide +kernel
theorem d_1_20_17 : decode prog_1_method_20_code 17 = .ok (.iload_n 2, 1) := by decide +kernel
theorem d_1_20_18 : decode prog_1_method_20_code 18 = .ok (.invokevirtual 53, 3) := by decide +kernel
theorem d_1_20_21 : decode prog_1_method_20_code 21 = .ok (.checkcast 86, 3) := by decide +kernel
theorem d_1_20_24 : decode prog_1_method_20_code 24 = .ok (.getfield 103, 3) := by decide +kernel
theorem d_1_20_27 : decode prog_1_method_20_code 27 = .ok (.ifCond .ne 36, 3) := by decide +kernel
theorem d_1_20_30 : decode prog_1_method_20_code 30 = .ok (.aload_n 0, 1) := by decide +kernel
theorem d_1_20_31 : decode prog_1_method_20_code 31 = .ok (.getfield 23, 3) := by decide +kernel
theorem d_1_20_34 : decode prog_1_method_20_code 34 = .ok (.iload_n 2, 1) := by decide +kernel
theorem d_1_20_35 : decode prog_1_method_20_code 35 = .ok (.invokevirtual 53, 3) := by decide +kernel
theorem d_1_20_38 : decode prog_1_method_20_code 38 = .ok (.checkcast 86, 3) := by decide +kernel
theorem d_1_20_41 : decode prog_1_method_20_code 41 = .ok (.getfield 151, 3) := by decide +kernel
theorem d_1_20_44 : decode prog_1_method_20_code 44 = .ok (.aload_n 1, 1) := by decide +kernel
theorem d_1_20_45 : decode prog_1_method_20_code 45 = .ok (.invokevirtual 145, 3) := by decide +kernel
theorem d_1_20_48 : decode prog_1_method_20_code 48 = .ok (.ifCond .eq 15, 3) := by decide +kernel
theorem d_1_20_51 : decode prog_1_method_20_code 51 = .ok (.aload_n 0, 1) := by decide +kernel
theorem d_1_20_52 : decode prog_1_method_20_code 52 = .ok (.getfield 23, 3) := by decide +kernel
theorem d_1_20_55 : decode prog_1_method_20_code 55 = .ok (.iload_n 2, 1) := by decide +kernel
theorem d_1_20_56 : decode prog_1_method_20_code 56 = .ok (.invokevirtual 53, 3) := by decide +kernel
theorem d_1_20_59 : decode prog_1_method_20_code 59 = .ok (.checkcast 86, 3) := by decide +kernel
theorem d_1_20_62 : decode prog_1_method_20_code 62 = .ok (.areturn, 1) := by decide +kernel
theorem d_1_20_63 : decode prog_1_method_20_code 63 = .ok (.iinc 2 1, 3) := by decide +kernel
theorem d_1_20_66 : decode prog_1_method_20_code 66 = .ok (.goto (-64), 3) := by decide +kernel
theorem d_1_20_69 : decode prog_1_method_20_code 69 = .ok (.aconst_null, 1) := by decide +kernel
theorem d_1_20_70 : decode prog_1_method_20_code 70 = .ok (.areturn, 1) := by decide +kernel
theorem d_1_11_0 : decode prog_1_method_11_code 0 = .ok (.iload_n 1, 1) := by decide +kernel
theorem d_1_11_1 : decode prog_1_method_11_code 1 = .ok (.tableswitch 48 0 2 #[27, 35, 43], 27) := by decide +kernel
theorem d_1_11_28 : decode prog_1_method_11_code 28 = .ok (.aload_n 0, 1) := by decide +kernel
theorem d_1_11_29 : decode prog_1_method_11_code 29 = .ok (.getfield 19, 3) := by decide +kernel
theorem d_1_11_32 : decode prog_1_method_11_code 32 = .ok (.invokevirtual 50, 3) := by decide +kernel
theorem d_1_11_35 : decode prog_1_method_11_code 35 = .ok (.ireturn, 1) := by decide +kernel
theorem d_1_11_36 : decode prog_1_method_11_code 36 = .ok (.aload_n 0, 1) := by decide +kernel
theorem d_1_11_37 : decode prog_1_method_11_code 37 = .ok (.getfield 23, 3) := by decide +kernel
theorem d_1_11_40 : decode prog_1_method_11_code 40 = .ok (.invokevirtual 50, 3) := by decide +kernel
theorem d_1_11_43 : decode prog_1_method_11_code 43 = .ok (.ireturn, 1) := by decide +kernel
theorem d_1_11_44 : decode prog_1_method_11_code 44 = .ok (.aload_n 0, 1) := by decide +kernel
theorem d_1_11_45 : decode prog_1_method_11_code 45 = .ok (.invokevirtual 114, 3) := by decide +kernel
theorem d_1_11_48 : decode prog_1_method_11_code 48 = .ok (.ireturn, 1) := by decide +kernel
theorem d_1_11_49 : decode prog_1_method_11_code 49 = .ok (.iconst (-1), 1) := by decide +kernel
theorem d_1_11_50 : decode prog_1_method_11_code 50 = .ok (.ireturn, 1) := by decide +kernel
theorem d_1_18_0 : decode prog_1_method_18_code 0 = .ok (.iconst 0, 1) := by decide +kernel
theorem d_1_18_1 : decode prog_1_method_18_code 1 = .ok (.istore_n 1, 1) := by decide +kernel
theorem d_1_18_2 : decode prog_1_method_18_code 2 = .ok (.iconst 0, 1) := by decide +kernel
theorem d_1_18_3 : decode prog_1_method_18_code 3 = .ok (.istore_n 2, 1) := by decide +kernel
theorem d_1_18_4 : decode prog_1_method_18_code 4 = .ok (.iload_n 2, 1) := by decide +kernel
theorem d_1_18_5 : decode prog_1_method_18_code 5 = .ok (.aload_n 0, 1) := by decide +kernel
theorem d_1_18_6 : decode prog_1_method_18_code 6 = .ok (.getfield 23, 3) := by decide +kernel
theorem d_1_18_9 : decode prog_1_method_18_code 9 = .ok (.invokevirtual 50, 3) := by decide +kernel
theorem d_1_18_12 : decode prog_1_method_18_code 12 = .ok (.if_icmp .ge 29, 3) := by decide +kernel
theorem d_1_18_15 : decode prog_1_method_18_code 15 = .ok (.aload_n 0, 1) := by decide +kernel
theorem d_1_18_16 : decode prog_1_method_18_code 16 = .ok (.getfield 23, 3) := by decide +kernel
theorem d_1_18_19 : decode prog_1_method_18_code 19 = .ok (.iload_n 2, 1) := by decide +kernel
theorem d_1_18_20 : decode prog_1_method_18_code 20 = .ok (.invokevirtual 53, 3) := by decide +kernel
theorem d_1_18_23 : decode prog_1_method_18_code 23 = .ok (.checkcast 86, 3) := by decide +kernel
theorem d_1_18_26 : decode prog_1_method_18_code 26 = .ok (.getfield 103, 3) := by decide +kernel
theorem d_1_18_29 : decode prog_1_method_18_code 29 = .ok (.ifCond .ne 6, 3) := by decide +kernel
theorem d_1_18_32 : decode prog_1_method_18_code 32 = .ok (.iinc 1 1, 3) := by decide +kernel
theorem d_1_18_35 : decode prog_1_method_18_code 35 = .ok (.iinc 2 1, 3) := by decide +kernel
theorem d_1_18_38 : decode prog_1_method_18_code 38 = .ok (.goto (-34), 3) := by decide +kernel
theorem d_1_18_41 : decode prog_1_method_18_code 41 = .ok (.iload_n 1, 1) := by decide +kernel
theorem d_1_18_42 : decode prog_1_method_18_code 42 = .ok (.ireturn, 1) := by decide +kernel
theorem d_1_3_0 : decode prog_1_method_3_code 0 = .ok (.aload_n 0, 1) := by decide +kernel
theorem d_1_3_1 : decode prog_1_method_3_code 1 = .ok (.invokevirtual 42, 3) := by decide +kernel
theorem d_1_3_4 : decode prog_1_method_3_code 4 = .ok (.invokestatic 46, 3) := by decide +kernel
theorem d_1_3_7 : decode prog_1_method_3_code 7 = .ok (.astore_n 1, 1) := by decide +kernel
theorem d_1_3_8 : decode prog_1_method_3_code 8 = .ok (.aload_n 1, 1) := by decide +kernel
theorem d_1_3_9 : decode prog_1_method_3_code 9 = .ok (.invokevirtual 50, 3) := by decide +kernel
theorem d_1_3_12 : decode prog_1_method_3_code 12 = .ok (.tableswitch 87 0 4 #[36, 38, 54, 87, 81], 36) := by decide +kernel
theorem d_1_3_48 : decode prog_1_method_3_code 48 = .ok (.iconst 0, 1) := by decide +kernel
theorem d_1_3_49 : decode prog_1_method_3_code 49 = .ok (.ireturn, 1) := by decide +kernel
theorem d_1_3_50 : decode prog_1_method_3_code 50 = .ok (.aload_n 0, 1) := by decide +kernel
theorem d_1_3_51 : decode prog_1_method_3_code 51 = .ok (.aload_n 1, 1) := by decide +kernel
theorem d_1_3_52 : decode prog_1_method_3_code 52 = .ok (.iconst 0, 1) := by decide +kernel
theorem d_1_3_53 : decode prog_1_method_3_code 53 = .ok (.invokevirtual 53, 3) := by decide +kernel
theorem d_1_3_56 : decode prog_1_method_3_code 56 = .ok (.checkcast 57, 3) := by decide +kernel
theorem d_1_3_59 : decode prog_1_method_3_code 59 = .ok (.getfield 59, 3) := by decide +kernel
theorem d_1_3_62 : decode prog_1_method_3_code 62 = .ok (.invokevirtual 63, 3) := by decide +kernel
theorem d_1_3_65 : decode prog_1_method_3_code 65 = .ok (.ireturn, 1) := by decide +kernel
theorem d_1_3_66 : decode prog_1_method_3_code 66 = .ok (.aload_n 0, 1) := by decide +kernel
theorem d_1_3_67 : decode prog_1_method_3_code 67 = .ok (.aload_n 1, 1) := by decide +kernel
theorem d_1_3_68 : decode prog_1_method_3_code 68 = .ok (.iconst 0, 1) := by decide +kernel
theorem d_1_3_69 : decode prog_1_method_3_code 69 = .ok (.invokevirtual 53, 3) := by decide +kernel
theorem d_1_3_72 : decode prog_1_method_3_code 72 = .ok (.checkcast 57, 3) := by decide +kernel
theorem d_1_3_75 : decode prog_1_method_3_code 75 = .ok (.getfield 59, 3) := by decide +kernel
theorem d_1_3_78 : decode prog_1_method_3_code 78 = .ok (.aload_n 1, 1) := by decide +kernel
theorem d_1_3_79 : decode prog_1_method_3_code 79 = .ok (.iconst 1, 1) := by decide +kernel
theorem d_1_3_80 : decode prog_1_method_3_code 80 = .ok (.invokevirtual 53, 3) := by decide +kernel
theorem d_1_3_83 : decode prog_1_method_3_code 83 = .ok (.checkcast 57, 3) := by decide +kernel
theorem d_1_3_86 : decode prog_1_method_3_code 86 = .ok (.getfield 59, 3) := by decide +kernel
theorem d_1_3_89 : decode prog_1_method_3_code 89 = .ok (.invokevirtual 67, 3) := by decide +kernel
theorem d_1_3_92 : decode prog_1_method_3_code 92 = .ok (.ireturn, 1) := by decide +kernel
theorem d_1_3_93 : decode prog_1_method_3_code 93 = .ok (.aload_n 0, 1) := by decide +kernel
theorem d_1_3_94 : decode prog_1_method_3_code 94 = .ok (.aload_n 1, 1) := by decide +kernel
theorem d_1_3_95 : decode prog_1_method_3_code 95 = .ok (.invokevirtual 71, 3) := by decide +kernel
theorem d_1_3_98 : decode prog_1_method_3_code 98 = .ok (.ireturn, 1) := by decide +kernel
theorem d_1_3_99 : decode prog_1_method_3_code 99 = .ok (.new 75, 3) := by decide +kernel
theorem d_1_3_102 : decode prog_1_method_3_code 102 = .ok (.dup, 1) := by decide +kernel
theorem d_1_3_103 : decode prog_1_method_3_code 103 = .ok (.invokespecial 77, 3) := by decide +kernel
theorem d_1_3_106 : decode prog_1_method_3_code 106 = .ok (.athrow, 1) := by decide +kernel
theorem d_1_13_0 : decode prog_1_method_13_code 0 = .ok (.new 16, 3) := by decide +kernel
theorem d_1_13_3 : decode prog_1_method_13_code 3 = .ok (.dup, 1) := by decide +kernel
theorem d_1_13_4 : decode prog_1_method_13_code 4 = .ok (.invokespecial 18, 3) := by decide +kernel
theorem d_1_13_7 : decode prog_1_method_13_code 7 = .ok (.astore_n 1, 1) := by decide +kernel
theorem d_1_13_8 : decode prog_1_method_13_code 8 = .ok (.iconst 0, 1) := by decide +kernel
theorem d_1_13_9 : decode prog_1_method_13_code 9 = .ok (.istore_n 2, 1) := by decide +kernel
theorem d_1_13_10 : decode prog_1_method_13_code 10 = .ok (.iconst 0, 1) := by decide +kernel
theorem d_1_13_11 : decode prog_1_method_13_code 11 = .ok (.istore_n 3, 1) := by decide +kernel
theorem d_1_13_12 : decode prog_1_method_13_code 12 = .ok (.iload_n 3, 1) := by decide +kernel
theorem d_1_13_13 : decode prog_1_method_13_code 13 = .ok (.aload_n 0, 1) := by decide +kernel
theorem d_1_13_14 : decode prog_1_method_13_code 14 = .ok (.invokevirtual 124, 3) := by decide +kernel
theorem d_1_13_17 : decode prog_1_method_13_code 17 = .ok (.if_icmp .gt 54, 3) := by decide +kernel
theorem d_1_13_20 : decode prog_1_method_13_code 20 = .ok (.iload_n 3, 1) := by decide +kernel
theorem d_1_13_21 : decode prog_1_method_13_code 21 = .ok (.aload_n 0, 1) := by decide +kernel
theorem d_1_13_22 : decode prog_1_method_13_code 22 = .ok (.invokevirtual 124, 3) := by decide +kernel
theorem d_1_13_25 : decode prog_1_method_13_code 25 = .ok (.if_icmp .eq 13, 3) := by decide +kernel
theorem d_1_13_28 : decode prog_1_method_13_code 28 = .ok (.aload_n 0, 1) := by decide +kernel
theorem d_1_13_29 : decode prog_1_method_13_code 29 = .ok (.iload_n 3, 1) := by decide +kernel
theorem d_1_13_30 : decode prog_1_method_13_code 30 = .ok (.invokevirtual 127, 3) := by decide +kernel
theorem d_1_13_33 : decode prog_1_method_13_code 33 = .ok (.bipush 32, 2) := by decide +kernel
theorem d_1_13_35 : decode prog_1_method_13_code 35 = .ok (.if_icmp .ne 30, 3) := by decide +kernel
theorem d_1_13_38 : decode prog_1_method_13_code 38 = .ok (.iload_n 2, 1) := by decide +kernel
theorem d_1_13_39 : decode prog_1_method_13_code 39 = .ok (.iload_n 3, 1) := by decide +kernel
theorem d_1_13_40 : decode prog_1_method_13_code 40 = .ok (.if_icmp .ge 21, 3) := by decide +kernel
theorem d_1_13_43 : decode prog_1_method_13_code 43 = .ok (.aload_n 1, 1) := by decide +kernel
theorem d_1_13_44 : decode prog_1_method_13_code 44 = .ok (.new 57, 3) := by decide +kernel
theorem d_1_13_47 : decode prog_1_method_13_code 47 = .ok (.dup, 1) := by decide +kernel
theorem d_1_13_48 : decode prog_1_method_13_code 48 = .ok (.aload_n 0, 1) := by decide +kernel
theorem d_1_13_49 : decode prog_1_method_13_code 49 = .ok (.iload_n 2, 1) := by decide +kernel
theorem d_1_13_50 : decode prog_1_method_13_code 50 = .ok (.iload_n 3, 1) := by decide +kernel
theorem d_1_13_51 : decode prog_1_method_13_code 51 = .ok (.invokevirtual 131, 3) := by decide +kernel
theorem d_1_13_54 : decode prog_1_method_13_code 54 = .ok (.invokespecial 135, 3) := by decide +kernel
theorem d_1_13_57 : decode prog_1_method_13_code 57 = .ok (.invokevirtual 138, 3) := by decide +kernel
theorem d_1_13_60 : decode prog_1_method_13_code 60 = .ok (.pop, 1) := by decide +kernel
theorem d_1_13_61 : decode prog_1_method_13_code 61 = .ok (.iload_n 3, 1) := by decide +kernel
theorem d_1_13_62 : decode prog_1_method_13_code 62 = .ok (.iconst 1, 1) := by decide +kernel
theorem d_1_13_63 : decode prog_1_method_13_code 63 = .ok (.iadd, 1) := by decide +kernel
theorem d_1_13_64 : decode prog_1_method_13_code 64 = .ok (.istore_n 2, 1) := by decide +kernel
theorem d_1_13_65 : decode prog_1_method_13_code 65 = .ok (.iinc 3 1, 3) := by decide +kernel
theorem d_1_13_68 : decode prog_1_method_13_code 68 = .ok (.goto (-56), 3) := by decide +kernel
theorem d_1_13_71 : decode prog_1_method_13_code 71 = .ok (.aload_n 1, 1) := by decide +kernel
theorem d_1_13_72 : decode prog_1_method_13_code 72 = .ok (.areturn, 1) := by decide +kernel
theorem d_1_31_0 : decode prog_1_method_31_code 0 = .ok (.aload_n 1, 1) := by decide +kernel
theorem d_1_31_1 : decode prog_1_method_31_code 1 = .ok (.ldc 235, 2) := by decide +kernel
theorem d_1_31_3 : decode prog_1_method_31_code 3 = .ok (.invokevirtual 145, 3) := by decide +kernel
theorem d_1_31_6 : decode prog_1_method_31_code 6 = .ok (.istore_n 2, 1) := by decide +kernel
theorem d_1_31_7 : decode prog_1_method_31_code 7 = .ok (.iload_n 2, 1) := by decide +kernel
theorem d_1_31_8 : decode prog_1_method_31_code 8 = .ok (.ifCond .ne 20, 3) := by decide +kernel
theorem d_1_31_11 : decode prog_1_method_31_code 11 = .ok (.aload_n 1, 1) := by decide +kernel
theorem d_1_31_12 : decode prog_1_method_31_code 12 = .ok (.ldc 237, 2) := by decide +kernel
theorem d_1_31_14 : decode prog_1_method_31_code 14 = .ok (.invokevirtual 145, 3) := by decide +kernel
theorem d_1_31_17 : decode prog_1_method_31_code 17 = .ok (.ifCond .ne 11, 3) := by decide +kernel
theorem d_1_31_20 : decode prog_1_method_31_code 20 = .ok (.new 75, 3) := by decide +kernel
theorem d_1_31_23 : decode prog_1_method_31_code 23 = .ok (.dup, 1) := by decide +kernel
theorem d_1_31_24 : decode prog_1_method_31_code 24 = .ok (.invokespecial 77, 3) := by decide +kernel
theorem d_1_31_27 : decode prog_1_method_31_code 27 = .ok (.athrow, 1) := by decide +kernel
theorem d_1_31_28 : decode prog_1_method_31_code 28 = .ok (.aload_n 0, 1) := by decide +kernel
theorem d_1_31_29 : decode prog_1_method_31_code 29 = .ok (.invokevirtual 209, 3) := by decide +kernel
theorem d_1_31_32 : decode prog_1_method_31_code 32 = .ok (.astore_n 3, 1) := by decide +kernel
theorem d_1_31_33 : decode prog_1_method_31_code 33 = .ok (.aload_n 3, 1) := by decide +kernel
theorem d_1_31_34 : decode prog_1_method_31_code 34 = .ok (.ifnull 10, 3) := by decide +kernel
theorem d_1_31_37 : decode prog_1_method_31_code 37 = .ok (.aload_n 3, 1) := by decide +kernel
theorem d_1_31_38 : decode prog_1_method_31_code 38 = .ok (.getfield 103, 3) := by decide +kernel
theorem d_1_31_41 : decode prog_1_method_31_code 41 = .ok (.ifCond .eq 11, 3) := by decide +kernel
theorem d_1_31_44 : decode prog_1_method_31_code 44 = .ok (.new 192, 3) := by decide +kernel
theorem d_1_31_47 : decode prog_1_method_31_code 47 = .ok (.dup, 1) := by decide +kernel
theorem d_1_31_48 : decode prog_1_method_31_code 48 = .ok (.invokespecial 194, 3) := by decide +kernel
theorem d_1_31_51 : decode prog_1_method_31_code 51 = .ok (.athrow, 1) := by decide +kernel
theorem d_1_31_52 : decode prog_1_method_31_code 52 = .ok (.aload_n 3, 1) := by decide +kernel
theorem d_1_31_53 : decode prog_1_method_31_code 53 = .ok (.iload_n 2, 1) := by decide +kernel
theorem d_1_31_54 : decode prog_1_method_31_code 54 = .ok (.putfield 239, 3) := by decide +kernel
theorem d_1_31_57 : decode prog_1_method_31_code 57 = .ok (.iconst 4, 1) := by decide +kernel
theorem d_1_31_58 : decode prog_1_method_31_code 58 = .ok (.ireturn, 1) := by decide +kernel
theorem d_1_22_0 : decode prog_1_method_22_code 0 = .ok (.aload_n 0, 1) := by decide +kernel
theorem d_1_22_1 : decode prog_1_method_22_code 1 = .ok (.getfield 23, 3) := by decide +kernel
theorem d_1_22_4 : decode prog_1_method_22_code 4 = .ok (.invokevirtual 152, 3) := by decide +kernel
theorem d_1_22_7 : decode prog_1_method_22_code 7 = .ok (.ifCond .eq 7, 3) := by decide +kernel
theorem d_1_22_10 : decode prog_1_method_22_code 10 = .ok (.aconst_null, 1) := by decide +kernel
theorem d_1_22_11 : decode prog_1_method_22_code 11 = .ok (.goto 22, 3) := by decide +kernel
theorem d_1_22_14 : decode prog_1_method_22_code 14 = .ok (.aload_n 0, 1) := by decide +kernel
theorem d_1_22_15 : decode prog_1_method_22_code 15 = .ok (.getfield 23, 3) := by decide +kernel
theorem d_1_22_18 : decode prog_1_method_22_code 18 = .ok (.aload_n 0, 1) := by decide +kernel
theorem d_1_22_19 : decode prog_1_method_22_code 19 = .ok (.getfield 23, 3) := by decide +kernel
theorem d_1_22_22 : decode prog_1_method_22_code 22 = .ok (.invokevirtual 50, 3) := by decide +kernel
theorem d_1_22_25 : decode prog_1_method_22_code 25 = .ok (.iconst 1, 1) := by decide +kernel
theorem d_1_22_26 : decode prog_1_method_22_code 26 = .ok (.isub, 1) := by decide +kernel
theorem d_1_22_27 : decode prog_1_method_22_code 27 = .ok (.invokevirtual 53, 3) := by decide +kernel
theorem d_1_22_30 : decode prog_1_method_22_code 30 = .ok (.checkcast 86, 3) := by decide +kernel
theorem d_1_22_33 : decode prog_1_method_22_code 33 = .ok (.areturn, 1) := by decide +kernel
theorem d_1_23_0 : decode prog_1_method_23_code 0 = .ok (.aload_n 1, 1) := by decide +kernel
theorem d_1_23_1 : decode prog_1_method_23_code 1 = .ok (.ldc 156, 2) := by decide +kernel
theorem d_1_23_3 : decode prog_1_method_23_code 3 = .ok (.invokevirtual 145, 3) := by decide +kernel
theorem d_1_23_6 : decode prog_1_method_23_code 6 = .ok (.ifCond .eq 9, 3) := by decide +kernel
theorem d_1_23_9 : decode prog_1_method_23_code 9 = .ok (.aload_n 0, 1) := by decide +kernel
theorem d_1_23_10 : decode prog_1_method_23_code 10 = .ok (.aload_n 2, 1) := by decide +kernel
theorem d_1_23_11 : decode prog_1_method_23_code 11 = .ok (.invokevirtual 158, 3) := by decide +kernel
theorem d_1_23_14 : decode prog_1_method_23_code 14 = .ok (.ireturn, 1) := by decide +kernel
theorem d_1_23_15 : decode prog_1_method_23_code 15 = .ok (.aload_n 1, 1) := by decide +kernel
theorem d_1_23_16 : decode prog_1_method_23_code 16 = .ok (.ldc 161, 2) := by decide +kernel
theorem d_1_23_18 : decode prog_1_method_23_code 18 = .ok (.invokevirtual 145, 3) := by decide +kernel
theorem d_1_23_21 : decode prog_1_method_23_code 21 = .ok (.ifCond .eq 9, 3) := by decide +kernel
theorem d_1_23_24 : decode prog_1_method_23_code 24 = .ok (.aload_n 0, 1) := by decide +kernel
theorem d_1_23_25 : decode prog_1_method_23_code 25 = .ok (.aload_n 2, 1) := by decide +kernel
theorem d_1_23_26 : decode prog_1_method_23_code 26 = .ok (.invokevirtual 163, 3) := by decide +kernel
theorem d_1_23_29 : decode prog_1_method_23_code 29 = .ok (.ireturn, 1) := by decide +kernel
theorem d_1_23_30 : decode prog_1_method_23_code 30 = .ok (.aload_n 1, 1) := by decide +kernel
theorem d_1_23_31 : decode prog_1_method_23_code 31 = .ok (.ldc 166, 2) := by decide +kernel
theorem d_1_23_33 : decode prog_1_method_23_code 33 = .ok (.invokevirtual 145, 3) := by decide +kernel
theorem d_1_23_36 : decode prog_1_method_23_code 36 = .ok (.ifCond .eq 9, 3) := by decide +kernel
theorem d_1_23_39 : decode prog_1_method_23_code 39 = .ok (.aload_n 0, 1) := by decide +kernel
theorem d_1_23_40 : decode prog_1_method_23_code 40 = .ok (.aload_n 2, 1) := by decide +kernel
theorem d_1_23_41 : decode prog_1_method_23_code 41 = .ok (.invokevirtual 168, 3) := by decide +kernel
theorem d_1_23_44 : decode prog_1_method_23_code 44 = .ok (.ireturn, 1) := by decide +kernel
theorem d_1_23_45 : decode prog_1_method_23_code 45 = .ok (.aload_n 1, 1) := by decide +kernel
theorem d_1_23_46 : decode prog_1_method_23_code 46 = .ok (.ldc 171, 2) := by decide +kernel
theorem d_1_23_48 : decode prog_1_method_23_code 48 = .ok (.invokevirtual 145, 3) := by decide +kernel
theorem d_1_23_51 : decode prog_1_method_23_code 51 = .ok (.ifCond .eq 9, 3) := by decide +kernel
theorem d_1_23_54 : decode prog_1_method_23_code 54 = .ok (.aload_n 0, 1) := by decide +kernel
theorem d_1_23_55 : decode prog_1_method_23_code 55 = .ok (.aload_n 2, 1) := by decide +kernel
theorem d_1_23_56 : decode prog_1_method_23_code 56 = .ok (.invokevirtual 173, 3) := by decide +kernel
theorem d_1_23_59 : decode prog_1_method_23_code 59 = .ok (.ireturn, 1) := by decide +kernel
theorem d_1_23_60 : decode prog_1_method_23_code 60 = .ok (.aload_n 1, 1) := by decide +kernel
theorem d_1_23_61 : decode prog_1_method_23_code 61 = .ok (.ldc 176, 2) := by decide +kernel
theorem d_1_23_63 : decode prog_1_method_23_code 63 = .ok (.invokevirtual 145, 3) := by decide +kernel
theorem d_1_23_66 : decode prog_1_method_23_code 66 = .ok (.ifCond .eq 9, 3) := by decide +kernel
theorem d_1_23_69 : decode prog_1_method_23_code 69 = .ok (.aload_n 0, 1) := by decide +kernel
theorem d_1_23_70 : decode prog_1_method_23_code 70 = .ok (.aload_n 2, 1) := by decide +kernel
theorem d_1_23_71 : decode prog_1_method_23_code 71 = .ok (.invokevirtual 178, 3) := by decide +kernel
theorem d_1_23_74 : decode prog_1_method_23_code 74 = .ok (.ireturn, 1) := by decide +kernel
theorem d_1_23_75 : decode prog_1_method_23_code 75 = .ok (.new 75, 3) := by decide +kernel
theorem d_1_23_78 : decode prog_1_method_23_code 78 = .ok (.dup, 1) := by decide +kernel
theorem d_1_23_79 : decode prog_1_method_23_code 79 = .ok (.invokespecial 77, 3) := by decide +kernel
theorem d_1_23_82 : decode prog_1_method_23_code 82 = .ok (.athrow, 1) := by decide +kernel
theorem d_1_25_0 : decode prog_1_method_25_code 0 = .ok (.aload_n 1, 1) := by decide +kernel
theorem d_1_25_1 : decode prog_1_method_25_code 1 = .ok (.invokestatic 142, 3) := by decide +kernel
theorem d_1_25_4 : decode prog_1_method_25_code 4 = .ok (.ifCond .eq 11, 3) := by decide +kernel
theorem d_1_25_7 : decode prog_1_method_25_code 7 = .ok (.aload_n 0, 1) := by decide +kernel
theorem d_1_25_8 : decode prog_1_method_25_code 8 = .ok (.aload_n 1, 1) := by decide +kernel
theorem d_1_25_9 : decode prog_1_method_25_code 9 = .ok (.invokevirtual 188, 3) := by decide +kernel
theorem d_1_25_12 : decode prog_1_method_25_code 12 = .ok (.ifnull 11, 3) := by decide +kernel
theorem d_1_25_15 : decode prog_1_method_25_code 15 = .ok (.new 75, 3) := by decide +kernel
theorem d_1_25_18 : decode prog_1_method_25_code 18 = .ok (.dup, 1) := by decide +kernel
theorem d_1_25_19 : decode prog_1_method_25_code 19 = .ok (.invokespecial 77, 3) := by decide +kernel
theorem d_1_25_22 : decode prog_1_method_25_code 22 = .ok (.athrow, 1) := by decide +kernel
theorem d_1_25_23 : decode prog_1_method_25_code 23 = .ok (.aload_n 0, 1) := by decide +kernel
theorem d_1_25_24 : decode prog_1_method_25_code 24 = .ok (.getfield 19, 3) := by decide +kernel
theorem d_1_25_27 : decode prog_1_method_25_code 27 = .ok (.invokevirtual 50, 3) := by decide +kernel
theorem d_1_25_30 : decode prog_1_method_25_code 30 = .ok (.bipush 6, 2) := by decide +kernel
theorem d_1_25_32 : decode prog_1_method_25_code 32 = .ok (.if_icmp .lt 11, 3) := by decide +kernel
theorem d_1_25_35 : decode prog_1_method_25_code 35 = .ok (.new 192, 3) := by decide +kernel
theorem d_1_25_38 : decode prog_1_method_25_code 38 = .ok (.dup, 1) := by decide +kernel
theorem d_1_25_39 : decode prog_1_method_25_code 39 = .ok (.invokespecial 194, 3) := by decide +kernel
theorem d_1_25_42 : decode prog_1_method_25_code 42 = .ok (.athrow, 1) := by decide +kernel
theorem d_1_25_43 : decode prog_1_method_25_code 43 = .ok (.aload_n 0, 1) := by decide +kernel
theorem d_1_25_44 : decode prog_1_method_25_code 44 = .ok (.getfield 19, 3) := by decide +kernel
theorem d_1_25_47 : decode prog_1_method_25_code 47 = .ok (.new 98, 3) := by decide +kernel
theorem d_1_25_50 : decode prog_1_method_25_code 50 = .ok (.dup, 1) := by decide +kernel
theorem d_1_25_51 : decode prog_1_method_25_code 51 = .ok (.aload_n 0, 1) := by decide +kernel
theorem d_1_25_52 : decode prog_1_method_25_code 52 = .ok (.getfield 19, 3) := by decide +kernel
theorem d_1_25_55 : decode prog_1_method_25_code 55 = .ok (.invokevirtual 50, 3) := by decide +kernel
theorem d_1_25_58 : decode prog_1_method_25_code 58 = .ok (.aload_n 1, 1) := by decide +kernel
theorem d_1_25_59 : decode prog_1_method_25_code 59 = .ok (.invokespecial 195, 3) := by decide +kernel
theorem d_1_25_62 : decode prog_1_method_25_code 62 = .ok (.invokevirtual 138, 3) := by decide +kernel
theorem d_1_25_65 : decode prog_1_method_25_code 65 = .ok (.pop, 1) := by decide +kernel
theorem d_1_25_66 : decode prog_1_method_25_code 66 = .ok (.iconst 1, 1) := by decide +kernel
theorem d_1_25_67 : decode prog_1_method_25_code 67 = .ok (.ireturn, 1) := by decide +kernel
theorem d_1_14_0 : decode prog_1_method_14_code 0 = .ok (.iconst 0, 1) := by decide +kernel
theorem d_1_14_1 : decode prog_1_method_14_code 1 = .ok (.istore_n 1, 1) := by decide +kernel
theorem d_1_14_2 : decode prog_1_method_14_code 2 = .ok (.iload_n 1, 1) := by decide +kernel
theorem d_1_14_3 : decode prog_1_method_14_code 3 = .ok (.aload_n 0, 1) := by decide +kernel
theorem d_1_14_4 : decode prog_1_method_14_code 4 = .ok (.invokevirtual 124, 3) := by decide +kernel
theorem d_1_14_7 : decode prog_1_method_14_code 7 = .ok (.if_icmp .ge 31, 3) := by decide +kernel
theorem d_1_14_10 : decode prog_1_method_14_code 10 = .ok (.aload_n 0, 1) := by decide +kernel
theorem d_1_14_11 : decode prog_1_method_14_code 11 = .ok (.iload_n 1, 1) := by decide +kernel
theorem d_1_14_12 : decode prog_1_method_14_code 12 = .ok (.invokevirtual 127, 3) := by decide +kernel
theorem d_1_14_15 : decode prog_1_method_14_code 15 = .ok (.bipush 97, 2) := by decide +kernel
theorem d_1_14_17 : decode prog_1_method_14_code 17 = .ok (.if_icmp .lt 13, 3) := by decide +kernel
theorem d_1_14_20 : decode prog_1_method_14_code 20 = .ok (.aload_n 0, 1) := by decide +kernel
theorem d_1_14_21 : decode prog_1_method_14_code 21 = .ok (.iload_n 1, 1) := by decide +kernel
theorem d_1_14_22 : decode prog_1_method_14_code 22 = .ok (.invokevirtual 127, 3) := by decide +kernel
theorem d_1_14_25 : decode prog_1_method_14_code 25 = .ok (.bipush 122, 2) := by decide +kernel
theorem d_1_14_27 : decode prog_1_method_14_code 27 = .ok (.if_icmp .le 5, 3) := by decide +kernel
theorem d_1_14_30 : decode prog_1_method_14_code 30 = .ok (.iconst 0, 1) := by decide +kernel
theorem d_1_14_31 : decode prog_1_method_14_code 31 = .ok (.ireturn, 1) := by decide +kernel
theorem d_1_14_32 : decode prog_1_method_14_code 32 = .ok (.iinc 1 1, 3) := by decide +kernel
theorem d_1_14_35 : decode prog_1_method_14_code 35 = .ok (.goto (-33), 3) := by decide +kernel
theorem d_1_14_38 : decode prog_1_method_14_code 38 = .ok (.aload_n 0, 1) := by decide +kernel
theorem d_1_14_39 : decode prog_1_method_14_code 39 = .ok (.invokevirtual 124, 3) := by decide +kernel
theorem d_1_14_42 : decode prog_1_method_14_code 42 = .ok (.iconst 1, 1) := by decide +kernel
theorem d_1_14_43 : decode prog_1_method_14_code 43 = .ok (.if_icmp .lt 15, 3) := by decide +kernel
theorem d_1_14_46 : decode prog_1_method_14_code 46 = .ok (.aload_n 0, 1) := by decide +kernel
theorem d_1_14_47 : decode prog_1_method_14_code 47 = .ok (.invokevirtual 124, 3) := by decide +kernel
theorem d_1_14_50 : decode prog_1_method_14_code 50 = .ok (.iconst 4, 1) := by decide +kernel
theorem d_1_14_51 : decode prog_1_method_14_code 51 = .ok (.if_icmp .gt 7, 3) := by decide +kernel
theorem d_1_14_54 : decode prog_1_method_14_code 54 = .ok (.iconst 1, 1) := by decide +kernel
theorem d_1_14_55 : decode prog_1_method_14_code 55 = .ok (.goto 4, 3) := by decide +kernel
theorem d_1_14_58 : decode prog_1_method_14_code 58 = .ok (.iconst 0, 1) := by decide +kernel
theorem d_1_14_59 : decode prog_1_method_14_code 59 = .ok (.ireturn, 1) := by decide +kernel
theorem d_1_19_0 : decode prog_1_method_19_code 0 = .ok (.iconst 0, 1) := by decide +kernel
theorem d_1_19_1 : decode prog_1_method_19_code 1 = .ok (.istore_n 2, 1) := by decide +kernel
theorem d_1_19_2 : decode prog_1_method_19_code 2 = .ok (.iload_n 2, 1) := by decide +kernel
theorem d_1_19_3 : decode prog_1_method_19_code 3 = .ok (.aload_n 0, 1) := by decide +kernel
theorem d_1_19_4 : decode prog_1_method_19_code 4 = .ok (.getfield 19, 3) := by decide +kernel
theorem d_1_19_7 : decode prog_1_method_19_code 7 = .ok (.invokevirtual 50, 3) := by decide +kernel
theorem d_1_19_10 : decode prog_1_method_19_code 10 = .ok (.if_icmp .ge 42, 3) := by decide +kernel
theorem d_1_19_13 : decode prog_1_method_19_code 13 = .ok (.aload_n 0, 1) := by decide +kernel
theorem d_1_19_14 : decode prog_1_method_19_code 14 = .ok (.getfield 19, 3) := by decide +kernel
theorem d_1_19_17 : decode prog_1_method_19_code 17 = .ok (.iload_n 2, 1) := by decide +kernel
theorem d_1_19_18 : decode prog_1_method_19_code 18 = .ok (.invokevirtual 53, 3) := by decide +kernel
theorem d_1_19_21 : decode prog_1_method_19_code 21 = .ok (.checkcast 98, 3) := by decide +kernel
theorem d_1_19_24 : decode prog_1_method_19_code 24 = .ok (.getfield 148, 3) := by decide +kernel
theorem d_1_19_27 : decode prog_1_method_19_code 27 = .ok (.aload_n 1, 1) := by decide +kernel
theorem d_1_19_28 : decode prog_1_method_19_code 28 = .ok (.invokevirtual 145, 3) := by decide +kernel
theorem d_1_19_31 : decode prog_1_method_19_code 31 = .ok (.ifCond .eq 15, 3) := by decide +kernel
theorem d_1_19_34 : decode prog_1_method_19_code 34 = .ok (.aload_n 0, 1) := by decide +kernel
theorem d_1_19_35 : decode prog_1_method_19_code 35 = .ok (.getfield 19, 3) := by decide +kernel
theorem d_1_19_38 : decode prog_1_method_19_code 38 = .ok (.iload_n 2, 1) := by decide +kernel
theorem d_1_19_39 : decode prog_1_method_19_code 39 = .ok (.invokevirtual 53, 3) := by decide +kernel
theorem d_1_19_42 : decode prog_1_method_19_code 42 = .ok (.checkcast 98, 3) := by decide +kernel
theorem d_1_19_45 : decode prog_1_method_19_code 45 = .ok (.areturn, 1) := by decide +kernel
theorem d_1_19_46 : decode prog_1_method_19_code 46 = .ok (.iinc 2 1, 3) := by decide +kernel
theorem d_1_19_49 : decode prog_1_method_19_code 49 = .ok (.goto (-47), 3) := by decide +kernel
theorem d_1_19_52 : decode prog_1_method_19_code 52 = .ok (.aconst_null, 1) := by decide +kernel
theorem d_1_19_53 : decode prog_1_method_19_code 53 = .ok (.areturn, 1) := by decide +kernel
theorem d_1_26_0 : decode prog_1_method_26_code 0 = .ok (.aload_n 0, 1) := by decide +kernel
theorem d_1_26_1 : decode prog_1_method_26_code 1 = .ok (.invokevirtual 198, 3) := by decide +kernel
theorem d_1_26_4 : decode prog_1_method_26_code 4 = .ok (.astore_n 2, 1) := by decide +kernel
theorem d_1_26_5 : decode prog_1_method_26_code 5 = .ok (.aload_n 1, 1) := by decide +kernel
theorem d_1_26_6 : decode prog_1_method_26_code 6 = .ok (.invokestatic 82, 3) := by decide +kernel
theorem d_1_26_9 : decode prog_1_method_26_code 9 = .ok (.ifCond .eq 15, 3) := by decide +kernel
theorem d_1_26_12 : decode prog_1_method_26_code 12 = .ok (.aload_n 2, 1) := by decide +kernel
theorem d_1_26_13 : decode prog_1_method_26_code 13 = .ok (.ifnull 19, 3) := by decide +kernel
theorem d_1_26_16 : decode prog_1_method_26_code 16 = .ok (.aload_n 2, 1) := by decide +kernel
theorem d_1_26_17 : decode prog_1_method_26_code 17 = .ok (.aload_n 1, 1) := by decide +kernel
theorem d_1_26_18 : decode prog_1_method_26_code 18 = .ok (.invokevirtual 202, 3) := by decide +kernel
theorem d_1_26_21 : decode prog_1_method_26_code 21 = .ok (.ifCond .eq 11, 3) := by decide +kernel
theorem d_1_26_24 : decode prog_1_method_26_code 24 = .ok (.new 75, 3) := by decide +kernel
theorem d_1_26_27 : decode prog_1_method_26_code 27 = .ok (.dup, 1) := by decide +kernel
theorem d_1_26_28 : decode prog_1_method_26_code 28 = .ok (.invokespecial 77, 3) := by decide +kernel
theorem d_1_26_31 : decode prog_1_method_26_code 31 = .ok (.athrow, 1) := by decide +kernel
theorem d_1_26_32 : decode prog_1_method_26_code 32 = .ok (.aload_n 2, 1) := by decide +kernel
theorem d_1_26_33 : decode prog_1_method_26_code 33 = .ok (.ifnull 15, 3) := by decide +kernel
theorem d_1_26_36 : decode prog_1_method_26_code 36 = .ok (.aload_n 2, 1) := by decide +kernel
theorem d_1_26_37 : decode prog_1_method_26_code 37 = .ok (.getfield 205, 3) := by decide +kernel
theorem d_1_26_40 : decode prog_1_method_26_code 40 = .ok (.invokevirtual 50, 3) := by decide +kernel
theorem d_1_26_43 : decode prog_1_method_26_code 43 = .ok (.bipush 6, 2) := by decide +kernel
theorem d_1_26_45 : decode prog_1_method_26_code 45 = .ok (.if_icmp .lt 11, 3) := by decide +kernel
theorem d_1_26_48 : decode prog_1_method_26_code 48 = .ok (.new 192, 3) := by decide +kernel
theorem d_1_26_51 : decode prog_1_method_26_code 51 = .ok (.dup, 1) := by decide +kernel
theorem d_1_26_52 : decode prog_1_method_26_code 52 = .ok (.invokespecial 194, 3) := by decide +kernel
theorem d_1_26_55 : decode prog_1_method_26_code 55 = .ok (.athrow, 1) := by decide +kernel
theorem d_1_26_56 : decode prog_1_method_26_code 56 = .ok (.aload_n 2, 1) := by decide +kernel
theorem d_1_26_57 : decode prog_1_method_26_code 57 = .ok (.getfield 205, 3) := by decide +kernel
theorem d_1_26_60 : decode prog_1_method_26_code 60 = .ok (.new 57, 3) := by decide +kernel
theorem d_1_26_63 : decode prog_1_method_26_code 63 = .ok (.dup, 1) := by decide +kernel
theorem d_1_26_64 : decode prog_1_method_26_code 64 = .ok (.aload_n 1, 1) := by decide +kernel
theorem d_1_26_65 : decode prog_1_method_26_code 65 = .ok (.invokespecial 135, 3) := by decide +kernel
theorem d_1_26_68 : decode prog_1_method_26_code 68 = .ok (.invokevirtual 138, 3) := by decide +kernel
theorem d_1_26_71 : decode prog_1_method_26_code 71 = .ok (.pop, 1) := by decide +kernel
theorem d_1_26_72 : decode prog_1_method_26_code 72 = .ok (.iconst 2, 1) := by decide +kernel
theorem d_1_26_73 : decode prog_1_method_26_code 73 = .ok (.ireturn, 1) := by decide +kernel
theorem d_1_21_0 : decode prog_1_method_21_code 0 = .ok (.aload_n 0, 1) := by decide +kernel
theorem d_1_21_1 : decode prog_1_method_21_code 1 = .ok (.getfield 19, 3) := by decide +kernel
theorem d_1_21_4 : decode prog_1_method_21_code 4 = .ok (.invokevirtual 152, 3) := by decide +kernel
theorem d_1_21_7 : decode prog_1_method_21_code 7 = .ok (.ifCond .eq 7, 3) := by decide +kernel
theorem d_1_21_10 : decode prog_1_method_21_code 10 = .ok (.aconst_null, 1) := by decide +kernel
theorem d_1_21_11 : decode prog_1_method_21_code 11 = .ok (.goto 22, 3) := by decide +kernel
theorem d_1_21_14 : decode prog_1_method_21_code 14 = .ok (.aload_n 0, 1) := by decide +kernel
theorem d_1_21_15 : decode prog_1_method_21_code 15 = .ok (.getfield 19, 3) := by decide +kernel
theorem d_1_21_18 : decode prog_1_method_21_code 18 = .ok (.aload_n 0, 1) := by decide +kernel
theorem d_1_21_19 : decode prog_1_method_21_code 19 = .ok (.getfield 19, 3) := by decide +kernel
theorem d_1_21_22 : decode prog_1_method_21_code 22 = .ok (.invokevirtual 50, 3) := by decide +kernel
theorem d_1_21_25 : decode prog_1_method_21_code 25 = .ok (.iconst 1, 1) := by decide +kernel
theorem d_1_21_26 : decode prog_1_method_21_code 26 = .ok (.isub, 1) := by decide +kernel
theorem d_1_21_27 : decode prog_1_method_21_code 27 = .ok (.invokevirtual 53, 3) := by decide +kernel
theorem d_1_21_30 : decode prog_1_method_21_code 30 = .ok (.checkcast 98, 3) := by decide +kernel
theorem d_1_21_33 : decode prog_1_method_21_code 33 = .ok (.areturn, 1) := by decide +kernel
theorem d_1_15_0 : decode prog_1_method_15_code 0 = .ok (.iconst 0, 1) := by decide +kernel
theorem d_1_15_1 : decode prog_1_method_15_code 1 = .ok (.istore_n 1, 1) := by decide +kernel
theorem d_1_15_2 : decode prog_1_method_15_code 2 = .ok (.iconst 0, 1) := by decide +kernel
theorem d_1_15_3 : decode prog_1_method_15_code 3 = .ok (.istore_n 2, 1) := by decide +kernel
theorem d_1_15_4 : decode prog_1_method_15_code 4 = .ok (.iconst 0, 1) := by decide +kernel
theorem d_1_15_5 : decode prog_1_method_15_code 5 = .ok (.istore_n 3, 1) := by decide +kernel
theorem d_1_15_6 : decode prog_1_method_15_code 6 = .ok (.iload_n 3, 1) := by decide +kernel
theorem d_1_15_7 : decode prog_1_method_15_code 7 = .ok (.aload_n 0, 1) := by decide +kernel
theorem d_1_15_8 : decode prog_1_method_15_code 8 = .ok (.invokevirtual 124, 3) := by decide +kernel
theorem d_1_15_11 : decode prog_1_method_15_code 11 = .ok (.if_icmp .gt 48, 3) := by decide +kernel
theorem d_1_15_14 : decode prog_1_method_15_code 14 = .ok (.iload_n 3, 1) := by decide +kernel
theorem d_1_15_15 : decode prog_1_method_15_code 15 = .ok (.aload_n 0, 1) := by decide +kernel
theorem d_1_15_16 : decode prog_1_method_15_code 16 = .ok (.invokevirtual 124, 3) := by decide +kernel
theorem d_1_15_19 : decode prog_1_method_15_code 19 = .ok (.if_icmp .eq 13, 3) := by decide +kernel
theorem d_1_15_22 : decode prog_1_method_15_code 22 = .ok (.aload_n 0, 1) := by decide +kernel
theorem d_1_15_23 : decode prog_1_method_15_code 23 = .ok (.iload_n 3, 1) := by decide +kernel
theorem d_1_15_24 : decode prog_1_method_15_code 24 = .ok (.invokevirtual 127, 3) := by decide +kernel
theorem d_1_15_27 : decode prog_1_method_15_code 27 = .ok (.bipush 46, 2) := by decide +kernel
theorem d_1_15_29 : decode prog_1_method_15_code 29 = .ok (.if_icmp .ne 24, 3) := by decide +kernel
theorem d_1_15_32 : decode prog_1_method_15_code 32 = .ok (.aload_n 0, 1) := by decide +kernel
theorem d_1_15_33 : decode prog_1_method_15_code 33 = .ok (.iload_n 2, 1) := by decide +kernel
theorem d_1_15_34 : decode prog_1_method_15_code 34 = .ok (.iload_n 3, 1) := by decide +kernel
theorem d_1_15_35 : decode prog_1_method_15_code 35 = .ok (.invokevirtual 131, 3) := by decide +kernel
theorem d_1_15_38 : decode prog_1_method_15_code 38 = .ok (.invokestatic 142, 3) := by decide +kernel
theorem d_1_15_41 : decode prog_1_method_15_code 41 = .ok (.ifCond .ne 5, 3) := by decide +kernel
theorem d_1_15_44 : decode prog_1_method_15_code 44 = .ok (.iconst 0, 1) := by decide +kernel
theorem d_1_15_45 : decode prog_1_method_15_code 45 = .ok (.ireturn, 1) := by decide +kernel
theorem d_1_15_46 : decode prog_1_method_15_code 46 = .ok (.iinc 1 1, 3) := by decide +kernel
theorem d_1_15_49 : decode prog_1_method_15_code 49 = .ok (.iload_n 3, 1) := by decide +kernel
theorem d_1_15_50 : decode prog_1_method_15_code 50 = .ok (.iconst 1, 1) := by decide +kernel
theorem d_1_15_51 : decode prog_1_method_15_code 51 = .ok (.iadd, 1) := by decide +kernel
theorem d_1_15_52 : decode prog_1_method_15_code 52 = .ok (.istore_n 2, 1) := by decide +kernel
theorem d_1_15_53 : decode prog_1_method_15_code 53 = .ok (.iinc 3 1, 3) := by decide +kernel
theorem d_1_15_56 : decode prog_1_method_15_code 56 = .ok (.goto (-50), 3) := by decide +kernel
theorem d_1_15_59 : decode prog_1_method_15_code 59 = .ok (.iload_n 1, 1) := by decide +kernel
theorem d_1_15_60 : decode prog_1_method_15_code 60 = .ok (.iconst 3, 1) := by decide +kernel
theorem d_1_15_61 : decode prog_1_method_15_code 61 = .ok (.if_icmp .gt 7, 3) := by decide +kernel
theorem d_1_15_64 : decode prog_1_method_15_code 64 = .ok (.iconst 1, 1) := by decide +kernel
theorem d_1_15_65 : decode prog_1_method_15_code 65 = .ok (.goto 4, 3) := by decide +kernel
theorem d_1_15_68 : decode prog_1_method_15_code 68 = .ok (.iconst 0, 1) := by decide +kernel
theorem d_1_15_69 : decode prog_1_method_15_code 69 = .ok (.ireturn, 1) := by decide +kernel
theorem d_1_27_0 : decode prog_1_method_27_code 0 = .ok (.aload_n 1, 1) := by decide +kernel
theorem d_1_27_1 : decode prog_1_method_27_code 1 = .ok (.invokestatic 142, 3) := by decide +kernel
theorem d_1_27_4 : decode prog_1_method_27_code 4 = .ok (.ifCond .eq 11, 3) := by decide +kernel
theorem d_1_27_7 : decode prog_1_method_27_code 7 = .ok (.aload_n 0, 1) := by decide +kernel
theorem d_1_27_8 : decode prog_1_method_27_code 8 = .ok (.aload_n 1, 1) := by decide +kernel
theorem d_1_27_9 : decode prog_1_method_27_code 9 = .ok (.invokevirtual 107, 3) := by decide +kernel
theorem d_1_27_12 : decode prog_1_method_27_code 12 = .ok (.ifnull 11, 3) := by decide +kernel
theorem d_1_27_15 : decode prog_1_method_27_code 15 = .ok (.new 75, 3) := by decide +kernel
theorem d_1_27_18 : decode prog_1_method_27_code 18 = .ok (.dup, 1) := by decide +kernel
theorem d_1_27_19 : decode prog_1_method_27_code 19 = .ok (.invokespecial 77, 3) := by decide +kernel
theorem d_1_27_22 : decode prog_1_method_27_code 22 = .ok (.athrow, 1) := by decide +kernel
theorem d_1_27_23 : decode prog_1_method_27_code 23 = .ok (.aload_n 0, 1) := by decide +kernel
theorem d_1_27_24 : decode prog_1_method_27_code 24 = .ok (.getfield 23, 3) := by decide +kernel
theorem d_1_27_27 : decode prog_1_method_27_code 27 = .ok (.invokevirtual 50, 3) := by decide +kernel
theorem d_1_27_30 : decode prog_1_method_27_code 30 = .ok (.bipush 8, 2) := by decide +kernel
theorem d_1_27_32 : decode prog_1_method_27_code 32 = .ok (.if_icmp .lt 11, 3) := by decide +kernel
theorem d_1_27_35 : decode prog_1_method_27_code 35 = .ok (.new 192, 3) := by decide +kernel
theorem d_1_27_38 : decode prog_1_method_27_code 38 = .ok (.dup, 1) := by decide +kernel
theorem d_1_27_39 : decode prog_1_method_27_code 39 = .ok (.invokespecial 194, 3) := by decide +kernel
theorem d_1_27_42 : decode prog_1_method_27_code 42 = .ok (.athrow, 1) := by decide +kernel
theorem d_1_27_43 : decode prog_1_method_27_code 43 = .ok (.aload_n 0, 1) := by decide +kernel
theorem d_1_27_44 : decode prog_1_method_27_code 44 = .ok (.getfield 23, 3) := by decide +kernel
theorem d_1_27_47 : decode prog_1_method_27_code 47 = .ok (.new 86, 3) := by decide +kernel
theorem d_1_27_50 : decode prog_1_method_27_code 50 = .ok (.dup, 1) := by decide +kernel
theorem d_1_27_51 : decode prog_1_method_27_code 51 = .ok (.aload_n 0, 1) := by decide +kernel
theorem d_1_27_52 : decode prog_1_method_27_code 52 = .ok (.getfield 23, 3) := by decide +kernel
theorem d_1_27_55 : decode prog_1_method_27_code 55 = .ok (.invokevirtual 50, 3) := by decide +kernel
theorem d_1_27_58 : decode prog_1_method_27_code 58 = .ok (.aload_n 1, 1) := by decide +kernel
theorem d_1_27_59 : decode prog_1_method_27_code 59 = .ok (.invokespecial 208, 3) := by decide +kernel
theorem d_1_27_62 : decode prog_1_method_27_code 62 = .ok (.invokevirtual 138, 3) := by decide +kernel
theorem d_1_27_65 : decode prog_1_method_27_code 65 = .ok (.pop, 1) := by decide +kernel
theorem d_1_27_66 : decode prog_1_method_27_code 66 = .ok (.iconst 3, 1) := by decide +kernel
theorem d_1_27_67 : decode prog_1_method_27_code 67 = .ok (.ireturn, 1) := by decide +kernel
theorem d_1_28_0 : decode prog_1_method_28_code 0 = .ok (.aload_n 0, 1) := by decide +kernel
theorem d_1_28_1 : decode prog_1_method_28_code 1 = .ok (.aload_n 1, 1) := by decide +kernel
theorem d_1_28_2 : decode prog_1_method_28_code 2 = .ok (.invokevirtual 188, 3) := by decide +kernel
theorem d_1_28_5 : decode prog_1_method_28_code 5 = .ok (.astore_n 2, 1) := by decide +kernel
theorem d_1_28_6 : decode prog_1_method_28_code 6 = .ok (.aload_n 0, 1) := by decide +kernel
theorem d_1_28_7 : decode prog_1_method_28_code 7 = .ok (.invokevirtual 209, 3) := by decide +kernel
theorem d_1_28_10 : decode prog_1_method_28_code 10 = .ok (.astore_n 3, 1) := by decide +kernel
theorem d_1_28_11 : decode prog_1_method_28_code 11 = .ok (.aload_n 2, 1) := by decide +kernel
theorem d_1_28_12 : decode prog_1_method_28_code 12 = .ok (.ifnull 15, 3) := by decide +kernel
theorem d_1_28_15 : decode prog_1_method_28_code 15 = .ok (.aload_n 3, 1) := by decide +kernel
theorem d_1_28_16 : decode prog_1_method_28_code 16 = .ok (.ifnull 19, 3) := by decide +kernel
theorem d_1_28_19 : decode prog_1_method_28_code 19 = .ok (.aload_n 3, 1) := by decide +kernel
theorem d_1_28_20 : decode prog_1_method_28_code 20 = .ok (.aload_n 2, 1) := by decide +kernel
theorem d_1_28_21 : decode prog_1_method_28_code 21 = .ok (.invokevirtual 213, 3) := by decide +kernel
theorem d_1_28_24 : decode prog_1_method_28_code 24 = .ok (.ifCond .eq 11, 3) := by decide +kernel
theorem d_1_28_27 : decode prog_1_method_28_code 27 = .ok (.new 75, 3) := by decide +kernel
theorem d_1_28_30 : decode prog_1_method_28_code 30 = .ok (.dup, 1) := by decide +kernel
theorem d_1_28_31 : decode prog_1_method_28_code 31 = .ok (.invokespecial 77, 3) := by decide +kernel
theorem d_1_28_34 : decode prog_1_method_28_code 34 = .ok (.athrow, 1) := by decide +kernel
theorem d_1_28_35 : decode prog_1_method_28_code 35 = .ok (.aload_n 3, 1) := by decide +kernel
theorem d_1_28_36 : decode prog_1_method_28_code 36 = .ok (.ifnull 21, 3) := by decide +kernel
theorem d_1_28_39 : decode prog_1_method_28_code 39 = .ok (.aload_n 3, 1) := by decide +kernel
theorem d_1_28_40 : decode prog_1_method_28_code 40 = .ok (.getfield 103, 3) := by decide +kernel
theorem d_1_28_43 : decode prog_1_method_28_code 43 = .ok (.ifCond .ne 14, 3) := by decide +kernel
theorem d_1_28_46 : decode prog_1_method_28_code 46 = .ok (.aload_n 3, 1) := by decide +kernel
theorem d_1_28_47 : decode prog_1_method_28_code 47 = .ok (.getfield 217, 3) := by decide +kernel
theorem d_1_28_50 : decode prog_1_method_28_code 50 = .ok (.invokevirtual 50, 3) := by decide +kernel
theorem d_1_28_53 : decode prog_1_method_28_code 53 = .ok (.iconst 4, 1) := by decide +kernel
theorem d_1_28_54 : decode prog_1_method_28_code 54 = .ok (.if_icmp .lt 11, 3) := by decide +kernel
theorem d_1_28_57 : decode prog_1_method_28_code 57 = .ok (.new 192, 3) := by decide +kernel
theorem d_1_28_60 : decode prog_1_method_28_code 60 = .ok (.dup, 1) := by decide +kernel
theorem d_1_28_61 : decode prog_1_method_28_code 61 = .ok (.invokespecial 194, 3) := by decide +kernel
theorem d_1_28_64 : decode prog_1_method_28_code 64 = .ok (.athrow, 1) := by decide +kernel
theorem d_1_28_65 : decode prog_1_method_28_code 65 = .ok (.aload_n 3, 1) := by decide +kernel
theorem d_1_28_66 : decode prog_1_method_28_code 66 = .ok (.getfield 217, 3) := by decide +kernel
theorem d_1_28_69 : decode prog_1_method_28_code 69 = .ok (.aload_n 2, 1) := by decide +kernel
theorem d_1_28_70 : decode prog_1_method_28_code 70 = .ok (.invokevirtual 138, 3) := by decide +kernel
theorem d_1_28_73 : decode prog_1_method_28_code 73 = .ok (.pop, 1) := by decide +kernel
theorem d_1_28_74 : decode prog_1_method_28_code 74 = .ok (.iconst 4, 1) := by decide +kernel
theorem d_1_28_75 : decode prog_1_method_28_code 75 = .ok (.ireturn, 1) := by decide +kernel
theorem d_1_30_0 : decode prog_1_method_30_code 0 = .ok (.aload_n 0, 1) := by decide +kernel
theorem d_1_30_1 : decode prog_1_method_30_code 1 = .ok (.aload_n 1, 1) := by decide +kernel
theorem d_1_30_2 : decode prog_1_method_30_code 2 = .ok (.invokevirtual 107, 3) := by decide +kernel
theorem d_1_30_5 : decode prog_1_method_30_code 5 = .ok (.astore_n 2, 1) := by decide +kernel
theorem d_1_30_6 : decode prog_1_method_30_code 6 = .ok (.aload_n 0, 1) := by decide +kernel
theorem d_1_30_7 : decode prog_1_method_30_code 7 = .ok (.invokevirtual 209, 3) := by decide +kernel
theorem d_1_30_10 : decode prog_1_method_30_code 10 = .ok (.astore_n 3, 1) := by decide +kernel
theorem d_1_30_11 : decode prog_1_method_30_code 11 = .ok (.aload_n 2, 1) := by decide +kernel
theorem d_1_30_12 : decode prog_1_method_30_code 12 = .ok (.ifnull 8, 3) := by decide +kernel
theorem d_1_30_15 : decode prog_1_method_30_code 15 = .ok (.aload_n 2, 1) := by decide +kernel
theorem d_1_30_16 : decode prog_1_method_30_code 16 = .ok (.aload_n 3, 1) := by decide +kernel
theorem d_1_30_17 : decode prog_1_method_30_code 17 = .ok (.if_acmp .ne 11, 3) := by decide +kernel
theorem d_1_30_20 : decode prog_1_method_30_code 20 = .ok (.new 75, 3) := by decide +kernel
theorem d_1_30_23 : decode prog_1_method_30_code 23 = .ok (.dup, 1) := by decide +kernel
theorem d_1_30_24 : decode prog_1_method_30_code 24 = .ok (.invokespecial 77, 3) := by decide +kernel
theorem d_1_30_27 : decode prog_1_method_30_code 27 = .ok (.athrow, 1) := by decide +kernel
theorem d_1_30_28 : decode prog_1_method_30_code 28 = .ok (.aload_n 3, 1) := by decide +kernel
theorem d_1_30_29 : decode prog_1_method_30_code 29 = .ok (.ifnull 10, 3) := by decide +kernel
theorem d_1_30_32 : decode prog_1_method_30_code 32 = .ok (.aload_n 3, 1) := by decide +kernel
theorem d_1_30_33 : decode prog_1_method_30_code 33 = .ok (.getfield 103, 3) := by decide +kernel
theorem d_1_30_36 : decode prog_1_method_30_code 36 = .ok (.ifCond .eq 11, 3) := by decide +kernel
theorem d_1_30_39 : decode prog_1_method_30_code 39 = .ok (.new 192, 3) := by decide +kernel
theorem d_1_30_42 : decode prog_1_method_30_code 42 = .ok (.dup, 1) := by decide +kernel
theorem d_1_30_43 : decode prog_1_method_30_code 43 = .ok (.invokespecial 194, 3) := by decide +kernel
theorem d_1_30_46 : decode prog_1_method_30_code 46 = .ok (.athrow, 1) := by decide +kernel
theorem d_1_30_47 : decode prog_1_method_30_code 47 = .ok (.aload_n 3, 1) := by decide +kernel
theorem d_1_30_48 : decode prog_1_method_30_code 48 = .ok (.aload_n 2, 1) := by decide +kernel
theorem d_1_30_49 : decode prog_1_method_30_code 49 = .ok (.putfield 232, 3) := by decide +kernel
theorem d_1_30_52 : decode prog_1_method_30_code 52 = .ok (.iconst 4, 1) := by decide +kernel
theorem d_1_30_53 : decode prog_1_method_30_code 53 = .ok (.ireturn, 1) := by decide +kernel
theorem d_1_24_0 : decode prog_1_method_24_code 0 = .ok (.aload_n 1, 1) := by decide +kernel
theorem d_1_24_1 : decode prog_1_method_24_code 1 = .ok (.invokevirtual 50, 3) := by decide +kernel
theorem d_1_24_4 : decode prog_1_method_24_code 4 = .ok (.iconst 4, 1) := by decide +kernel
theorem d_1_24_5 : decode prog_1_method_24_code 5 = .ok (.if_icmp .ne 41, 3) := by decide +kernel
theorem d_1_24_8 : decode prog_1_method_24_code 8 = .ok (.aload_n 1, 1) := by decide +kernel
theorem d_1_24_9 : decode prog_1_method_24_code 9 = .ok (.iconst 0, 1) := by decide +kernel
theorem d_1_24_10 : decode prog_1_method_24_code 10 = .ok (.invokevirtual 53, 3) := by decide +kernel
theorem d_1_24_13 : decode prog_1_method_24_code 13 = .ok (.checkcast 57, 3) := by decide +kernel
theorem d_1_24_16 : decode prog_1_method_24_code 16 = .ok (.getfield 59, 3) := by decide +kernel
theorem d_1_24_19 : decode prog_1_method_24_code 19 = .ok (.ldc 181, 2) := by decide +kernel
theorem d_1_24_21 : decode prog_1_method_24_code 21 = .ok (.invokevirtual 145, 3) := by decide +kernel
theorem d_1_24_24 : decode prog_1_method_24_code 24 = .ok (.ifCond .eq 22, 3) := by decide +kernel
theorem d_1_24_27 : decode prog_1_method_24_code 27 = .ok (.aload_n 1, 1) := by decide +kernel
theorem d_1_24_28 : decode prog_1_method_24_code 28 = .ok (.iconst 2, 1) := by decide +kernel
theorem d_1_24_29 : decode prog_1_method_24_code 29 = .ok (.invokevirtual 53, 3) := by decide +kernel
theorem d_1_24_32 : decode prog_1_method_24_code 32 = .ok (.checkcast 57, 3) := by decide +kernel
theorem d_1_24_35 : decode prog_1_method_24_code 35 = .ok (.getfield 59, 3) := by decide +kernel
theorem d_1_24_38 : decode prog_1_method_24_code 38 = .ok (.ldc 183, 2) := by decide +kernel
theorem d_1_24_40 : decode prog_1_method_24_code 40 = .ok (.invokevirtual 145, 3) := by decide +kernel
theorem d_1_24_43 : decode prog_1_method_24_code 43 = .ok (.ifCond .ne 11, 3) := by decide +kernel
theorem d_1_24_46 : decode prog_1_method_24_code 46 = .ok (.new 75, 3) := by decide +kernel
theorem d_1_24_49 : decode prog_1_method_24_code 49 = .ok (.dup, 1) := by decide +kernel
theorem d_1_24_50 : decode prog_1_method_24_code 50 = .ok (.invokespecial 77, 3) := by decide +kernel
theorem d_1_24_53 : decode prog_1_method_24_code 53 = .ok (.athrow, 1) := by decide +kernel
theorem d_1_24_54 : decode prog_1_method_24_code 54 = .ok (.aload_n 0, 1) := by decide +kernel
theorem d_1_24_55 : decode prog_1_method_24_code 55 = .ok (.aload_n 1, 1) := by decide +kernel
theorem d_1_24_56 : decode prog_1_method_24_code 56 = .ok (.iconst 1, 1) := by decide +kernel
theorem d_1_24_57 : decode prog_1_method_24_code 57 = .ok (.invokevirtual 53, 3) := by decide +kernel
theorem d_1_24_60 : decode prog_1_method_24_code 60 = .ok (.checkcast 57, 3) := by decide +kernel
theorem d_1_24_63 : decode prog_1_method_24_code 63 = .ok (.getfield 59, 3) := by decide +kernel
theorem d_1_24_66 : decode prog_1_method_24_code 66 = .ok (.aload_n 1, 1) := by decide +kernel
theorem d_1_24_67 : decode prog_1_method_24_code 67 = .ok (.iconst 3, 1) := by decide +kernel
theorem d_1_24_68 : decode prog_1_method_24_code 68 = .ok (.invokevirtual 53, 3) := by decide +kernel
theorem d_1_24_71 : decode prog_1_method_24_code 71 = .ok (.checkcast 57, 3) := by decide +kernel
theorem d_1_24_74 : decode prog_1_method_24_code 74 = .ok (.getfield 59, 3) := by decide +kernel
theorem d_1_24_77 : decode prog_1_method_24_code 77 = .ok (.invokevirtual 185, 3) := by decide +kernel
theorem d_1_24_80 : decode prog_1_method_24_code 80 = .ok (.ireturn, 1) := by decide +kernel
theorem d_1_29_0 : decode prog_1_method_29_code 0 = .ok (.aload_n 0, 1) := by decide +kernel
theorem d_1_29_1 : decode prog_1_method_29_code 1 = .ok (.aload_n 2, 1) := by decide +kernel
theorem d_1_29_2 : decode prog_1_method_29_code 2 = .ok (.invokevirtual 107, 3) := by decide +kernel
theorem d_1_29_5 : decode prog_1_method_29_code 5 = .ok (.astore_n 3, 1) := by decide +kernel
theorem d_1_29_6 : decode prog_1_method_29_code 6 = .ok (.aload_n 0, 1) := by decide +kernel
theorem d_1_29_7 : decode prog_1_method_29_code 7 = .ok (.invokevirtual 209, 3) := by decide +kernel
theorem d_1_29_10 : decode prog_1_method_29_code 10 = .ok (.astore 4, 2) := by decide +kernel
theorem d_1_29_12 : decode prog_1_method_29_code 12 = .ok (.aload_n 1, 1) := by decide +kernel
theorem d_1_29_13 : decode prog_1_method_29_code 13 = .ok (.invokestatic 82, 3) := by decide +kernel
theorem d_1_29_16 : decode prog_1_method_29_code 16 = .ok (.ifCond .eq 13, 3) := by decide +kernel
theorem d_1_29_19 : decode prog_1_method_29_code 19 = .ok (.aload_n 3, 1) := by decide +kernel
theorem d_1_29_20 : decode prog_1_method_29_code 20 = .ok (.ifnull 9, 3) := by decide +kernel
theorem d_1_29_23 : decode prog_1_method_29_code 23 = .ok (.aload_n 3, 1) := by decide +kernel
theorem d_1_29_24 : decode prog_1_method_29_code 24 = .ok (.aload 4, 2) := by decide +kernel
theorem d_1_29_26 : decode prog_1_method_29_code 26 = .ok (.if_acmp .ne 11, 3) := by decide +kernel
theorem d_1_29_29 : decode prog_1_method_29_code 29 = .ok (.new 75, 3) := by decide +kernel
theorem d_1_29_32 : decode prog_1_method_29_code 32 = .ok (.dup, 1) := by decide +kernel
theorem d_1_29_33 : decode prog_1_method_29_code 33 = .ok (.invokespecial 77, 3) := by decide +kernel
theorem d_1_29_36 : decode prog_1_method_29_code 36 = .ok (.athrow, 1) := by decide +kernel
theorem d_1_29_37 : decode prog_1_method_29_code 37 = .ok (.aload 4, 2) := by decide +kernel
theorem d_1_29_39 : decode prog_1_method_29_code 39 = .ok (.ifnull 23, 3) := by decide +kernel
theorem d_1_29_42 : decode prog_1_method_29_code 42 = .ok (.aload 4, 2) := by decide +kernel
theorem d_1_29_44 : decode prog_1_method_29_code 44 = .ok (.getfield 103, 3) := by decide +kernel
theorem d_1_29_47 : decode prog_1_method_29_code 47 = .ok (.ifCond .ne 15, 3) := by decide +kernel
theorem d_1_29_50 : decode prog_1_method_29_code 50 = .ok (.aload 4, 2) := by decide +kernel
theorem d_1_29_52 : decode prog_1_method_29_code 52 = .ok (.getfield 220, 3) := by decide +kernel
theorem d_1_29_55 : decode prog_1_method_29_code 55 = .ok (.invokevirtual 50, 3) := by decide +kernel
theorem d_1_29_58 : decode prog_1_method_29_code 58 = .ok (.iconst 4, 1) := by decide +kernel
theorem d_1_29_59 : decode prog_1_method_29_code 59 = .ok (.if_icmp .lt 11, 3) := by decide +kernel
theorem d_1_29_62 : decode prog_1_method_29_code 62 = .ok (.new 192, 3) := by decide +kernel
theorem d_1_29_65 : decode prog_1_method_29_code 65 = .ok (.dup, 1) := by decide +kernel
theorem d_1_29_66 : decode prog_1_method_29_code 66 = .ok (.invokespecial 194, 3) := by decide +kernel
theorem d_1_29_69 : decode prog_1_method_29_code 69 = .ok (.athrow, 1) := by decide +kernel
theorem d_1_29_70 : decode prog_1_method_29_code 70 = .ok (.aload 4, 2) := by decide +kernel
theorem d_1_29_72 : decode prog_1_method_29_code 72 = .ok (.new 223, 3) := by decide +kernel
theorem d_1_29_75 : decode prog_1_method_29_code 75 = .ok (.dup, 1) := by decide +kernel
theorem d_1_29_76 : decode prog_1_method_29_code 76 = .ok (.aload_n 1, 1) := by decide +kernel
theorem d_1_29_77 : decode prog_1_method_29_code 77 = .ok (.aload_n 3, 1) := by decide +kernel
theorem d_1_29_78 : decode prog_1_method_29_code 78 = .ok (.invokespecial 225, 3) := by decide +kernel
theorem d_1_29_81 : decode prog_1_method_29_code 81 = .ok (.invokevirtual 228, 3) := by decide +kernel
theorem d_1_29_84 : decode prog_1_method_29_code 84 = .ok (.iconst 4, 1) := by decide +kernel
theorem d_1_29_85 : decode prog_1_method_29_code 85 = .ok (.ireturn, 1) := by decide +kernel
theorem d_1_4_0 : decode prog_1_method_4_code 0 = .ok (.aload_n 0, 1) := by decide +kernel
theorem d_1_4_1 : decode prog_1_method_4_code 1 = .ok (.invokevirtual 42, 3) := by decide +kernel
theorem d_1_4_4 : decode prog_1_method_4_code 4 = .ok (.astore_n 2, 1) := by decide +kernel
theorem d_1_4_5 : decode prog_1_method_4_code 5 = .ok (.aload_n 0, 1) := by decide +kernel
theorem d_1_4_6 : decode prog_1_method_4_code 6 = .ok (.iload_n 1, 1) := by decide +kernel
theorem d_1_4_7 : decode prog_1_method_4_code 7 = .ok (.invokevirtual 78, 3) := by decide +kernel
theorem d_1_4_10 : decode prog_1_method_4_code 10 = .ok (.ifCond .eq 10, 3) := by decide +kernel
theorem d_1_4_13 : decode prog_1_method_4_code 13 = .ok (.aload_n 2, 1) := by decide +kernel
theorem d_1_4_14 : decode prog_1_method_4_code 14 = .ok (.invokestatic 82, 3) := by decide +kernel
theorem d_1_4_17 : decode prog_1_method_4_code 17 = .ok (.ifCond .ne 11, 3) := by decide +kernel
theorem d_1_4_20 : decode prog_1_method_4_code 20 = .ok (.new 75, 3) := by decide +kernel
theorem d_1_4_23 : decode prog_1_method_4_code 23 = .ok (.dup, 1) := by decide +kernel
theorem d_1_4_24 : decode prog_1_method_4_code 24 = .ok (.invokespecial 77, 3) := by decide +kernel
theorem d_1_4_27 : decode prog_1_method_4_code 27 = .ok (.athrow, 1) := by decide +kernel
theorem d_1_4_28 : decode prog_1_method_4_code 28 = .ok (.aload_n 0, 1) := by decide +kernel
theorem d_1_4_29 : decode prog_1_method_4_code 29 = .ok (.iconst 0, 1) := by decide +kernel
theorem d_1_4_30 : decode prog_1_method_4_code 30 = .ok (.putfield 30, 3) := by decide +kernel
theorem d_1_4_33 : decode prog_1_method_4_code 33 = .ok (.aload_n 0, 1) := by decide +kernel
theorem d_1_4_34 : decode prog_1_method_4_code 34 = .ok (.aload_n 2, 1) := by decide +kernel
theorem d_1_4_35 : decode prog_1_method_4_code 35 = .ok (.aload_n 0, 1) := by decide +kernel
theorem d_1_4_36 : decode prog_1_method_4_code 36 = .ok (.getfield 23, 3) := by decide +kernel
theorem d_1_4_39 : decode prog_1_method_4_code 39 = .ok (.iload_n 1, 1) := by decide +kernel
theorem d_1_4_40 : decode prog_1_method_4_code 40 = .ok (.invokevirtual 53, 3) := by decide +kernel
theorem d_1_4_43 : decode prog_1_method_4_code 43 = .ok (.checkcast 86, 3) := by decide +kernel
theorem d_1_4_46 : decode prog_1_method_4_code 46 = .ok (.iconst 1, 1) := by decide +kernel
theorem d_1_4_47 : decode prog_1_method_4_code 47 = .ok (.invokevirtual 88, 3) := by decide +kernel
theorem d_1_4_50 : decode prog_1_method_4_code 50 = .ok (.istore_n 3, 1) := by decide +kernel
theorem d_1_4_51 : decode prog_1_method_4_code 51 = .ok (.iload_n 3, 1) := by decide +kernel
theorem d_1_4_52 : decode prog_1_method_4_code 52 = .ok (.iconst (-1), 1) := by decide +kernel
theorem d_1_4_53 : decode prog_1_method_4_code 53 = .ok (.if_icmp .ne 11, 3) := by decide +kernel
theorem d_1_4_56 : decode prog_1_method_4_code 56 = .ok (.new 92, 3) := by decide +kernel
theorem d_1_4_59 : decode prog_1_method_4_code 59 = .ok (.dup, 1) := by decide +kernel
theorem d_1_4_60 : decode prog_1_method_4_code 60 = .ok (.invokespecial 94, 3) := by decide +kernel
theorem d_1_4_63 : decode prog_1_method_4_code 63 = .ok (.athrow, 1) := by decide +kernel
theorem d_1_4_64 : decode prog_1_method_4_code 64 = .ok (.iload_n 3, 1) := by decide +kernel
theorem d_1_4_65 : decode prog_1_method_4_code 65 = .ok (.ireturn, 1) := by decide +kernel
theorem d_1_32_0 : decode prog_1_method_32_code 0 = .ok (.aload_n 2, 1) := by decide +kernel
theorem d_1_32_1 : decode prog_1_method_32_code 1 = .ok (.aload_n 1, 1) := by decide +kernel
theorem d_1_32_2 : decode prog_1_method_32_code 2 = .ok (.invokevirtual 242, 3) := by decide +kernel
theorem d_1_32_5 : decode prog_1_method_32_code 5 = .ok (.istore 4, 2) := by decide +kernel
theorem d_1_32_7 : decode prog_1_method_32_code 7 = .ok (.iload 4, 2) := by decide +kernel
theorem d_1_32_9 : decode prog_1_method_32_code 9 = .ok (.iconst (-1), 1) := by decide +kernel
theorem d_1_32_10 : decode prog_1_method_32_code 10 = .ok (.if_icmp .eq 6, 3) := by decide +kernel
theorem d_1_32_13 : decode prog_1_method_32_code 13 = .ok (.iload 4, 2) := by decide +kernel
theorem d_1_32_15 : decode prog_1_method_32_code 15 = .ok (.ireturn, 1) := by decide +kernel
theorem d_1_32_16 : decode prog_1_method_32_code 16 = .ok (.aload_n 0, 1) := by decide +kernel
theorem d_1_32_17 : decode prog_1_method_32_code 17 = .ok (.aload_n 2, 1) := by decide +kernel
theorem d_1_32_18 : decode prog_1_method_32_code 18 = .ok (.invokevirtual 245, 3) := by decide +kernel
theorem d_1_32_21 : decode prog_1_method_32_code 21 = .ok (.aload_n 2, 1) := by decide +kernel
theorem d_1_32_22 : decode prog_1_method_32_code 22 = .ok (.iconst 1, 1) := by decide +kernel
theorem d_1_32_23 : decode prog_1_method_32_code 23 = .ok (.putfield 249, 3) := by decide +kernel
theorem d_1_32_26 : decode prog_1_method_32_code 26 = .ok (.aload_n 0, 1) := by decide +kernel
theorem d_1_32_27 : decode prog_1_method_32_code 27 = .ok (.aload_n 1, 1) := by decide +kernel
theorem d_1_32_28 : decode prog_1_method_32_code 28 = .ok (.aload_n 2, 1) := by decide +kernel
theorem d_1_32_29 : decode prog_1_method_32_code 29 = .ok (.iload_n 3, 1) := by decide +kernel
theorem d_1_32_30 : decode prog_1_method_32_code 30 = .ok (.invokevirtual 252, 3) := by decide +kernel
theorem d_1_32_33 : decode prog_1_method_32_code 33 = .ok (.istore 4, 2) := by decide +kernel
theorem d_1_32_35 : decode prog_1_method_32_code 35 = .ok (.aload_n 2, 1) := by decide +kernel
theorem d_1_32_36 : decode prog_1_method_32_code 36 = .ok (.iconst 0, 1) := by decide +kernel
theorem d_1_32_37 : decode prog_1_method_32_code 37 = .ok (.putfield 249, 3) := by decide +kernel
theorem d_1_32_40 : decode prog_1_method_32_code 40 = .ok (.iload 4, 2) := by decide +kernel
theorem d_1_32_42 : decode prog_1_method_32_code 42 = .ok (.iconst (-1), 1) := by decide +kernel
theorem d_1_32_43 : decode prog_1_method_32_code 43 = .ok (.if_icmp .eq 21, 3) := by decide +kernel
theorem d_1_32_46 : decode prog_1_method_32_code 46 = .ok (.aload_n 2, 1) := by decide +kernel
theorem d_1_32_47 : decode prog_1_method_32_code 47 = .ok (.getfield 95, 3) := by decide +kernel
theorem d_1_32_50 : decode prog_1_method_32_code 50 = .ok (.new 255, 3) := by decide +kernel
theorem d_1_32_53 : decode prog_1_method_32_code 53 = .ok (.dup, 1) := by decide +kernel
theorem d_1_32_54 : decode prog_1_method_32_code 54 = .ok (.aload_n 1, 1) := by decide +kernel
theorem d_1_32_55 : decode prog_1_method_32_code 55 = .ok (.iload 4, 2) := by decide +kernel
theorem d_1_32_57 : decode prog_1_method_32_code 57 = .ok (.invokespecial 257, 3) := by decide +kernel
theorem d_1_32_60 : decode prog_1_method_32_code 60 = .ok (.invokevirtual 138, 3) := by decide +kernel
theorem d_1_32_63 : decode prog_1_method_32_code 63 = .ok (.pop, 1) := by decide +kernel
theorem d_1_32_64 : decode prog_1_method_32_code 64 = .ok (.iload 4, 2) := by decide +kernel
theorem d_1_32_66 : decode prog_1_method_32_code 66 = .ok (.ireturn, 1) := by decide +kernel
theorem d_1_37_0 : decode prog_1_method_37_code 0 = .ok (.aload_n 0, 1) := by decide +kernel
theorem d_1_37_1 : decode prog_1_method_37_code 1 = .ok (.getfield 30, 3) := by decide +kernel
theorem d_1_37_4 : decode prog_1_method_37_code 4 = .ok (.bipush 20, 2) := by decide +kernel
theorem d_1_37_6 : decode prog_1_method_37_code 6 = .ok (.if_icmp .ge 16, 3) := by decide +kernel
theorem d_1_37_9 : decode prog_1_method_37_code 9 = .ok (.aload_n 0, 1) := by decide +kernel
theorem d_1_37_10 : decode prog_1_method_37_code 10 = .ok (.getfield 26, 3) := by decide +kernel
theorem d_1_37_13 : decode prog_1_method_37_code 13 = .ok (.aload_n 0, 1) := by decide +kernel
theorem d_1_37_14 : decode prog_1_method_37_code 14 = .ok (.getfield 30, 3) := by decide +kernel
theorem d_1_37_17 : decode prog_1_method_37_code 17 = .ok (.aload_n 1, 1) := by decide +kernel
theorem d_1_37_18 : decode prog_1_method_37_code 18 = .ok (.getfield 111, 3) := by decide +kernel
theorem d_1_37_21 : decode prog_1_method_37_code 21 = .ok (.iastore, 1) := by decide +kernel
theorem d_1_37_22 : decode prog_1_method_37_code 22 = .ok (.aload_n 0, 1) := by decide +kernel
theorem d_1_37_23 : decode prog_1_method_37_code 23 = .ok (.dup, 1) := by decide +kernel
theorem d_1_37_24 : decode prog_1_method_37_code 24 = .ok (.getfield 30, 3) := by decide +kernel
theorem d_1_37_27 : decode prog_1_method_37_code 27 = .ok (.iconst 1, 1) := by decide +kernel
theorem d_1_37_28 : decode prog_1_method_37_code 28 = .ok (.iadd, 1) := by decide +kernel
theorem d_1_37_29 : decode prog_1_method_37_code 29 = .ok (.putfield 30, 3) := by decide +kernel
theorem d_1_37_32 : decode prog_1_method_37_code 32 = .ok (.return_, 1) := by decide +kernel
theorem d_1_33_0 : decode prog_1_method_33_code 0 = .ok (.aload_n 0, 1) := by decide +kernel
theorem d_1_33_1 : decode prog_1_method_33_code 1 = .ok (.aload_n 1, 1) := by decide +kernel
theorem d_1_33_2 : decode prog_1_method_33_code 2 = .ok (.aload_n 2, 1) := by decide +kernel
theorem d_1_33_3 : decode prog_1_method_33_code 3 = .ok (.invokevirtual 260, 3) := by decide +kernel
theorem d_1_33_6 : decode prog_1_method_33_code 6 = .ok (.istore 4, 2) := by decide +kernel
theorem d_1_33_8 : decode prog_1_method_33_code 8 = .ok (.iload 4, 2) := by decide +kernel
theorem d_1_33_10 : decode prog_1_method_33_code 10 = .ok (.iconst (-1), 1) := by decide +kernel
theorem d_1_33_11 : decode prog_1_method_33_code 11 = .ok (.if_icmp .ne 27, 3) := by decide +kernel
theorem d_1_33_14 : decode prog_1_method_33_code 14 = .ok (.aload_n 2, 1) := by decide +kernel
theorem d_1_33_15 : decode prog_1_method_33_code 15 = .ok (.getfield 239, 3) := by decide +kernel
theorem d_1_33_18 : decode prog_1_method_33_code 18 = .ok (.ifCond .eq 13, 3) := by decide +kernel
theorem d_1_33_21 : decode prog_1_method_33_code 21 = .ok (.aload_n 0, 1) := by decide +kernel
theorem d_1_33_22 : decode prog_1_method_33_code 22 = .ok (.aload_n 1, 1) := by decide +kernel
theorem d_1_33_23 : decode prog_1_method_33_code 23 = .ok (.aload_n 2, 1) := by decide +kernel
theorem d_1_33_24 : decode prog_1_method_33_code 24 = .ok (.iload_n 3, 1) := by decide +kernel
theorem d_1_33_25 : decode prog_1_method_33_code 25 = .ok (.invokevirtual 264, 3) := by decide +kernel
theorem d_1_33_28 : decode prog_1_method_33_code 28 = .ok (.goto 8, 3) := by decide +kernel
theorem d_1_33_31 : decode prog_1_method_33_code 31 = .ok (.aload_n 1, 1) := by decide +kernel
theorem d_1_33_32 : decode prog_1_method_33_code 32 = .ok (.aload_n 2, 1) := by decide +kernel
theorem d_1_33_33 : decode prog_1_method_33_code 33 = .ok (.invokestatic 267, 3) := by decide +kernel
theorem d_1_33_36 : decode prog_1_method_33_code 36 = .ok (.istore 4, 2) := by decide +kernel
theorem d_1_33_38 : decode prog_1_method_33_code 38 = .ok (.iload 4, 2) := by decide +kernel
theorem d_1_33_40 : decode prog_1_method_33_code 40 = .ok (.iconst (-1), 1) := by decide +kernel
theorem d_1_33_41 : decode prog_1_method_33_code 41 = .ok (.if_icmp .ne 27, 3) := by decide +kernel
theorem d_1_33_44 : decode prog_1_method_33_code 44 = .ok (.aload_n 2, 1) := by decide +kernel
theorem d_1_33_45 : decode prog_1_method_33_code 45 = .ok (.getfield 239, 3) := by decide +kernel
theorem d_1_33_48 : decode prog_1_method_33_code 48 = .ok (.ifCond .eq 11, 3) := by decide +kernel
theorem d_1_33_51 : decode prog_1_method_33_code 51 = .ok (.aload_n 1, 1) := by decide +kernel
theorem d_1_33_52 : decode prog_1_method_33_code 52 = .ok (.aload_n 2, 1) := by decide +kernel
theorem d_1_33_53 : decode prog_1_method_33_code 53 = .ok (.invokestatic 267, 3) := by decide +kernel
theorem d_1_33_56 : decode prog_1_method_33_code 56 = .ok (.goto 10, 3) := by decide +kernel
theorem d_1_33_59 : decode prog_1_method_33_code 59 = .ok (.aload_n 0, 1) := by decide +kernel
theorem d_1_33_60 : decode prog_1_method_33_code 60 = .ok (.aload_n 1, 1) := by decide +kernel
theorem d_1_33_61 : decode prog_1_method_33_code 61 = .ok (.aload_n 2, 1) := by decide +kernel
theorem d_1_33_62 : decode prog_1_method_33_code 62 = .ok (.iload_n 3, 1) := by decide +kernel
theorem d_1_33_63 : decode prog_1_method_33_code 63 = .ok (.invokevirtual 264, 3) := by decide +kernel
theorem d_1_33_66 : decode prog_1_method_33_code 66 = .ok (.istore 4, 2) := by decide +kernel
theorem d_1_33_68 : decode prog_1_method_33_code 68 = .ok (.iload 4, 2) := by decide +kernel
theorem d_1_33_70 : decode prog_1_method_33_code 70 = .ok (.ireturn, 1) := by decide +kernel
theorem d_1_34_0 : decode prog_1_method_34_code 0 = .ok (.iconst 0, 1) := by decide +kernel
theorem d_1_34_1 : decode prog_1_method_34_code 1 = .ok (.istore_n 3, 1) := by decide +kernel
theorem d_1_34_2 : decode prog_1_method_34_code 2 = .ok (.iload_n 3, 1) := by decide +kernel
theorem d_1_34_3 : decode prog_1_method_34_code 3 = .ok (.aload_n 2, 1) := by decide +kernel
theorem d_1_34_4 : decode prog_1_method_34_code 4 = .ok (.getfield 220, 3) := by decide +kernel
theorem d_1_34_7 : decode prog_1_method_34_code 7 = .ok (.invokevirtual 50, 3) := by decide +kernel
theorem d_1_34_10 : decode prog_1_method_34_code 10 = .ok (.if_icmp .ge 74, 3) := by decide +kernel
theorem d_1_34_13 : decode prog_1_method_34_code 13 = .ok (.aload_n 2, 1) := by decide +kernel
theorem d_1_34_14 : decode prog_1_method_34_code 14 = .ok (.getfield 220, 3) := by decide +kernel
theorem d_1_34_17 : decode prog_1_method_34_code 17 = .ok (.iload_n 3, 1) := by decide +kernel
theorem d_1_34_18 : decode prog_1_method_34_code 18 = .ok (.invokevirtual 53, 3) := by decide +kernel
theorem d_1_34_21 : decode prog_1_method_34_code 21 = .ok (.checkcast 223, 3) := by decide +kernel
theorem d_1_34_24 : decode prog_1_method_34_code 24 = .ok (.astore 4, 2) := by decide +kernel
theorem d_1_34_26 : decode prog_1_method_34_code 26 = .ok (.aload 4, 2) := by decide +kernel
theorem d_1_34_28 : decode prog_1_method_34_code 28 = .ok (.getfield 270, 3) := by decide +kernel
theorem d_1_34_31 : decode prog_1_method_34_code 31 = .ok (.getfield 103, 3) := by decide +kernel
theorem d_1_34_34 : decode prog_1_method_34_code 34 = .ok (.ifCond .ne 44, 3) := by decide +kernel
theorem d_1_34_37 : decode prog_1_method_34_code 37 = .ok (.aload_n 1, 1) := by decide +kernel
theorem d_1_34_38 : decode prog_1_method_34_code 38 = .ok (.aload 4, 2) := by decide +kernel
theorem d_1_34_40 : decode prog_1_method_34_code 40 = .ok (.getfield 273, 3) := by decide +kernel
theorem d_1_34_43 : decode prog_1_method_34_code 43 = .ok (.invokestatic 276, 3) := by decide +kernel
theorem d_1_34_46 : decode prog_1_method_34_code 46 = .ok (.ifCond .eq 32, 3) := by decide +kernel
theorem d_1_34_49 : decode prog_1_method_34_code 49 = .ok (.aload_n 0, 1) := by decide +kernel
theorem d_1_34_50 : decode prog_1_method_34_code 50 = .ok (.aload 4, 2) := by decide +kernel
theorem d_1_34_52 : decode prog_1_method_34_code 52 = .ok (.getfield 270, 3) := by decide +kernel
theorem d_1_34_55 : decode prog_1_method_34_code 55 = .ok (.invokevirtual 245, 3) := by decide +kernel
theorem d_1_34_58 : decode prog_1_method_34_code 58 = .ok (.aload_n 1, 1) := by decide +kernel
theorem d_1_34_59 : decode prog_1_method_34_code 59 = .ok (.aload 4, 2) := by decide +kernel
theorem d_1_34_61 : decode prog_1_method_34_code 61 = .ok (.getfield 270, 3) := by decide +kernel
theorem d_1_34_64 : decode prog_1_method_34_code 64 = .ok (.invokestatic 267, 3) := by decide +kernel
theorem d_1_34_67 : decode prog_1_method_34_code 67 = .ok (.istore 5, 2) := by decide +kernel
theorem d_1_34_69 : decode prog_1_method_34_code 69 = .ok (.iload 5, 2) := by decide +kernel
theorem d_1_34_71 : decode prog_1_method_34_code 71 = .ok (.iconst (-1), 1) := by decide +kernel
theorem d_1_34_72 : decode prog_1_method_34_code 72 = .ok (.if_icmp .eq 6, 3) := by decide +kernel
theorem d_1_34_75 : decode prog_1_method_34_code 75 = .ok (.iload 5, 2) := by decide +kernel
theorem d_1_34_77 : decode prog_1_method_34_code 77 = .ok (.ireturn, 1) := by decide +kernel
theorem d_1_34_78 : decode prog_1_method_34_code 78 = .ok (.iinc 3 1, 3) := by decide +kernel
theorem d_1_34_81 : decode prog_1_method_34_code 81 = .ok (.goto (-79), 3) := by decide +kernel
theorem d_1_34_84 : decode prog_1_method_34_code 84 = .ok (.iconst (-1), 1) := by decide +kernel
theorem d_1_34_85 : decode prog_1_method_34_code 85 = .ok (.ireturn, 1) := by decide +kernel
theorem d_1_16_0 : decode prog_1_method_16_code 0 = .ok (.aload_n 1, 1) := by decide +kernel
theorem d_1_16_1 : decode prog_1_method_16_code 1 = .ok (.invokevirtual 124, 3) := by decide +kernel
theorem d_1_16_4 : decode prog_1_method_16_code 4 = .ok (.istore_n 2, 1) := by decide +kernel
theorem d_1_16_5 : decode prog_1_method_16_code 5 = .ok (.aload_n 0, 1) := by decide +kernel
theorem d_1_16_6 : decode prog_1_method_16_code 6 = .ok (.invokevirtual 124, 3) := by decide +kernel
theorem d_1_16_9 : decode prog_1_method_16_code 9 = .ok (.iload_n 2, 1) := by decide +kernel
theorem d_1_16_10 : decode prog_1_method_16_code 10 = .ok (.if_icmp .lt 16, 3) := by decide +kernel
theorem d_1_16_13 : decode prog_1_method_16_code 13 = .ok (.aload_n 0, 1) := by decide +kernel
theorem d_1_16_14 : decode prog_1_method_16_code 14 = .ok (.iconst 0, 1) := by decide +kernel
theorem d_1_16_15 : decode prog_1_method_16_code 15 = .ok (.iload_n 2, 1) := by decide +kernel
theorem d_1_16_16 : decode prog_1_method_16_code 16 = .ok (.invokevirtual 131, 3) := by decide +kernel
theorem d_1_16_19 : decode prog_1_method_16_code 19 = .ok (.aload_n 1, 1) := by decide +kernel
theorem d_1_16_20 : decode prog_1_method_16_code 20 = .ok (.invokevirtual 145, 3) := by decide +kernel
theorem d_1_16_23 : decode prog_1_method_16_code 23 = .ok (.ifCond .ne 5, 3) := by decide +kernel
theorem d_1_16_26 : decode prog_1_method_16_code 26 = .ok (.iconst 0, 1) := by decide +kernel
theorem d_1_16_27 : decode prog_1_method_16_code 27 = .ok (.ireturn, 1) := by decide +kernel
theorem d_1_16_28 : decode prog_1_method_16_code 28 = .ok (.aload_n 0, 1) := by decide +kernel
theorem d_1_16_29 : decode prog_1_method_16_code 29 = .ok (.invokevirtual 124, 3) := by decide +kernel
theorem d_1_16_32 : decode prog_1_method_16_code 32 = .ok (.iload_n 2, 1) := by decide +kernel
theorem d_1_16_33 : decode prog_1_method_16_code 33 = .ok (.if_icmp .eq 13, 3) := by decide +kernel
theorem d_1_16_36 : decode prog_1_method_16_code 36 = .ok (.aload_n 0, 1) := by decide +kernel
theorem d_1_16_37 : decode prog_1_method_16_code 37 = .ok (.iload_n 2, 1) := by decide +kernel
theorem d_1_16_38 : decode prog_1_method_16_code 38 = .ok (.invokevirtual 127, 3) := by decide +kernel
theorem d_1_16_41 : decode prog_1_method_16_code 41 = .ok (.bipush 46, 2) := by decide +kernel
theorem d_1_16_43 : decode prog_1_method_16_code 43 = .ok (.if_icmp .ne 7, 3) := by decide +kernel
theorem d_1_16_46 : decode prog_1_method_16_code 46 = .ok (.iconst 1, 1) := by decide +kernel
theorem d_1_16_47 : decode prog_1_method_16_code 47 = .ok (.goto 4, 3) := by decide +kernel
theorem d_1_16_50 : decode prog_1_method_16_code 50 = .ok (.iconst 0, 1) := by decide +kernel
theorem d_1_16_51 : decode prog_1_method_16_code 51 = .ok (.ireturn, 1) := by decide +kernel
theorem d_1_35_0 : decode prog_1_method_35_code 0 = .ok (.iconst 0, 1) := by decide +kernel
theorem d_1_35_1 : decode prog_1_method_35_code 1 = .ok (.istore_n 2, 1) := by decide +kernel
theorem d_1_35_2 : decode prog_1_method_35_code 2 = .ok (.iload_n 2, 1) := by decide +kernel
theorem d_1_35_3 : decode prog_1_method_35_code 3 = .ok (.aload_n 1, 1) := by decide +kernel
theorem d_1_35_4 : decode prog_1_method_35_code 4 = .ok (.getfield 217, 3) := by decide +kernel
theorem d_1_35_7 : decode prog_1_method_35_code 7 = .ok (.invokevirtual 50, 3) := by decide +kernel
theorem d_1_35_10 : decode prog_1_method_35_code 10 = .ok (.if_icmp .ge 52, 3) := by decide +kernel
theorem d_1_35_13 : decode prog_1_method_35_code 13 = .ok (.aload_n 1, 1) := by decide +kernel
theorem d_1_35_14 : decode prog_1_method_35_code 14 = .ok (.getfield 217, 3) := by decide +kernel
theorem d_1_35_17 : decode prog_1_method_35_code 17 = .ok (.iload_n 2, 1) := by decide +kernel
theorem d_1_35_18 : decode prog_1_method_35_code 18 = .ok (.invokevirtual 53, 3) := by decide +kernel
theorem d_1_35_21 : decode prog_1_method_35_code 21 = .ok (.checkcast 98, 3) := by decide +kernel
theorem d_1_35_24 : decode prog_1_method_35_code 24 = .ok (.astore_n 3, 1) := by decide +kernel
theorem d_1_35_25 : decode prog_1_method_35_code 25 = .ok (.aload_n 3, 1) := by decide +kernel
theorem d_1_35_26 : decode prog_1_method_35_code 26 = .ok (.aload_n 0, 1) := by decide +kernel
theorem d_1_35_27 : decode prog_1_method_35_code 27 = .ok (.invokevirtual 202, 3) := by decide +kernel
theorem d_1_35_30 : decode prog_1_method_35_code 30 = .ok (.ifCond .eq 26, 3) := by decide +kernel
theorem d_1_35_33 : decode prog_1_method_35_code 33 = .ok (.aload_n 3, 1) := by decide +kernel
theorem d_1_35_34 : decode prog_1_method_35_code 34 = .ok (.dup, 1) := by decide +kernel
theorem d_1_35_35 : decode prog_1_method_35_code 35 = .ok (.getfield 100, 3) := by decide +kernel
theorem d_1_35_38 : decode prog_1_method_35_code 38 = .ok (.iconst 1, 1) := by decide +kernel
theorem d_1_35_39 : decode prog_1_method_35_code 39 = .ok (.iadd, 1) := by decide +kernel
theorem d_1_35_40 : decode prog_1_method_35_code 40 = .ok (.putfield 100, 3) := by decide +kernel
theorem d_1_35_43 : decode prog_1_method_35_code 43 = .ok (.bipush 16, 2) := by decide +kernel
theorem d_1_35_45 : decode prog_1_method_35_code 45 = .ok (.aload_n 1, 1) := by decide +kernel
theorem d_1_35_46 : decode prog_1_method_35_code 46 = .ok (.getfield 111, 3) := by decide +kernel
theorem d_1_35_49 : decode prog_1_method_35_code 49 = .ok (.imul, 1) := by decide +kernel
theorem d_1_35_50 : decode prog_1_method_35_code 50 = .ok (.aload_n 3, 1) := by decide +kernel
theorem d_1_35_51 : decode prog_1_method_35_code 51 = .ok (.getfield 280, 3) := by decide +kernel
theorem d_1_35_54 : decode prog_1_method_35_code 54 = .ok (.iadd, 1) := by decide +kernel
theorem d_1_35_55 : decode prog_1_method_35_code 55 = .ok (.ireturn, 1) := by decide +kernel
theorem d_1_35_56 : decode prog_1_method_35_code 56 = .ok (.iinc 2 1, 3) := by decide +kernel
theorem d_1_35_59 : decode prog_1_method_35_code 59 = .ok (.goto (-57), 3) := by decide +kernel
theorem d_1_35_62 : decode prog_1_method_35_code 62 = .ok (.iconst (-1), 1) := by decide +kernel
theorem d_1_35_63 : decode prog_1_method_35_code 63 = .ok (.ireturn, 1) := by decide +kernel
theorem d_1_36_0 : decode prog_1_method_36_code 0 = .ok (.aload_n 2, 1) := by decide +kernel
theorem d_1_36_1 : decode prog_1_method_36_code 1 = .ok (.getfield 232, 3) := by decide +kernel
theorem d_1_36_4 : decode prog_1_method_36_code 4 = .ok (.astore 4, 2) := by decide +kernel
theorem d_1_36_6 : decode prog_1_method_36_code 6 = .ok (.aload 4, 2) := by decide +kernel
theorem d_1_36_8 : decode prog_1_method_36_code 8 = .ok (.ifnull 25, 3) := by decide +kernel
theorem d_1_36_11 : decode prog_1_method_36_code 11 = .ok (.aload 4, 2) := by decide +kernel
theorem d_1_36_13 : decode prog_1_method_36_code 13 = .ok (.getfield 103, 3) := by decide +kernel
theorem d_1_36_16 : decode prog_1_method_36_code 16 = .ok (.ifCond .ne 17, 3) := by decide +kernel
theorem d_1_36_19 : decode prog_1_method_36_code 19 = .ok (.aload 4, 2) := by decide +kernel
theorem d_1_36_21 : decode prog_1_method_36_code 21 = .ok (.getfield 249, 3) := by decide +kernel
theorem d_1_36_24 : decode prog_1_method_36_code 24 = .ok (.ifCond .ne 9, 3) := by decide +kernel
theorem d_1_36_27 : decode prog_1_method_36_code 27 = .ok (.iload_n 3, 1) := by decide +kernel
theorem d_1_36_28 : decode prog_1_method_36_code 28 = .ok (.bipush 8, 2) := by decide +kernel
theorem d_1_36_30 : decode prog_1_method_36_code 30 = .ok (.if_icmp .lt 5, 3) := by decide +kernel
theorem d_1_36_33 : decode prog_1_method_36_code 33 = .ok (.iconst (-1), 1) := by decide +kernel
theorem d_1_36_34 : decode prog_1_method_36_code 34 = .ok (.ireturn, 1) := by decide +kernel
theorem d_1_36_35 : decode prog_1_method_36_code 35 = .ok (.aload_n 0, 1) := by decide +kernel
theorem d_1_36_36 : decode prog_1_method_36_code 36 = .ok (.aload_n 1, 1) := by decide +kernel
theorem d_1_36_37 : decode prog_1_method_36_code 37 = .ok (.aload 4, 2) := by decide +kernel
theorem d_1_36_39 : decode prog_1_method_36_code 39 = .ok (.iload_n 3, 1) := by decide +kernel
theorem d_1_36_40 : decode prog_1_method_36_code 40 = .ok (.iconst 1, 1) := by decide +kernel
theorem d_1_36_41 : decode prog_1_method_36_code 41 = .ok (.iadd, 1) := by decide +kernel
theorem d_1_36_42 : decode prog_1_method_36_code 42 = .ok (.invokevirtual 88, 3) := by decide +kernel
theorem d_1_36_45 : decode prog_1_method_36_code 45 = .ok (.ireturn, 1) := by decide +kernel
theorem d_6_1_0 : decode prog_6_method_1_code 0 = .ok (.aload_n 0, 1) := by decide +kernel
theorem d_6_1_1 : decode prog_6_method_1_code 1 = .ok (.invokespecial 1, 3) := by decide +kernel
theorem d_6_1_4 : decode prog_6_method_1_code 4 = .ok (.aload_n 0, 1) := by decide +kernel
theorem d_6_1_5 : decode prog_6_method_1_code 5 = .ok (.aload_n 1, 1) := by decide +kernel
theorem d_6_1_6 : decode prog_6_method_1_code 6 = .ok (.putfield 7, 3) := by decide +kernel
theorem d_6_1_9 : decode prog_6_method_1_code 9 = .ok (.return_, 1) := by decide +kernel
theorem d_2_1_0 : decode prog_2_method_1_code 0 = .ok (.aload_n 0, 1) := by decide +kernel
theorem d_2_1_1 : decode prog_2_method_1_code 1 = .ok (.invokespecial 1, 3) := by decide +kernel
theorem d_2_1_4 : decode prog_2_method_1_code 4 = .ok (.aload_n 0, 1) := by decide +kernel
theorem d_2_1_5 : decode prog_2_method_1_code 5 = .ok (.iload_n 1, 1) := by decide +kernel
theorem d_2_1_6 : decode prog_2_method_1_code 6 = .ok (.putfield 7, 3) := by decide +kernel
theorem d_2_1_9 : decode prog_2_method_1_code 9 = .ok (.aload_n 0, 1) := by decide +kernel
theorem d_2_1_10 : decode prog_2_method_1_code 10 = .ok (.aload_n 2, 1) := by decide +kernel
theorem d_2_1_11 : decode prog_2_method_1_code 11 = .ok (.putfield 13, 3) := by decide +kernel
theorem d_2_1_14 : decode prog_2_method_1_code 14 = .ok (.aload_n 0, 1) := by decide +kernel
theorem d_2_1_15 : decode prog_2_method_1_code 15 = .ok (.new 17, 3) := by decide +kernel
theorem d_2_1_18 : decode prog_2_method_1_code 18 = .ok (.dup, 1) := by decide +kernel
theorem d_2_1_19 : decode prog_2_method_1_code 19 = .ok (.invokespecial 19, 3) := by decide +kernel
theorem d_2_1_22 : decode prog_2_method_1_code 22 = .ok (.putfield 20, 3) := by decide +kernel
theorem d_2_1_25 : decode prog_2_method_1_code 25 = .ok (.aload_n 0, 1) := by decide +kernel
theorem d_2_1_26 : decode prog_2_method_1_code 26 = .ok (.iconst 0, 1) := by decide +kernel
theorem d_2_1_27 : decode prog_2_method_1_code 27 = .ok (.putfield 24, 3) := by decide +kernel
theorem d_2_1_30 : decode prog_2_method_1_code 30 = .ok (.return_, 1) := by decide +kernel
theorem d_2_2_0 : decode prog_2_method_2_code 0 = .ok (.iconst 0, 1) := by decide +kernel
theorem d_2_2_1 : decode prog_2_method_2_code 1 = .ok (.istore_n 2, 1) := by decide +kernel
theorem d_2_2_2 : decode prog_2_method_2_code 2 = .ok (.iload_n 2, 1) := by decide +kernel
theorem d_2_2_3 : decode prog_2_method_2_code 3 = .ok (.aload_n 0, 1) := by decide +kernel
theorem d_2_2_4 : decode prog_2_method_2_code 4 = .ok (.getfield 20, 3) := by decide +kernel
theorem d_2_2_7 : decode prog_2_method_2_code 7 = .ok (.invokevirtual 27, 3) := by decide +kernel
theorem d_2_2_10 : decode prog_2_method_2_code 10 = .ok (.if_icmp .ge 32, 3) := by decide +kernel
theorem d_2_2_13 : decode prog_2_method_2_code 13 = .ok (.aload_n 0, 1) := by decide +kernel
theorem d_2_2_14 : decode prog_2_method_2_code 14 = .ok (.getfield 20, 3) := by decide +kernel
theorem d_2_2_17 : decode prog_2_method_2_code 17 = .ok (.iload_n 2, 1) := by decide +kernel
theorem d_2_2_18 : decode prog_2_method_2_code 18 = .ok (.invokevirtual 31, 3) := by decide +kernel
theorem d_2_2_21 : decode prog_2_method_2_code 21 = .ok (.checkcast 35, 3) := by decide +kernel
theorem d_2_2_24 : decode prog_2_method_2_code 24 = .ok (.getfield 37, 3) := by decide +kernel
theorem d_2_2_27 : decode prog_2_method_2_code 27 = .ok (.aload_n 1, 1) := by decide +kernel
theorem d_2_2_28 : decode prog_2_method_2_code 28 = .ok (.invokevirtual 40, 3) := by decide +kernel
theorem d_2_2_31 : decode prog_2_method_2_code 31 = .ok (.ifCond .eq 5, 3) := by decide +kernel
theorem d_2_2_34 : decode prog_2_method_2_code 34 = .ok (.iconst 1, 1) := by decide +kernel
theorem d_2_2_35 : decode prog_2_method_2_code 35 = .ok (.ireturn, 1) := by decide +kernel
theorem d_2_2_36 : decode prog_2_method_2_code 36 = .ok (.iinc 2 1, 3) := by decide +kernel
theorem d_2_2_39 : decode prog_2_method_2_code 39 = .ok (.goto (-37), 3) := by decide +kernel
theorem d_2_2_42 : decode prog_2_method_2_code 42 = .ok (.iconst 0, 1) := by decide +kernel
theorem d_2_2_43 : decode prog_2_method_2_code 43 = .ok (.ireturn, 1) := by decide +kernel
theorem d_5_1_0 : decode prog_5_method_1_code 0 = .ok (.aload_n 0, 1) := by decide +kernel
theorem d_5_1_1 : decode prog_5_method_1_code 1 = .ok (.invokespecial 3, 3) := by decide +kernel
theorem d_5_1_4 : decode prog_5_method_1_code 4 = .ok (.aload_n 0, 1) := by decide +kernel
theorem d_5_1_5 : decode prog_5_method_1_code 5 = .ok (.iload_n 1, 1) := by decide +kernel
theorem d_5_1_6 : decode prog_5_method_1_code 6 = .ok (.putfield 9, 3) := by decide +kernel
theorem d_5_1_9 : decode prog_5_method_1_code 9 = .ok (.aload_n 0, 1) := by decide +kernel
theorem d_5_1_10 : decode prog_5_method_1_code 10 = .ok (.aload_n 2, 1) := by decide +kernel
theorem d_5_1_11 : decode prog_5_method_1_code 11 = .ok (.putfield 15, 3) := by decide +kernel
theorem d_5_1_14 : decode prog_5_method_1_code 14 = .ok (.aload_n 0, 1) := by decide +kernel
theorem d_5_1_15 : decode prog_5_method_1_code 15 = .ok (.new 19, 3) := by decide +kernel
theorem d_5_1_18 : decode prog_5_method_1_code 18 = .ok (.dup, 1) := by decide +kernel
theorem d_5_1_19 : decode prog_5_method_1_code 19 = .ok (.invokespecial 21, 3) := by decide +kernel
theorem d_5_1_22 : decode prog_5_method_1_code 22 = .ok (.putfield 22, 3) := by decide +kernel
theorem d_5_1_25 : decode prog_5_method_1_code 25 = .ok (.aload_n 0, 1) := by decide +kernel
theorem d_5_1_26 : decode prog_5_method_1_code 26 = .ok (.new 19, 3) := by decide +kernel
theorem d_5_1_29 : decode prog_5_method_1_code 29 = .ok (.dup, 1) := by decide +kernel
theorem d_5_1_30 : decode prog_5_method_1_code 30 = .ok (.invokespecial 21, 3) := by decide +kernel
theorem d_5_1_33 : decode prog_5_method_1_code 33 = .ok (.putfield 26, 3) := by decide +kernel
theorem d_5_1_36 : decode prog_5_method_1_code 36 = .ok (.aload_n 0, 1) := by decide +kernel
theorem d_5_1_37 : decode prog_5_method_1_code 37 = .ok (.new 19, 3) := by decide +kernel
theorem d_5_1_40 : decode prog_5_method_1_code 40 = .ok (.dup, 1) := by decide +kernel
theorem d_5_1_41 : decode prog_5_method_1_code 41 = .ok (.invokespecial 21, 3) := by decide +kernel
theorem d_5_1_44 : decode prog_5_method_1_code 44 = .ok (.putfield 29, 3) := by decide +kernel
theorem d_5_1_47 : decode prog_5_method_1_code 47 = .ok (.aload_n 0, 1) := by decide +kernel
theorem d_5_1_48 : decode prog_5_method_1_code 48 = .ok (.aconst_null, 1) := by decide +kernel
theorem d_5_1_49 : decode prog_5_method_1_code 49 = .ok (.putfield 32, 3) := by decide +kernel
theorem d_5_1_52 : decode prog_5_method_1_code 52 = .ok (.aload_n 0, 1) := by decide +kernel
theorem d_5_1_53 : decode prog_5_method_1_code 53 = .ok (.iconst 0, 1) := by decide +kernel
theorem d_5_1_54 : decode prog_5_method_1_code 54 = .ok (.putfield 36, 3) := by decide +kernel
theorem d_5_1_57 : decode prog_5_method_1_code 57 = .ok (.aload_n 0, 1) := by decide +kernel
theorem d_5_1_58 : decode prog_5_method_1_code 58 = .ok (.iconst 0, 1) := by decide +kernel
theorem d_5_1_59 : decode prog_5_method_1_code 59 = .ok (.putfield 40, 3) := by decide +kernel
theorem d_5_1_62 : decode prog_5_method_1_code 62 = .ok (.aload_n 0, 1) := by decide +kernel
theorem d_5_1_63 : decode prog_5_method_1_code 63 = .ok (.iconst 0, 1) := by decide +kernel
theorem d_5_1_64 : decode prog_5_method_1_code 64 = .ok (.putfield 43, 3) := by decide +kernel
theorem d_5_1_67 : decode prog_5_method_1_code 67 = .ok (.return_, 1) := by decide +kernel
theorem d_5_2_0 : decode prog_5_method_2_code 0 = .ok (.iconst 0, 1) := by decide +kernel
theorem d_5_2_1 : decode prog_5_method_2_code 1 = .ok (.istore_n 2, 1) := by decide +kernel
theorem d_5_2_2 : decode prog_5_method_2_code 2 = .ok (.iload_n 2, 1) := by decide +kernel
theorem d_5_2_3 : decode prog_5_method_2_code 3 = .ok (.aload_n 0, 1) := by decide +kernel
theorem d_5_2_4 : decode prog_5_method_2_code 4 = .ok (.getfield 22, 3) := by decide +kernel
theorem d_5_2_7 : decode prog_5_method_2_code 7 = .ok (.invokevirtual 46, 3) := by decide +kernel
theorem d_5_2_10 : decode prog_5_method_2_code 10 = .ok (.if_icmp .ge 23, 3) := by decide +kernel
theorem d_5_2_13 : decode prog_5_method_2_code 13 = .ok (.aload_n 0, 1) := by decide +kernel
theorem d_5_2_14 : decode prog_5_method_2_code 14 = .ok (.getfield 22, 3) := by decide +kernel
theorem d_5_2_17 : decode prog_5_method_2_code 17 = .ok (.iload_n 2, 1) := by decide +kernel
theorem d_5_2_18 : decode prog_5_method_2_code 18 = .ok (.invokevirtual 50, 3) := by decide +kernel
theorem d_5_2_21 : decode prog_5_method_2_code 21 = .ok (.aload_n 1, 1) := by decide +kernel
theorem d_5_2_22 : decode prog_5_method_2_code 22 = .ok (.if_acmp .ne 5, 3) := by decide +kernel
theorem d_5_2_25 : decode prog_5_method_2_code 25 = .ok (.iconst 1, 1) := by decide +kernel
theorem d_5_2_26 : decode prog_5_method_2_code 26 = .ok (.ireturn, 1) := by decide +kernel
theorem d_5_2_27 : decode prog_5_method_2_code 27 = .ok (.iinc 2 1, 3) := by decide +kernel
theorem d_5_2_30 : decode prog_5_method_2_code 30 = .ok (.goto (-28), 3) := by decide +kernel
theorem d_5_2_33 : decode prog_5_method_2_code 33 = .ok (.iconst 0, 1) := by decide +kernel
theorem d_5_2_34 : decode prog_5_method_2_code 34 = .ok (.ireturn, 1) := by decide +kernel
theorem d_5_3_0 : decode prog_5_method_3_code 0 = .ok (.iconst 0, 1) := by decide +kernel
theorem d_5_3_1 : decode prog_5_method_3_code 1 = .ok (.istore_n 2, 1) := by decide +kernel
theorem d_5_3_2 : decode prog_5_method_3_code 2 = .ok (.iload_n 2, 1) := by decide +kernel
theorem d_5_3_3 : decode prog_5_method_3_code 3 = .ok (.aload_n 0, 1) := by decide +kernel
theorem d_5_3_4 : decode prog_5_method_3_code 4 = .ok (.getfield 26, 3) := by decide +kernel
theorem d_5_3_7 : decode prog_5_method_3_code 7 = .ok (.invokevirtual 46, 3) := by decide +kernel
theorem d_5_3_10 : decode prog_5_method_3_code 10 = .ok (.if_icmp .ge 36, 3) := by decide +kernel
theorem d_5_3_13 : decode prog_5_method_3_code 13 = .ok (.aload_n 0, 1) := by decide +kernel
theorem d_5_3_14 : decode prog_5_method_3_code 14 = .ok (.getfield 26, 3) := by decide +kernel
theorem d_5_3_17 : decode prog_5_method_3_code 17 = .ok (.iload_n 2, 1) := by decide +kernel
theorem d_5_3_18 : decode prog_5_method_3_code 18 = .ok (.invokevirtual 50, 3) := by decide +kernel
theorem d_5_3_21 : decode prog_5_method_3_code 21 = .ok (.checkcast 54, 3) := by decide +kernel
theorem d_5_3_24 : decode prog_5_method_3_code 24 = .ok (.getfield 56, 3) := by decide +kernel
theorem d_5_3_27 : decode prog_5_method_3_code 27 = .ok (.invokevirtual 59, 3) := by decide +kernel
theorem d_5_3_30 : decode prog_5_method_3_code 30 = .ok (.aload_n 1, 1) := by decide +kernel
theorem d_5_3_31 : decode prog_5_method_3_code 31 = .ok (.getfield 56, 3) := by decide +kernel
theorem d_5_3_34 : decode prog_5_method_3_code 34 = .ok (.invokevirtual 59, 3) := by decide +kernel
theorem d_5_3_37 : decode prog_5_method_3_code 37 = .ok (.if_icmp .lt 9, 3) := by decide +kernel
theorem d_5_3_40 : decode prog_5_method_3_code 40 = .ok (.iinc 2 1, 3) := by decide +kernel
theorem d_5_3_43 : decode prog_5_method_3_code 43 = .ok (.goto (-41), 3) := by decide +kernel
theorem d_5_3_46 : decode prog_5_method_3_code 46 = .ok (.aload_n 0, 1) := by decide +kernel
theorem d_5_3_47 : decode prog_5_method_3_code 47 = .ok (.getfield 26, 3) := by decide +kernel
theorem d_5_3_50 : decode prog_5_method_3_code 50 = .ok (.iload_n 2, 1) := by decide +kernel
theorem d_5_3_51 : decode prog_5_method_3_code 51 = .ok (.aload_n 1, 1) := by decide +kernel
theorem d_5_3_52 : decode prog_5_method_3_code 52 = .ok (.invokevirtual 64, 3) := by decide +kernel
theorem d_5_3_55 : decode prog_5_method_3_code 55 = .ok (.return_, 1) := by decide +kernel
theorem d_5_4_0 : decode prog_5_method_4_code 0 = .ok (.iconst 0, 1) := by decide +kernel
theorem d_5_4_1 : decode prog_5_method_4_code 1 = .ok (.istore_n 2, 1) := by decide +kernel
theorem d_5_4_2 : decode prog_5_method_4_code 2 = .ok (.iload_n 2, 1) := by decide +kernel
theorem d_5_4_3 : decode prog_5_method_4_code 3 = .ok (.aload_n 0, 1) := by decide +kernel
theorem d_5_4_4 : decode prog_5_method_4_code 4 = .ok (.getfield 29, 3) := by decide +kernel
theorem d_5_4_7 : decode prog_5_method_4_code 7 = .ok (.invokevirtual 46, 3) := by decide +kernel
theorem d_5_4_10 : decode prog_5_method_4_code 10 = .ok (.if_icmp .ge 45, 3) := by decide +kernel
theorem d_5_4_13 : decode prog_5_method_4_code 13 = .ok (.aload_n 0, 1) := by decide +kernel
theorem d_5_4_14 : decode prog_5_method_4_code 14 = .ok (.getfield 29, 3) := by decide +kernel
theorem d_5_4_17 : decode prog_5_method_4_code 17 = .ok (.iload_n 2, 1) := by decide +kernel
theorem d_5_4_18 : decode prog_5_method_4_code 18 = .ok (.invokevirtual 50, 3) := by decide +kernel
theorem d_5_4_21 : decode prog_5_method_4_code 21 = .ok (.checkcast 68, 3) := by decide +kernel
theorem d_5_4_24 : decode prog_5_method_4_code 24 = .ok (.getfield 70, 3) := by decide +kernel
theorem d_5_4_27 : decode prog_5_method_4_code 27 = .ok (.aload_n 1, 1) := by decide +kernel
theorem d_5_4_28 : decode prog_5_method_4_code 28 = .ok (.invokevirtual 73, 3) := by decide +kernel
theorem d_5_4_31 : decode prog_5_method_4_code 31 = .ok (.ifCond .eq 18, 3) := by decide +kernel
theorem d_5_4_34 : decode prog_5_method_4_code 34 = .ok (.aload_n 0, 1) := by decide +kernel
theorem d_5_4_35 : decode prog_5_method_4_code 35 = .ok (.getfield 29, 3) := by decide +kernel
theorem d_5_4_38 : decode prog_5_method_4_code 38 = .ok (.iload_n 2, 1) := by decide +kernel
theorem d_5_4_39 : decode prog_5_method_4_code 39 = .ok (.invokevirtual 50, 3) := by decide +kernel
theorem d_5_4_42 : decode prog_5_method_4_code 42 = .ok (.checkcast 68, 3) := by decide +kernel
theorem d_5_4_45 : decode prog_5_method_4_code 45 = .ok (.getfield 77, 3) := by decide +kernel
theorem d_5_4_48 : decode prog_5_method_4_code 48 = .ok (.ireturn, 1) := by decide +kernel
theorem d_5_4_49 : decode prog_5_method_4_code 49 = .ok (.iinc 2 1, 3) := by decide +kernel
theorem d_5_4_52 : decode prog_5_method_4_code 52 = .ok (.goto (-50), 3) := by decide +kernel
theorem d_5_4_55 : decode prog_5_method_4_code 55 = .ok (.iconst (-1), 1) := by decide +kernel
theorem d_5_4_56 : decode prog_5_method_4_code 56 = .ok (.ireturn, 1) := by decide +kernel
theorem d_4_1_0 : decode prog_4_method_1_code 0 = .ok (.aload_n 0, 1) := by decide +kernel
theorem d_4_1_1 : decode prog_4_method_1_code 1 = .ok (.invokespecial 1, 3) := by decide +kernel
theorem d_4_1_4 : decode prog_4_method_1_code 4 = .ok (.aload_n 0, 1) := by decide +kernel
theorem d_4_1_5 : decode prog_4_method_1_code 5 = .ok (.aload_n 1, 1) := by decide +kernel
theorem d_4_1_6 : decode prog_4_method_1_code 6 = .ok (.putfield 7, 3) := by decide +kernel
theorem d_4_1_9 : decode prog_4_method_1_code 9 = .ok (.aload_n 0, 1) := by decide +kernel
theorem d_4_1_10 : decode prog_4_method_1_code 10 = .ok (.aload_n 2, 1) := by decide +kernel
theorem d_4_1_11 : decode prog_4_method_1_code 11 = .ok (.putfield 13, 3) := by decide +kernel
theorem d_4_1_14 : decode prog_4_method_1_code 14 = .ok (.return_, 1) := by decide +kernel
theorem d_3_1_0 : decode prog_3_method_1_code 0 = .ok (.aload_n 0, 1) := by decide +kernel
theorem d_3_1_1 : decode prog_3_method_1_code 1 = .ok (.invokespecial 1, 3) := by decide +kernel
theorem d_3_1_4 : decode prog_3_method_1_code 4 = .ok (.aload_n 0, 1) := by decide +kernel
theorem d_3_1_5 : decode prog_3_method_1_code 5 = .ok (.aload_n 1, 1) := by decide +kernel
theorem d_3_1_6 : decode prog_3_method_1_code 6 = .ok (.putfield 7, 3) := by decide +kernel
theorem d_3_1_9 : decode prog_3_method_1_code 9 = .ok (.aload_n 0, 1) := by decide +kernel
theorem d_3_1_10 : decode prog_3_method_1_code 10 = .ok (.iload_n 2, 1) := by decide +kernel
theorem d_3_1_11 : decode prog_3_method_1_code 11 = .ok (.putfield 13, 3) := by decide +kernel
theorem d_3_1_14 : decode prog_3_method_1_code 14 = .ok (.return_, 1) := by decide +kernel
theorem d_method_3_0 : decode method_3_code 0 = .ok (.aload_n 1, 1) := by decide +kernel
theorem d_method_3_1 : decode method_3_code 1 = .ok (.iconst 0, 1) := by decide +kernel
theorem d_method_3_2 : decode method_3_code 2 = .ok (.aload_n 0, 1) := by decide +kernel
theorem d_method_3_3 : decode method_3_code 3 = .ok (.invokevirtual 7, 3) := by decide +kernel
theorem d_method_3_6 : decode method_3_code 6 = .ok (.i2l, 1) := by decide +kernel
theorem d_method_3_7 : decode method_3_code 7 = .ok (.lastore, 1) := by decide +kernel
theorem d_method_3_8 : decode method_3_code 8 = .ok (.goto 9, 3) := by decide +kernel
theorem d_method_3_11 : decode method_3_code 11 = .ok (.astore_n 2, 1) := by decide +kernel
theorem d_method_3_12 : decode method_3_code 12 = .ok (.iconst 1, 1) := by decide +kernel
theorem d_method_3_13 : decode method_3_code 13 = .ok (.ireturn, 1) := by decide +kernel
theorem d_method_3_14 : decode method_3_code 14 = .ok (.astore_n 2, 1) := by decide +kernel
theorem d_method_3_15 : decode method_3_code 15 = .ok (.iconst 2, 1) := by decide +kernel
theorem d_method_3_16 : decode method_3_code 16 = .ok (.ireturn, 1) := by decide +kernel
theorem d_method_3_17 : decode method_3_code 17 = .ok (.iconst 0, 1) := by decide +kernel
theorem d_method_3_18 : decode method_3_code 18 = .ok (.ireturn, 1) := by decide +kernel
theorem d_method_4_0 : decode method_4_code 0 = .ok (.aload_n 2, 1) := by decide +kernel
theorem d_method_4_1 : decode method_4_code 1 = .ok (.iconst 0, 1) := by decide +kernel
theorem d_method_4_2 : decode method_4_code 2 = .ok (.aload_n 0, 1) := by decide +kernel
theorem d_method_4_3 : decode method_4_code 3 = .ok (.iload_n 1, 1) := by decide +kernel
theorem d_method_4_4 : decode method_4_code 4 = .ok (.invokevirtual 17, 3) := by decide +kernel
theorem d_method_4_7 : decode method_4_code 7 = .ok (.i2l, 1) := by decide +kernel
theorem d_method_4_8 : decode method_4_code 8 = .ok (.lastore, 1) := by decide +kernel
theorem d_method_4_9 : decode method_4_code 9 = .ok (.goto 9, 3) := by decide +kernel
theorem d_method_4_12 : decode method_4_code 12 = .ok (.astore_n 3, 1) := by decide +kernel
theorem d_method_4_13 : decode method_4_code 13 = .ok (.iconst 1, 1) := by decide +kernel
theorem d_method_4_14 : decode method_4_code 14 = .ok (.ireturn, 1) := by decide +kernel
theorem d_method_4_15 : decode method_4_code 15 = .ok (.astore_n 3, 1) := by decide +kernel
theorem d_method_4_16 : decode method_4_code 16 = .ok (.iconst 2, 1) := by decide +kernel
theorem d_method_4_17 : decode method_4_code 17 = .ok (.ireturn, 1) := by decide +kernel
theorem d_method_4_18 : decode method_4_code 18 = .ok (.iconst 0, 1) := by decide +kernel
theorem d_method_4_19 : decode method_4_code 19 = .ok (.ireturn, 1) := by decide +kernel
