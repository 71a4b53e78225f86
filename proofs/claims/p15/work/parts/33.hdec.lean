theorem dX0_init_0 : decode cX0_init 0 = .ok (.aload_n 0, 1) := dk_42 (by decide +kernel)
theorem dX0_init_1 : decode cX0_init 1 = .ok (.iconst 0, 1) := dk_3 (by decide +kernel)
theorem dX0_init_2 : decode cX0_init 2 = .ok (.invokespecial 1, 3) := dk_183 (a := 0) (b := 1) (by decide +kernel) rfl
theorem dX0_init_5 : decode cX0_init 5 = .ok (.aload_n 0, 1) := dk_42 (by decide +kernel)
theorem dX0_init_6 : decode cX0_init 6 = .ok (.aload_n 1, 1) := dk_43 (by decide +kernel)
theorem dX0_init_7 : decode cX0_init 7 = .ok (.putfield 7, 3) := dk_181 (a := 0) (b := 7) (by decide +kernel) rfl
theorem dX0_init_10 : decode cX0_init 10 = .ok (.return_, 1) := dk_177 (by decide +kernel)
theorem dX0_length_0 : decode cX0_length 0 = .ok (.aload_n 0, 1) := dk_42 (by decide +kernel)
theorem dX0_length_1 : decode cX0_length 1 = .ok (.getfield 7, 3) := dk_180 (a := 0) (b := 7) (by decide +kernel) rfl
theorem dX0_length_4 : decode cX0_length 4 = .ok (.arraylength, 1) := dk_190 (by decide +kernel)
theorem dX0_length_5 : decode cX0_length 5 = .ok (.ireturn, 1) := dk_172 (by decide +kernel)
theorem dX0_elementAt_0 : decode cX0_elementAt 0 = .ok (.iload_n 1, 1) := dk_27 (by decide +kernel)
theorem dX0_elementAt_1 : decode cX0_elementAt 1 = .ok (.ifCond .lt 21, 3) := dk_155 (a := 0) (b := 21) (by decide +kernel) rfl
theorem dX0_elementAt_4 : decode cX0_elementAt 4 = .ok (.iload_n 1, 1) := dk_27 (by decide +kernel)
theorem dX0_elementAt_5 : decode cX0_elementAt 5 = .ok (.aload_n 0, 1) := dk_42 (by decide +kernel)
theorem dX0_elementAt_6 : decode cX0_elementAt 6 = .ok (.getfield 7, 3) := dk_180 (a := 0) (b := 7) (by decide +kernel) rfl
theorem dX0_elementAt_9 : decode cX0_elementAt 9 = .ok (.arraylength, 1) := dk_190 (by decide +kernel)
theorem dX0_elementAt_10 : decode cX0_elementAt 10 = .ok (.if_icmp .ge 12, 3) := dk_162 (a := 0) (b := 12) (by decide +kernel) rfl
theorem dX0_elementAt_13 : decode cX0_elementAt 13 = .ok (.aload_n 0, 1) := dk_42 (by decide +kernel)
theorem dX0_elementAt_14 : decode cX0_elementAt 14 = .ok (.getfield 7, 3) := dk_180 (a := 0) (b := 7) (by decide +kernel) rfl
theorem dX0_elementAt_17 : decode cX0_elementAt 17 = .ok (.iload_n 1, 1) := dk_27 (by decide +kernel)
theorem dX0_elementAt_18 : decode cX0_elementAt 18 = .ok (.baload, 1) := dk_51 (by decide +kernel)
theorem dX0_elementAt_19 : decode cX0_elementAt 19 = .ok (.goto 4, 3) := dk_167 (a := 0) (b := 4) (by decide +kernel) rfl
theorem dX0_elementAt_22 : decode cX0_elementAt 22 = .ok (.iconst 0, 1) := dk_3 (by decide +kernel)
theorem dX0_elementAt_23 : decode cX0_elementAt 23 = .ok (.ireturn, 1) := dk_172 (by decide +kernel)
theorem dX0_takesFrom_0 : decode cX0_takesFrom 0 = .ok (.aload_n 1, 1) := dk_43 (by decide +kernel)
theorem dX0_takesFrom_1 : decode cX0_takesFrom 1 = .ok (.instanceof 8, 3) := by decide +kernel
theorem dX0_takesFrom_4 : decode cX0_takesFrom 4 = .ok (.ireturn, 1) := dk_172 (by decide +kernel)
theorem dX0_fill_0 : decode cX0_fill 0 = .ok (.aload_n 2, 1) := dk_44 (by decide +kernel)
theorem dX0_fill_1 : decode cX0_fill 1 = .ok (.instanceof 8, 3) := by decide +kernel
theorem dX0_fill_4 : decode cX0_fill 4 = .ok (.ifCond .eq 54, 3) := dk_153 (a := 0) (b := 54) (by decide +kernel) rfl
theorem dX0_fill_7 : decode cX0_fill 7 = .ok (.aload_n 2, 1) := dk_44 (by decide +kernel)
theorem dX0_fill_8 : decode cX0_fill 8 = .ok (.checkcast 8, 3) := by decide +kernel
theorem dX0_fill_11 : decode cX0_fill 11 = .ok (.astore 5, 2) := dk_58 (by decide +kernel)
theorem dX0_fill_13 : decode cX0_fill 13 = .ok (.iload_n 3, 1) := dk_29 (by decide +kernel)
theorem dX0_fill_14 : decode cX0_fill 14 = .ok (.iload 4, 2) := dk_21 (by decide +kernel)
theorem dX0_fill_16 : decode cX0_fill 16 = .ok (.aload 5, 2) := dk_25 (by decide +kernel)
theorem dX0_fill_18 : decode cX0_fill 18 = .ok (.getfield 7, 3) := dk_180 (a := 0) (b := 7) (by decide +kernel) rfl
theorem dX0_fill_21 : decode cX0_fill 21 = .ok (.arraylength, 1) := dk_190 (by decide +kernel)
theorem dX0_fill_22 : decode cX0_fill 22 = .ok (.invokestatic 13, 3) := dk_184 (a := 0) (b := 13) (by decide +kernel) rfl
theorem dX0_fill_25 : decode cX0_fill 25 = .ok (.ifCond .eq 33, 3) := dk_153 (a := 0) (b := 33) (by decide +kernel) rfl
theorem dX0_fill_28 : decode cX0_fill 28 = .ok (.iload_n 1, 1) := dk_27 (by decide +kernel)
theorem dX0_fill_29 : decode cX0_fill 29 = .ok (.iload 4, 2) := dk_21 (by decide +kernel)
theorem dX0_fill_31 : decode cX0_fill 31 = .ok (.aload_n 0, 1) := dk_42 (by decide +kernel)
theorem dX0_fill_32 : decode cX0_fill 32 = .ok (.getfield 7, 3) := dk_180 (a := 0) (b := 7) (by decide +kernel) rfl
theorem dX0_fill_35 : decode cX0_fill 35 = .ok (.arraylength, 1) := dk_190 (by decide +kernel)
theorem dX0_fill_36 : decode cX0_fill 36 = .ok (.invokestatic 13, 3) := dk_184 (a := 0) (b := 13) (by decide +kernel) rfl
theorem dX0_fill_39 : decode cX0_fill 39 = .ok (.ifCond .eq 19, 3) := dk_153 (a := 0) (b := 19) (by decide +kernel) rfl
theorem dX0_fill_42 : decode cX0_fill 42 = .ok (.aload 5, 2) := dk_25 (by decide +kernel)
theorem dX0_fill_44 : decode cX0_fill 44 = .ok (.getfield 7, 3) := dk_180 (a := 0) (b := 7) (by decide +kernel) rfl
theorem dX0_fill_47 : decode cX0_fill 47 = .ok (.iload_n 3, 1) := dk_29 (by decide +kernel)
theorem dX0_fill_48 : decode cX0_fill 48 = .ok (.aload_n 0, 1) := dk_42 (by decide +kernel)
theorem dX0_fill_49 : decode cX0_fill 49 = .ok (.getfield 7, 3) := dk_180 (a := 0) (b := 7) (by decide +kernel) rfl
theorem dX0_fill_52 : decode cX0_fill 52 = .ok (.iload_n 1, 1) := dk_27 (by decide +kernel)
theorem dX0_fill_53 : decode cX0_fill 53 = .ok (.iload 4, 2) := dk_21 (by decide +kernel)
theorem dX0_fill_55 : decode cX0_fill 55 = .ok (.invokestatic 19, 3) := dk_184 (a := 0) (b := 19) (by decide +kernel) rfl
theorem dX0_fill_58 : decode cX0_fill 58 = .ok (.return_, 1) := dk_177 (by decide +kernel)
theorem dX1_init_0 : decode cX1_init 0 = .ok (.aload_n 0, 1) := dk_42 (by decide +kernel)
theorem dX1_init_1 : decode cX1_init 1 = .ok (.invokespecial 1, 3) := dk_183 (a := 0) (b := 1) (by decide +kernel) rfl
theorem dX1_init_4 : decode cX1_init 4 = .ok (.aload_n 0, 1) := dk_42 (by decide +kernel)
theorem dX1_init_5 : decode cX1_init 5 = .ok (.iload_n 1, 1) := dk_27 (by decide +kernel)
theorem dX1_init_6 : decode cX1_init 6 = .ok (.putfield 7, 3) := dk_181 (a := 0) (b := 7) (by decide +kernel) rfl
theorem dX1_init_9 : decode cX1_init 9 = .ok (.return_, 1) := dk_177 (by decide +kernel)
theorem dX1_isThing_0 : decode cX1_isThing 0 = .ok (.iconst 0, 1) := dk_3 (by decide +kernel)
theorem dX1_isThing_1 : decode cX1_isThing 1 = .ok (.ireturn, 1) := dk_172 (by decide +kernel)
theorem dX1_length_0 : decode cX1_length 0 = .ok (.iconst 0, 1) := dk_3 (by decide +kernel)
theorem dX1_length_1 : decode cX1_length 1 = .ok (.ireturn, 1) := dk_172 (by decide +kernel)
theorem dX1_elementAt_0 : decode cX1_elementAt 0 = .ok (.iconst 0, 1) := dk_3 (by decide +kernel)
theorem dX1_elementAt_1 : decode cX1_elementAt 1 = .ok (.ireturn, 1) := dk_172 (by decide +kernel)
theorem dX1_takesFrom_0 : decode cX1_takesFrom 0 = .ok (.iconst 0, 1) := dk_3 (by decide +kernel)
theorem dX1_takesFrom_1 : decode cX1_takesFrom 1 = .ok (.ireturn, 1) := dk_172 (by decide +kernel)
theorem dX1_fill_0 : decode cX1_fill 0 = .ok (.return_, 1) := dk_177 (by decide +kernel)
theorem dX1_heft_0 : decode cX1_heft 0 = .ok (.aload_n 0, 1) := dk_42 (by decide +kernel)
theorem dX1_heft_1 : decode cX1_heft 1 = .ok (.getfield 7, 3) := dk_180 (a := 0) (b := 7) (by decide +kernel) rfl
theorem dX1_heft_4 : decode cX1_heft 4 = .ok (.iconst 1, 1) := dk_4 (by decide +kernel)
theorem dX1_heft_5 : decode cX1_heft 5 = .ok (.iadd, 1) := dk_96 (by decide +kernel)
theorem dX1_heft_6 : decode cX1_heft 6 = .ok (.ireturn, 1) := dk_172 (by decide +kernel)
theorem dX1_fling_0 : decode cX1_fling 0 = .ok (.new 13, 3) := dk_187 (a := 0) (b := 13) (by decide +kernel) rfl
theorem dX1_fling_3 : decode cX1_fling 3 = .ok (.dup, 1) := dk_89 (by decide +kernel)
theorem dX1_fling_4 : decode cX1_fling 4 = .ok (.ldc 15, 2) := dk_18 (by decide +kernel)
theorem dX1_fling_6 : decode cX1_fling 6 = .ok (.invokespecial 17, 3) := dk_183 (a := 0) (b := 17) (by decide +kernel) rfl
theorem dX1_fling_9 : decode cX1_fling 9 = .ok (.athrow, 1) := dk_191 (by decide +kernel)
theorem dX2_init_0 : decode cX2_init 0 = .ok (.aload_n 0, 1) := dk_42 (by decide +kernel)
theorem dX2_init_1 : decode cX2_init 1 = .ok (.iconst 0, 1) := dk_3 (by decide +kernel)
theorem dX2_init_2 : decode cX2_init 2 = .ok (.invokespecial 1, 3) := dk_183 (a := 0) (b := 1) (by decide +kernel) rfl
theorem dX2_init_5 : decode cX2_init 5 = .ok (.aload_n 0, 1) := dk_42 (by decide +kernel)
theorem dX2_init_6 : decode cX2_init 6 = .ok (.aload_n 1, 1) := dk_43 (by decide +kernel)
theorem dX2_init_7 : decode cX2_init 7 = .ok (.putfield 7, 3) := dk_181 (a := 0) (b := 7) (by decide +kernel) rfl
theorem dX2_init_10 : decode cX2_init 10 = .ok (.return_, 1) := dk_177 (by decide +kernel)
theorem dX2_length_0 : decode cX2_length 0 = .ok (.aload_n 0, 1) := dk_42 (by decide +kernel)
theorem dX2_length_1 : decode cX2_length 1 = .ok (.getfield 7, 3) := dk_180 (a := 0) (b := 7) (by decide +kernel) rfl
theorem dX2_length_4 : decode cX2_length 4 = .ok (.arraylength, 1) := dk_190 (by decide +kernel)
theorem dX2_length_5 : decode cX2_length 5 = .ok (.ireturn, 1) := dk_172 (by decide +kernel)
theorem dX2_elementAt_0 : decode cX2_elementAt 0 = .ok (.iload_n 1, 1) := dk_27 (by decide +kernel)
theorem dX2_elementAt_1 : decode cX2_elementAt 1 = .ok (.ifCond .lt 21, 3) := dk_155 (a := 0) (b := 21) (by decide +kernel) rfl
theorem dX2_elementAt_4 : decode cX2_elementAt 4 = .ok (.iload_n 1, 1) := dk_27 (by decide +kernel)
theorem dX2_elementAt_5 : decode cX2_elementAt 5 = .ok (.aload_n 0, 1) := dk_42 (by decide +kernel)
theorem dX2_elementAt_6 : decode cX2_elementAt 6 = .ok (.getfield 7, 3) := dk_180 (a := 0) (b := 7) (by decide +kernel) rfl
theorem dX2_elementAt_9 : decode cX2_elementAt 9 = .ok (.arraylength, 1) := dk_190 (by decide +kernel)
theorem dX2_elementAt_10 : decode cX2_elementAt 10 = .ok (.if_icmp .ge 12, 3) := dk_162 (a := 0) (b := 12) (by decide +kernel) rfl
theorem dX2_elementAt_13 : decode cX2_elementAt 13 = .ok (.aload_n 0, 1) := dk_42 (by decide +kernel)
theorem dX2_elementAt_14 : decode cX2_elementAt 14 = .ok (.getfield 7, 3) := dk_180 (a := 0) (b := 7) (by decide +kernel) rfl
theorem dX2_elementAt_17 : decode cX2_elementAt 17 = .ok (.iload_n 1, 1) := dk_27 (by decide +kernel)
theorem dX2_elementAt_18 : decode cX2_elementAt 18 = .ok (.iaload, 1) := dk_46 (by decide +kernel)
theorem dX2_elementAt_19 : decode cX2_elementAt 19 = .ok (.goto 4, 3) := dk_167 (a := 0) (b := 4) (by decide +kernel) rfl
theorem dX2_elementAt_22 : decode cX2_elementAt 22 = .ok (.iconst 0, 1) := dk_3 (by decide +kernel)
theorem dX2_elementAt_23 : decode cX2_elementAt 23 = .ok (.ireturn, 1) := dk_172 (by decide +kernel)
theorem dX2_takesFrom_0 : decode cX2_takesFrom 0 = .ok (.aload_n 1, 1) := dk_43 (by decide +kernel)
theorem dX2_takesFrom_1 : decode cX2_takesFrom 1 = .ok (.instanceof 8, 3) := by decide +kernel
theorem dX2_takesFrom_4 : decode cX2_takesFrom 4 = .ok (.ireturn, 1) := dk_172 (by decide +kernel)
theorem dX2_fill_0 : decode cX2_fill 0 = .ok (.aload_n 2, 1) := dk_44 (by decide +kernel)
theorem dX2_fill_1 : decode cX2_fill 1 = .ok (.instanceof 8, 3) := by decide +kernel
theorem dX2_fill_4 : decode cX2_fill 4 = .ok (.ifCond .eq 54, 3) := dk_153 (a := 0) (b := 54) (by decide +kernel) rfl
theorem dX2_fill_7 : decode cX2_fill 7 = .ok (.aload_n 2, 1) := dk_44 (by decide +kernel)
theorem dX2_fill_8 : decode cX2_fill 8 = .ok (.checkcast 8, 3) := by decide +kernel
theorem dX2_fill_11 : decode cX2_fill 11 = .ok (.astore 5, 2) := dk_58 (by decide +kernel)
theorem dX2_fill_13 : decode cX2_fill 13 = .ok (.iload_n 3, 1) := dk_29 (by decide +kernel)
theorem dX2_fill_14 : decode cX2_fill 14 = .ok (.iload 4, 2) := dk_21 (by decide +kernel)
theorem dX2_fill_16 : decode cX2_fill 16 = .ok (.aload 5, 2) := dk_25 (by decide +kernel)
theorem dX2_fill_18 : decode cX2_fill 18 = .ok (.getfield 7, 3) := dk_180 (a := 0) (b := 7) (by decide +kernel) rfl
theorem dX2_fill_21 : decode cX2_fill 21 = .ok (.arraylength, 1) := dk_190 (by decide +kernel)
theorem dX2_fill_22 : decode cX2_fill 22 = .ok (.invokestatic 13, 3) := dk_184 (a := 0) (b := 13) (by decide +kernel) rfl
theorem dX2_fill_25 : decode cX2_fill 25 = .ok (.ifCond .eq 33, 3) := dk_153 (a := 0) (b := 33) (by decide +kernel) rfl
theorem dX2_fill_28 : decode cX2_fill 28 = .ok (.iload_n 1, 1) := dk_27 (by decide +kernel)
theorem dX2_fill_29 : decode cX2_fill 29 = .ok (.iload 4, 2) := dk_21 (by decide +kernel)
theorem dX2_fill_31 : decode cX2_fill 31 = .ok (.aload_n 0, 1) := dk_42 (by decide +kernel)
theorem dX2_fill_32 : decode cX2_fill 32 = .ok (.getfield 7, 3) := dk_180 (a := 0) (b := 7) (by decide +kernel) rfl
theorem dX2_fill_35 : decode cX2_fill 35 = .ok (.arraylength, 1) := dk_190 (by decide +kernel)
theorem dX2_fill_36 : decode cX2_fill 36 = .ok (.invokestatic 13, 3) := dk_184 (a := 0) (b := 13) (by decide +kernel) rfl
theorem dX2_fill_39 : decode cX2_fill 39 = .ok (.ifCond .eq 19, 3) := dk_153 (a := 0) (b := 19) (by decide +kernel) rfl
theorem dX2_fill_42 : decode cX2_fill 42 = .ok (.aload 5, 2) := dk_25 (by decide +kernel)
theorem dX2_fill_44 : decode cX2_fill 44 = .ok (.getfield 7, 3) := dk_180 (a := 0) (b := 7) (by decide +kernel) rfl
theorem dX2_fill_47 : decode cX2_fill 47 = .ok (.iload_n 3, 1) := dk_29 (by decide +kernel)
theorem dX2_fill_48 : decode cX2_fill 48 = .ok (.aload_n 0, 1) := dk_42 (by decide +kernel)
theorem dX2_fill_49 : decode cX2_fill 49 = .ok (.getfield 7, 3) := dk_180 (a := 0) (b := 7) (by decide +kernel) rfl
theorem dX2_fill_52 : decode cX2_fill 52 = .ok (.iload_n 1, 1) := dk_27 (by decide +kernel)
theorem dX2_fill_53 : decode cX2_fill 53 = .ok (.iload 4, 2) := dk_21 (by decide +kernel)
theorem dX2_fill_55 : decode cX2_fill 55 = .ok (.invokestatic 19, 3) := dk_184 (a := 0) (b := 19) (by decide +kernel) rfl
theorem dX2_fill_58 : decode cX2_fill 58 = .ok (.return_, 1) := dk_177 (by decide +kernel)
theorem dX3_init_0 : decode cX3_init 0 = .ok (.aload_n 0, 1) := dk_42 (by decide +kernel)
theorem dX3_init_1 : decode cX3_init 1 = .ok (.invokespecial 3, 3) := dk_183 (a := 0) (b := 3) (by decide +kernel) rfl
theorem dX3_init_4 : decode cX3_init 4 = .ok (.aload_n 0, 1) := dk_42 (by decide +kernel)
theorem dX3_init_5 : decode cX3_init 5 = .ok (.bipush 28, 2) := dk_16 (a := 28) (by decide +kernel) rfl
theorem dX3_init_7 : decode cX3_init 7 = .ok (.newarray .int, 2) := by decide +kernel
theorem dX3_init_9 : decode cX3_init 9 = .ok (.putfield 9, 3) := dk_181 (a := 0) (b := 9) (by decide +kernel) rfl
theorem dX3_init_12 : decode cX3_init 12 = .ok (.aload_n 0, 1) := dk_42 (by decide +kernel)
theorem dX3_init_13 : decode cX3_init 13 = .ok (.bipush 28, 2) := dk_16 (a := 28) (by decide +kernel) rfl
theorem dX3_init_15 : decode cX3_init 15 = .ok (.newarray .int, 2) := by decide +kernel
theorem dX3_init_17 : decode cX3_init 17 = .ok (.putfield 15, 3) := dk_181 (a := 0) (b := 15) (by decide +kernel) rfl
theorem dX3_init_20 : decode cX3_init 20 = .ok (.aload_n 0, 1) := dk_42 (by decide +kernel)
theorem dX3_init_21 : decode cX3_init 21 = .ok (.iconst 4, 1) := dk_7 (by decide +kernel)
theorem dX3_init_22 : decode cX3_init 22 = .ok (.newarray .int, 2) := by decide +kernel
theorem dX3_init_24 : decode cX3_init 24 = .ok (.putfield 18, 3) := dk_181 (a := 0) (b := 18) (by decide +kernel) rfl
theorem dX3_init_27 : decode cX3_init 27 = .ok (.aload_n 0, 1) := dk_42 (by decide +kernel)
theorem dX3_init_28 : decode cX3_init 28 = .ok (.iconst 4, 1) := dk_7 (by decide +kernel)
theorem dX3_init_29 : decode cX3_init 29 = .ok (.newarray .int, 2) := by decide +kernel
theorem dX3_init_31 : decode cX3_init 31 = .ok (.putfield 21, 3) := dk_181 (a := 0) (b := 21) (by decide +kernel) rfl
theorem dX3_init_34 : decode cX3_init 34 = .ok (.aload_n 0, 1) := dk_42 (by decide +kernel)
theorem dX3_init_35 : decode cX3_init 35 = .ok (.iconst 4, 1) := dk_7 (by decide +kernel)
theorem dX3_init_36 : decode cX3_init 36 = .ok (.newarray .int, 2) := by decide +kernel
theorem dX3_init_38 : decode cX3_init 38 = .ok (.putfield 24, 3) := dk_181 (a := 0) (b := 24) (by decide +kernel) rfl
theorem dX3_init_41 : decode cX3_init 41 = .ok (.aload_n 0, 1) := dk_42 (by decide +kernel)
theorem dX3_init_42 : decode cX3_init 42 = .ok (.bipush 12, 2) := dk_16 (a := 12) (by decide +kernel) rfl
theorem dX3_init_44 : decode cX3_init 44 = .ok (.newarray .int, 2) := by decide +kernel
theorem dX3_init_46 : decode cX3_init 46 = .ok (.putfield 27, 3) := dk_181 (a := 0) (b := 27) (by decide +kernel) rfl
theorem dX3_init_49 : decode cX3_init 49 = .ok (.aload_n 0, 1) := dk_42 (by decide +kernel)
theorem dX3_init_50 : decode cX3_init 50 = .ok (.bipush 12, 2) := dk_16 (a := 12) (by decide +kernel) rfl
theorem dX3_init_52 : decode cX3_init 52 = .ok (.newarray .int, 2) := by decide +kernel
theorem dX3_init_54 : decode cX3_init 54 = .ok (.putfield 30, 3) := dk_181 (a := 0) (b := 30) (by decide +kernel) rfl
theorem dX3_init_57 : decode cX3_init 57 = .ok (.aload_n 0, 1) := dk_42 (by decide +kernel)
theorem dX3_init_58 : decode cX3_init 58 = .ok (.bipush 12, 2) := dk_16 (a := 12) (by decide +kernel) rfl
theorem dX3_init_60 : decode cX3_init 60 = .ok (.newarray .int, 2) := by decide +kernel
theorem dX3_init_62 : decode cX3_init 62 = .ok (.putfield 33, 3) := dk_181 (a := 0) (b := 33) (by decide +kernel) rfl
theorem dX3_init_65 : decode cX3_init 65 = .ok (.aload_n 0, 1) := dk_42 (by decide +kernel)
theorem dX3_init_66 : decode cX3_init 66 = .ok (.sipush 192, 3) := dk_17 (a := 0) (b := 192) (by decide +kernel) rfl
theorem dX3_init_69 : decode cX3_init 69 = .ok (.newarray .int, 2) := by decide +kernel
theorem dX3_init_71 : decode cX3_init 71 = .ok (.putfield 36, 3) := dk_181 (a := 0) (b := 36) (by decide +kernel) rfl
theorem dX3_init_74 : decode cX3_init 74 = .ok (.aload_n 0, 1) := dk_42 (by decide +kernel)
theorem dX3_init_75 : decode cX3_init 75 = .ok (.aload_n 1, 1) := dk_43 (by decide +kernel)
theorem dX3_init_76 : decode cX3_init 76 = .ok (.putfield 39, 3) := dk_181 (a := 0) (b := 39) (by decide +kernel) rfl
theorem dX3_init_79 : decode cX3_init 79 = .ok (.return_, 1) := dk_177 (by decide +kernel)
theorem dX3_shelved_0 : decode cX3_shelved 0 = .ok (.aload_n 0, 1) := dk_42 (by decide +kernel)
theorem dX3_shelved_1 : decode cX3_shelved 1 = .ok (.iload_n 1, 1) := dk_27 (by decide +kernel)
theorem dX3_shelved_2 : decode cX3_shelved 2 = .ok (.invokevirtual 95, 3) := dk_182 (a := 0) (b := 95) (by decide +kernel) rfl
theorem dX3_shelved_5 : decode cX3_shelved 5 = .ok (.ifCond .ne 5, 3) := dk_154 (a := 0) (b := 5) (by decide +kernel) rfl
theorem dX3_shelved_8 : decode cX3_shelved 8 = .ok (.aconst_null, 1) := dk_1 (by decide +kernel)
theorem dX3_shelved_9 : decode cX3_shelved 9 = .ok (.areturn, 1) := dk_176 (by decide +kernel)
theorem dX3_shelved_10 : decode cX3_shelved 10 = .ok (.aload_n 0, 1) := dk_42 (by decide +kernel)
theorem dX3_shelved_11 : decode cX3_shelved 11 = .ok (.getfield 27, 3) := dk_180 (a := 0) (b := 27) (by decide +kernel) rfl
theorem dX3_shelved_14 : decode cX3_shelved 14 = .ok (.iload_n 1, 1) := dk_27 (by decide +kernel)
theorem dX3_shelved_15 : decode cX3_shelved 15 = .ok (.iaload, 1) := dk_46 (by decide +kernel)
theorem dX3_shelved_16 : decode cX3_shelved 16 = .ok (.lookupswitch 52 #[(1, 28), (2, 43)], 28) := by decide +kernel
theorem dX3_shelved_44 : decode cX3_shelved 44 = .ok (.new 98, 3) := dk_187 (a := 0) (b := 98) (by decide +kernel) rfl
theorem dX3_shelved_47 : decode cX3_shelved 47 = .ok (.dup, 1) := dk_89 (by decide +kernel)
theorem dX3_shelved_48 : decode cX3_shelved 48 = .ok (.iload_n 1, 1) := dk_27 (by decide +kernel)
theorem dX3_shelved_49 : decode cX3_shelved 49 = .ok (.aload_n 0, 1) := dk_42 (by decide +kernel)
theorem dX3_shelved_50 : decode cX3_shelved 50 = .ok (.getfield 30, 3) := dk_180 (a := 0) (b := 30) (by decide +kernel) rfl
theorem dX3_shelved_53 : decode cX3_shelved 53 = .ok (.iload_n 1, 1) := dk_27 (by decide +kernel)
theorem dX3_shelved_54 : decode cX3_shelved 54 = .ok (.iaload, 1) := dk_46 (by decide +kernel)
theorem dX3_shelved_55 : decode cX3_shelved 55 = .ok (.invokespecial 100, 3) := dk_183 (a := 0) (b := 100) (by decide +kernel) rfl
theorem dX3_shelved_58 : decode cX3_shelved 58 = .ok (.areturn, 1) := dk_176 (by decide +kernel)
theorem dX3_shelved_59 : decode cX3_shelved 59 = .ok (.new 103, 3) := dk_187 (a := 0) (b := 103) (by decide +kernel) rfl
theorem dX3_shelved_62 : decode cX3_shelved 62 = .ok (.dup, 1) := dk_89 (by decide +kernel)
theorem dX3_shelved_63 : decode cX3_shelved 63 = .ok (.iload_n 1, 1) := dk_27 (by decide +kernel)
theorem dX3_shelved_64 : decode cX3_shelved 64 = .ok (.invokespecial 105, 3) := dk_183 (a := 0) (b := 105) (by decide +kernel) rfl
theorem dX3_shelved_67 : decode cX3_shelved 67 = .ok (.areturn, 1) := dk_176 (by decide +kernel)
theorem dX3_shelved_68 : decode cX3_shelved 68 = .ok (.new 108, 3) := dk_187 (a := 0) (b := 108) (by decide +kernel) rfl
theorem dX3_shelved_71 : decode cX3_shelved 71 = .ok (.dup, 1) := dk_89 (by decide +kernel)
theorem dX3_shelved_72 : decode cX3_shelved 72 = .ok (.iload_n 1, 1) := dk_27 (by decide +kernel)
theorem dX3_shelved_73 : decode cX3_shelved 73 = .ok (.invokespecial 110, 3) := dk_183 (a := 0) (b := 110) (by decide +kernel) rfl
theorem dX3_shelved_76 : decode cX3_shelved 76 = .ok (.areturn, 1) := dk_176 (by decide +kernel)
theorem dX4_init_0 : decode cX4_init 0 = .ok (.aload_n 0, 1) := dk_42 (by decide +kernel)
theorem dX4_init_1 : decode cX4_init 1 = .ok (.invokespecial 3, 3) := dk_183 (a := 0) (b := 3) (by decide +kernel) rfl
theorem dX4_init_4 : decode cX4_init 4 = .ok (.aload_n 0, 1) := dk_42 (by decide +kernel)
theorem dX4_init_5 : decode cX4_init 5 = .ok (.sipush 1204, 3) := dk_17 (a := 4) (b := 180) (by decide +kernel) rfl
theorem dX4_init_8 : decode cX4_init 8 = .ok (.newarray .int, 2) := by decide +kernel
theorem dX4_init_10 : decode cX4_init 10 = .ok (.putfield 9, 3) := dk_181 (a := 0) (b := 9) (by decide +kernel) rfl
theorem dX4_init_13 : decode cX4_init 13 = .ok (.aload_n 0, 1) := dk_42 (by decide +kernel)
theorem dX4_init_14 : decode cX4_init 14 = .ok (.bipush 16, 2) := dk_16 (a := 16) (by decide +kernel) rfl
theorem dX4_init_16 : decode cX4_init 16 = .ok (.newarray .int, 2) := by decide +kernel
theorem dX4_init_18 : decode cX4_init 18 = .ok (.putfield 15, 3) := dk_181 (a := 0) (b := 15) (by decide +kernel) rfl
theorem dX4_init_21 : decode cX4_init 21 = .ok (.aload_n 0, 1) := dk_42 (by decide +kernel)
theorem dX4_init_22 : decode cX4_init 22 = .ok (.bipush 48, 2) := dk_16 (a := 48) (by decide +kernel) rfl
theorem dX4_init_24 : decode cX4_init 24 = .ok (.newarray .int, 2) := by decide +kernel
theorem dX4_init_26 : decode cX4_init 26 = .ok (.putfield 18, 3) := dk_181 (a := 0) (b := 18) (by decide +kernel) rfl
theorem dX4_init_29 : decode cX4_init 29 = .ok (.aload_n 0, 1) := dk_42 (by decide +kernel)
theorem dX4_init_30 : decode cX4_init 30 = .ok (.sipush 301, 3) := dk_17 (a := 1) (b := 45) (by decide +kernel) rfl
theorem dX4_init_33 : decode cX4_init 33 = .ok (.newarray .int, 2) := by decide +kernel
theorem dX4_init_35 : decode cX4_init 35 = .ok (.putfield 21, 3) := dk_181 (a := 0) (b := 21) (by decide +kernel) rfl
theorem dX4_init_38 : decode cX4_init 38 = .ok (.aload_n 0, 1) := dk_42 (by decide +kernel)
theorem dX4_init_39 : decode cX4_init 39 = .ok (.aload_n 1, 1) := dk_43 (by decide +kernel)
theorem dX4_init_40 : decode cX4_init 40 = .ok (.putfield 24, 3) := dk_181 (a := 0) (b := 24) (by decide +kernel) rfl
theorem dX4_init_43 : decode cX4_init 43 = .ok (.return_, 1) := dk_177 (by decide +kernel)
theorem dX5_init_0 : decode cX5_init 0 = .ok (.aload_n 0, 1) := dk_42 (by decide +kernel)
theorem dX5_init_1 : decode cX5_init 1 = .ok (.invokespecial 3, 3) := dk_183 (a := 0) (b := 3) (by decide +kernel) rfl
theorem dX5_init_4 : decode cX5_init 4 = .ok (.aload_n 0, 1) := dk_42 (by decide +kernel)
theorem dX5_init_5 : decode cX5_init 5 = .ok (.iconst 4, 1) := dk_7 (by decide +kernel)
theorem dX5_init_6 : decode cX5_init 6 = .ok (.newarray .int, 2) := by decide +kernel
theorem dX5_init_8 : decode cX5_init 8 = .ok (.putfield 9, 3) := dk_181 (a := 0) (b := 9) (by decide +kernel) rfl
theorem dX5_init_11 : decode cX5_init 11 = .ok (.aload_n 0, 1) := dk_42 (by decide +kernel)
theorem dX5_init_12 : decode cX5_init 12 = .ok (.sipush 384, 3) := dk_17 (a := 1) (b := 128) (by decide +kernel) rfl
theorem dX5_init_15 : decode cX5_init 15 = .ok (.newarray .int, 2) := by decide +kernel
theorem dX5_init_17 : decode cX5_init 17 = .ok (.putfield 15, 3) := dk_181 (a := 0) (b := 15) (by decide +kernel) rfl
theorem dX5_init_20 : decode cX5_init 20 = .ok (.aload_n 0, 1) := dk_42 (by decide +kernel)
theorem dX5_init_21 : decode cX5_init 21 = .ok (.bipush 12, 2) := dk_16 (a := 12) (by decide +kernel) rfl
theorem dX5_init_23 : decode cX5_init 23 = .ok (.newarray .int, 2) := by decide +kernel
theorem dX5_init_25 : decode cX5_init 25 = .ok (.putfield 18, 3) := dk_181 (a := 0) (b := 18) (by decide +kernel) rfl
theorem dX5_init_28 : decode cX5_init 28 = .ok (.aload_n 0, 1) := dk_42 (by decide +kernel)
theorem dX5_init_29 : decode cX5_init 29 = .ok (.bipush 30, 2) := dk_16 (a := 30) (by decide +kernel) rfl
theorem dX5_init_31 : decode cX5_init 31 = .ok (.newarray .int, 2) := by decide +kernel
theorem dX5_init_33 : decode cX5_init 33 = .ok (.putfield 21, 3) := dk_181 (a := 0) (b := 21) (by decide +kernel) rfl
theorem dX5_init_36 : decode cX5_init 36 = .ok (.aload_n 0, 1) := dk_42 (by decide +kernel)
theorem dX5_init_37 : decode cX5_init 37 = .ok (.bipush 40, 2) := dk_16 (a := 40) (by decide +kernel) rfl
theorem dX5_init_39 : decode cX5_init 39 = .ok (.newarray .int, 2) := by decide +kernel
theorem dX5_init_41 : decode cX5_init 41 = .ok (.putfield 24, 3) := dk_181 (a := 0) (b := 24) (by decide +kernel) rfl
theorem dX5_init_44 : decode cX5_init 44 = .ok (.aload_n 0, 1) := dk_42 (by decide +kernel)
theorem dX5_init_45 : decode cX5_init 45 = .ok (.bipush 40, 2) := dk_16 (a := 40) (by decide +kernel) rfl
theorem dX5_init_47 : decode cX5_init 47 = .ok (.newarray .int, 2) := by decide +kernel
theorem dX5_init_49 : decode cX5_init 49 = .ok (.putfield 27, 3) := dk_181 (a := 0) (b := 27) (by decide +kernel) rfl
theorem dX5_init_52 : decode cX5_init 52 = .ok (.return_, 1) := dk_177 (by decide +kernel)
theorem dX6_init_0 : decode cX6_init 0 = .ok (.aload_n 0, 1) := dk_42 (by decide +kernel)
theorem dX6_init_1 : decode cX6_init 1 = .ok (.invokespecial 3, 3) := dk_183 (a := 0) (b := 3) (by decide +kernel) rfl
theorem dX6_init_4 : decode cX6_init 4 = .ok (.aload_n 0, 1) := dk_42 (by decide +kernel)
theorem dX6_init_5 : decode cX6_init 5 = .ok (.iconst 2, 1) := dk_5 (by decide +kernel)
theorem dX6_init_6 : decode cX6_init 6 = .ok (.sipush 300, 3) := dk_17 (a := 1) (b := 44) (by decide +kernel) rfl
theorem dX6_init_9 : decode cX6_init 9 = .ok (.multianewarray 9 2, 4) := by decide +kernel
theorem dX6_init_13 : decode cX6_init 13 = .ok (.putfield 11, 3) := dk_181 (a := 0) (b := 11) (by decide +kernel) rfl
theorem dX6_init_16 : decode cX6_init 16 = .ok (.aload_n 0, 1) := dk_42 (by decide +kernel)
theorem dX6_init_17 : decode cX6_init 17 = .ok (.iconst 2, 1) := dk_5 (by decide +kernel)
theorem dX6_init_18 : decode cX6_init 18 = .ok (.newarray .int, 2) := by decide +kernel
theorem dX6_init_20 : decode cX6_init 20 = .ok (.putfield 16, 3) := dk_181 (a := 0) (b := 16) (by decide +kernel) rfl
theorem dX6_init_23 : decode cX6_init 23 = .ok (.aload_n 0, 1) := dk_42 (by decide +kernel)
theorem dX6_init_24 : decode cX6_init 24 = .ok (.iconst 2, 1) := dk_5 (by decide +kernel)
theorem dX6_init_25 : decode cX6_init 25 = .ok (.newarray .int, 2) := by decide +kernel
theorem dX6_init_27 : decode cX6_init 27 = .ok (.putfield 20, 3) := dk_181 (a := 0) (b := 20) (by decide +kernel) rfl
theorem dX6_init_30 : decode cX6_init 30 = .ok (.aload_n 0, 1) := dk_42 (by decide +kernel)
theorem dX6_init_31 : decode cX6_init 31 = .ok (.iconst 2, 1) := dk_5 (by decide +kernel)
theorem dX6_init_32 : decode cX6_init 32 = .ok (.newarray .int, 2) := by decide +kernel
theorem dX6_init_34 : decode cX6_init 34 = .ok (.putfield 23, 3) := dk_181 (a := 0) (b := 23) (by decide +kernel) rfl
theorem dX6_init_37 : decode cX6_init 37 = .ok (.aload_n 0, 1) := dk_42 (by decide +kernel)
theorem dX6_init_38 : decode cX6_init 38 = .ok (.aload_n 1, 1) := dk_43 (by decide +kernel)
theorem dX6_init_39 : decode cX6_init 39 = .ok (.putfield 26, 3) := dk_181 (a := 0) (b := 26) (by decide +kernel) rfl
theorem dX6_init_42 : decode cX6_init 42 = .ok (.aload_n 0, 1) := dk_42 (by decide +kernel)
theorem dX6_init_43 : decode cX6_init 43 = .ok (.aload_n 2, 1) := dk_44 (by decide +kernel)
theorem dX6_init_44 : decode cX6_init 44 = .ok (.putfield 30, 3) := dk_181 (a := 0) (b := 30) (by decide +kernel) rfl
theorem dX6_init_47 : decode cX6_init 47 = .ok (.return_, 1) := dk_177 (by decide +kernel)
theorem dX7_init_0 : decode cX7_init 0 = .ok (.aload_n 0, 1) := dk_42 (by decide +kernel)
theorem dX7_init_1 : decode cX7_init 1 = .ok (.iload_n 1, 1) := dk_27 (by decide +kernel)
theorem dX7_init_2 : decode cX7_init 2 = .ok (.invokespecial 1, 3) := dk_183 (a := 0) (b := 1) (by decide +kernel) rfl
theorem dX7_init_5 : decode cX7_init 5 = .ok (.return_, 1) := dk_177 (by decide +kernel)
theorem dX7_heft_0 : decode cX7_heft 0 = .ok (.iconst 2, 1) := dk_5 (by decide +kernel)
theorem dX7_heft_1 : decode cX7_heft 1 = .ok (.aload_n 0, 1) := dk_42 (by decide +kernel)
theorem dX7_heft_2 : decode cX7_heft 2 = .ok (.invokespecial 7, 3) := dk_183 (a := 0) (b := 7) (by decide +kernel) rfl
theorem dX7_heft_5 : decode cX7_heft 5 = .ok (.imul, 1) := dk_104 (by decide +kernel)
theorem dX7_heft_6 : decode cX7_heft 6 = .ok (.ireturn, 1) := dk_172 (by decide +kernel)
theorem dX8_init_0 : decode cX8_init 0 = .ok (.aload_n 0, 1) := dk_42 (by decide +kernel)
theorem dX8_init_1 : decode cX8_init 1 = .ok (.iload_n 1, 1) := dk_27 (by decide +kernel)
theorem dX8_init_2 : decode cX8_init 2 = .ok (.invokespecial 1, 3) := dk_183 (a := 0) (b := 1) (by decide +kernel) rfl
theorem dX8_init_5 : decode cX8_init 5 = .ok (.return_, 1) := dk_177 (by decide +kernel)
theorem dX8_isThing_0 : decode cX8_isThing 0 = .ok (.iconst 1, 1) := dk_4 (by decide +kernel)
theorem dX8_isThing_1 : decode cX8_isThing 1 = .ok (.ireturn, 1) := dk_172 (by decide +kernel)
theorem dX8_heft_0 : decode cX8_heft 0 = .ok (.aload_n 0, 1) := dk_42 (by decide +kernel)
theorem dX8_heft_1 : decode cX8_heft 1 = .ok (.invokespecial 7, 3) := dk_183 (a := 0) (b := 7) (by decide +kernel) rfl
theorem dX8_heft_4 : decode cX8_heft 4 = .ok (.bipush 100, 2) := dk_16 (a := 100) (by decide +kernel) rfl
theorem dX8_heft_6 : decode cX8_heft 6 = .ok (.iadd, 1) := dk_96 (by decide +kernel)
theorem dX8_heft_7 : decode cX8_heft 7 = .ok (.ireturn, 1) := dk_172 (by decide +kernel)
theorem dX8_fling_0 : decode cX8_fling 0 = .ok (.new 11, 3) := dk_187 (a := 0) (b := 11) (by decide +kernel) rfl
theorem dX8_fling_3 : decode cX8_fling 3 = .ok (.dup, 1) := dk_89 (by decide +kernel)
theorem dX8_fling_4 : decode cX8_fling 4 = .ok (.ldc 13, 2) := dk_18 (by decide +kernel)
theorem dX8_fling_6 : decode cX8_fling 6 = .ok (.invokespecial 15, 3) := dk_183 (a := 0) (b := 15) (by decide +kernel) rfl
theorem dX8_fling_9 : decode cX8_fling 9 = .ok (.athrow, 1) := dk_191 (by decide +kernel)
theorem dX9_init_0 : decode cX9_init 0 = .ok (.aload_n 0, 1) := dk_42 (by decide +kernel)
theorem dX9_init_1 : decode cX9_init 1 = .ok (.iload_n 1, 1) := dk_27 (by decide +kernel)
theorem dX9_init_2 : decode cX9_init 2 = .ok (.invokespecial 1, 3) := dk_183 (a := 0) (b := 1) (by decide +kernel) rfl
theorem dX9_init_5 : decode cX9_init 5 = .ok (.aload_n 0, 1) := dk_42 (by decide +kernel)
theorem dX9_init_6 : decode cX9_init 6 = .ok (.iload_n 2, 1) := dk_28 (by decide +kernel)
theorem dX9_init_7 : decode cX9_init 7 = .ok (.putfield 7, 3) := dk_181 (a := 0) (b := 7) (by decide +kernel) rfl
theorem dX9_init_10 : decode cX9_init 10 = .ok (.return_, 1) := dk_177 (by decide +kernel)
theorem dX9_isThing_0 : decode cX9_isThing 0 = .ok (.iconst 1, 1) := dk_4 (by decide +kernel)
theorem dX9_isThing_1 : decode cX9_isThing 1 = .ok (.ireturn, 1) := dk_172 (by decide +kernel)
theorem dX9_heft_0 : decode cX9_heft 0 = .ok (.aload_n 0, 1) := dk_42 (by decide +kernel)
theorem dX9_heft_1 : decode cX9_heft 1 = .ok (.invokespecial 13, 3) := dk_183 (a := 0) (b := 13) (by decide +kernel) rfl
theorem dX9_heft_4 : decode cX9_heft 4 = .ok (.bipush 10, 2) := dk_16 (a := 10) (by decide +kernel) rfl
theorem dX9_heft_6 : decode cX9_heft 6 = .ok (.aload_n 0, 1) := dk_42 (by decide +kernel)
theorem dX9_heft_7 : decode cX9_heft 7 = .ok (.getfield 7, 3) := dk_180 (a := 0) (b := 7) (by decide +kernel) rfl
theorem dX9_heft_10 : decode cX9_heft 10 = .ok (.imul, 1) := dk_104 (by decide +kernel)
theorem dX9_heft_11 : decode cX9_heft 11 = .ok (.iadd, 1) := dk_96 (by decide +kernel)
theorem dX9_heft_12 : decode cX9_heft 12 = .ok (.ireturn, 1) := dk_172 (by decide +kernel)
theorem dX10_init_0 : decode cX10_init 0 = .ok (.aload_n 0, 1) := dk_42 (by decide +kernel)
theorem dX10_init_1 : decode cX10_init 1 = .ok (.invokespecial 3, 3) := dk_183 (a := 0) (b := 3) (by decide +kernel) rfl
theorem dX10_init_4 : decode cX10_init 4 = .ok (.aload_n 0, 1) := dk_42 (by decide +kernel)
theorem dX10_init_5 : decode cX10_init 5 = .ok (.sipush 301, 3) := dk_17 (a := 1) (b := 45) (by decide +kernel) rfl
theorem dX10_init_8 : decode cX10_init 8 = .ok (.newarray .int, 2) := by decide +kernel
theorem dX10_init_10 : decode cX10_init 10 = .ok (.putfield 9, 3) := dk_181 (a := 0) (b := 9) (by decide +kernel) rfl
theorem dX10_init_13 : decode cX10_init 13 = .ok (.aload_n 0, 1) := dk_42 (by decide +kernel)
theorem dX10_init_14 : decode cX10_init 14 = .ok (.sipush 301, 3) := dk_17 (a := 1) (b := 45) (by decide +kernel) rfl
theorem dX10_init_17 : decode cX10_init 17 = .ok (.newarray .int, 2) := by decide +kernel
theorem dX10_init_19 : decode cX10_init 19 = .ok (.putfield 15, 3) := dk_181 (a := 0) (b := 15) (by decide +kernel) rfl
theorem dX10_init_22 : decode cX10_init 22 = .ok (.aload_n 0, 1) := dk_42 (by decide +kernel)
theorem dX10_init_23 : decode cX10_init 23 = .ok (.sipush 301, 3) := dk_17 (a := 1) (b := 45) (by decide +kernel) rfl
theorem dX10_init_26 : decode cX10_init 26 = .ok (.newarray .int, 2) := by decide +kernel
theorem dX10_init_28 : decode cX10_init 28 = .ok (.putfield 18, 3) := dk_181 (a := 0) (b := 18) (by decide +kernel) rfl
theorem dX10_init_31 : decode cX10_init 31 = .ok (.aload_n 0, 1) := dk_42 (by decide +kernel)
theorem dX10_init_32 : decode cX10_init 32 = .ok (.sipush 301, 3) := dk_17 (a := 1) (b := 45) (by decide +kernel) rfl
theorem dX10_init_35 : decode cX10_init 35 = .ok (.newarray .int, 2) := by decide +kernel
theorem dX10_init_37 : decode cX10_init 37 = .ok (.putfield 21, 3) := dk_181 (a := 0) (b := 21) (by decide +kernel) rfl
theorem dX10_init_40 : decode cX10_init 40 = .ok (.aload_n 0, 1) := dk_42 (by decide +kernel)
theorem dX10_init_41 : decode cX10_init 41 = .ok (.sipush 301, 3) := dk_17 (a := 1) (b := 45) (by decide +kernel) rfl
theorem dX10_init_44 : decode cX10_init 44 = .ok (.newarray .int, 2) := by decide +kernel
theorem dX10_init_46 : decode cX10_init 46 = .ok (.putfield 24, 3) := dk_181 (a := 0) (b := 24) (by decide +kernel) rfl
theorem dX10_init_49 : decode cX10_init 49 = .ok (.aload_n 0, 1) := dk_42 (by decide +kernel)
theorem dX10_init_50 : decode cX10_init 50 = .ok (.sipush 301, 3) := dk_17 (a := 1) (b := 45) (by decide +kernel) rfl
theorem dX10_init_53 : decode cX10_init 53 = .ok (.newarray .int, 2) := by decide +kernel
theorem dX10_init_55 : decode cX10_init 55 = .ok (.putfield 27, 3) := dk_181 (a := 0) (b := 27) (by decide +kernel) rfl
theorem dX10_init_58 : decode cX10_init 58 = .ok (.aload_n 0, 1) := dk_42 (by decide +kernel)
theorem dX10_init_59 : decode cX10_init 59 = .ok (.sipush 301, 3) := dk_17 (a := 1) (b := 45) (by decide +kernel) rfl
theorem dX10_init_62 : decode cX10_init 62 = .ok (.newarray .int, 2) := by decide +kernel
theorem dX10_init_64 : decode cX10_init 64 = .ok (.putfield 30, 3) := dk_181 (a := 0) (b := 30) (by decide +kernel) rfl
theorem dX10_init_67 : decode cX10_init 67 = .ok (.aload_n 0, 1) := dk_42 (by decide +kernel)
theorem dX10_init_68 : decode cX10_init 68 = .ok (.sipush 301, 3) := dk_17 (a := 1) (b := 45) (by decide +kernel) rfl
theorem dX10_init_71 : decode cX10_init 71 = .ok (.newarray .int, 2) := by decide +kernel
theorem dX10_init_73 : decode cX10_init 73 = .ok (.putfield 33, 3) := dk_181 (a := 0) (b := 33) (by decide +kernel) rfl
theorem dX10_init_76 : decode cX10_init 76 = .ok (.aload_n 0, 1) := dk_42 (by decide +kernel)
theorem dX10_init_77 : decode cX10_init 77 = .ok (.sipush 301, 3) := dk_17 (a := 1) (b := 45) (by decide +kernel) rfl
theorem dX10_init_80 : decode cX10_init 80 = .ok (.newarray .int, 2) := by decide +kernel
theorem dX10_init_82 : decode cX10_init 82 = .ok (.putfield 36, 3) := dk_181 (a := 0) (b := 36) (by decide +kernel) rfl
theorem dX10_init_85 : decode cX10_init 85 = .ok (.aload_n 0, 1) := dk_42 (by decide +kernel)
theorem dX10_init_86 : decode cX10_init 86 = .ok (.sipush 300, 3) := dk_17 (a := 1) (b := 44) (by decide +kernel) rfl
theorem dX10_init_89 : decode cX10_init 89 = .ok (.newarray .int, 2) := by decide +kernel
theorem dX10_init_91 : decode cX10_init 91 = .ok (.putfield 39, 3) := dk_181 (a := 0) (b := 39) (by decide +kernel) rfl
theorem dX10_init_94 : decode cX10_init 94 = .ok (.aload_n 0, 1) := dk_42 (by decide +kernel)
theorem dX10_init_95 : decode cX10_init 95 = .ok (.sipush 300, 3) := dk_17 (a := 1) (b := 44) (by decide +kernel) rfl
theorem dX10_init_98 : decode cX10_init 98 = .ok (.newarray .int, 2) := by decide +kernel
theorem dX10_init_100 : decode cX10_init 100 = .ok (.putfield 42, 3) := dk_181 (a := 0) (b := 42) (by decide +kernel) rfl
theorem dX10_init_103 : decode cX10_init 103 = .ok (.return_, 1) := dk_177 (by decide +kernel)
theorem dX11_init_0 : decode cX11_init 0 = .ok (.aload_n 0, 1) := dk_42 (by decide +kernel)
theorem dX11_init_1 : decode cX11_init 1 = .ok (.invokespecial 3, 3) := dk_183 (a := 0) (b := 3) (by decide +kernel) rfl
theorem dX11_init_4 : decode cX11_init 4 = .ok (.aload_n 0, 1) := dk_42 (by decide +kernel)
theorem dX11_init_5 : decode cX11_init 5 = .ok (.new 9, 3) := dk_187 (a := 0) (b := 9) (by decide +kernel) rfl
theorem dX11_init_8 : decode cX11_init 8 = .ok (.dup, 1) := dk_89 (by decide +kernel)
theorem dX11_init_9 : decode cX11_init 9 = .ok (.invokespecial 11, 3) := dk_183 (a := 0) (b := 11) (by decide +kernel) rfl
theorem dX11_init_12 : decode cX11_init 12 = .ok (.putfield 12, 3) := dk_181 (a := 0) (b := 12) (by decide +kernel) rfl
theorem dX11_init_15 : decode cX11_init 15 = .ok (.aload_n 0, 1) := dk_42 (by decide +kernel)
theorem dX11_init_16 : decode cX11_init 16 = .ok (.new 9, 3) := dk_187 (a := 0) (b := 9) (by decide +kernel) rfl
theorem dX11_init_19 : decode cX11_init 19 = .ok (.dup, 1) := dk_89 (by decide +kernel)
theorem dX11_init_20 : decode cX11_init 20 = .ok (.invokespecial 11, 3) := dk_183 (a := 0) (b := 11) (by decide +kernel) rfl
theorem dX11_init_23 : decode cX11_init 23 = .ok (.putfield 16, 3) := dk_181 (a := 0) (b := 16) (by decide +kernel) rfl
theorem dX11_init_26 : decode cX11_init 26 = .ok (.aload_n 0, 1) := dk_42 (by decide +kernel)
theorem dX11_init_27 : decode cX11_init 27 = .ok (.new 19, 3) := dk_187 (a := 0) (b := 19) (by decide +kernel) rfl
theorem dX11_init_30 : decode cX11_init 30 = .ok (.dup, 1) := dk_89 (by decide +kernel)
theorem dX11_init_31 : decode cX11_init 31 = .ok (.aload_n 0, 1) := dk_42 (by decide +kernel)
theorem dX11_init_32 : decode cX11_init 32 = .ok (.getfield 16, 3) := dk_180 (a := 0) (b := 16) (by decide +kernel) rfl
theorem dX11_init_35 : decode cX11_init 35 = .ok (.invokespecial 21, 3) := dk_183 (a := 0) (b := 21) (by decide +kernel) rfl
theorem dX11_init_38 : decode cX11_init 38 = .ok (.putfield 24, 3) := dk_181 (a := 0) (b := 24) (by decide +kernel) rfl
theorem dX11_init_41 : decode cX11_init 41 = .ok (.aload_n 0, 1) := dk_42 (by decide +kernel)
theorem dX11_init_42 : decode cX11_init 42 = .ok (.new 19, 3) := dk_187 (a := 0) (b := 19) (by decide +kernel) rfl
theorem dX11_init_45 : decode cX11_init 45 = .ok (.dup, 1) := dk_89 (by decide +kernel)
theorem dX11_init_46 : decode cX11_init 46 = .ok (.aload_n 0, 1) := dk_42 (by decide +kernel)
theorem dX11_init_47 : decode cX11_init 47 = .ok (.getfield 12, 3) := dk_180 (a := 0) (b := 12) (by decide +kernel) rfl
theorem dX11_init_50 : decode cX11_init 50 = .ok (.invokespecial 21, 3) := dk_183 (a := 0) (b := 21) (by decide +kernel) rfl
theorem dX11_init_53 : decode cX11_init 53 = .ok (.putfield 28, 3) := dk_181 (a := 0) (b := 28) (by decide +kernel) rfl
theorem dX11_init_56 : decode cX11_init 56 = .ok (.aload_n 0, 1) := dk_42 (by decide +kernel)
theorem dX11_init_57 : decode cX11_init 57 = .ok (.new 31, 3) := dk_187 (a := 0) (b := 31) (by decide +kernel) rfl
theorem dX11_init_60 : decode cX11_init 60 = .ok (.dup, 1) := dk_89 (by decide +kernel)
theorem dX11_init_61 : decode cX11_init 61 = .ok (.invokespecial 33, 3) := dk_183 (a := 0) (b := 33) (by decide +kernel) rfl
theorem dX11_init_64 : decode cX11_init 64 = .ok (.putfield 34, 3) := dk_181 (a := 0) (b := 34) (by decide +kernel) rfl
theorem dX11_init_67 : decode cX11_init 67 = .ok (.aload_n 0, 1) := dk_42 (by decide +kernel)
theorem dX11_init_68 : decode cX11_init 68 = .ok (.new 38, 3) := dk_187 (a := 0) (b := 38) (by decide +kernel) rfl
theorem dX11_init_71 : decode cX11_init 71 = .ok (.dup, 1) := dk_89 (by decide +kernel)
theorem dX11_init_72 : decode cX11_init 72 = .ok (.aload_n 0, 1) := dk_42 (by decide +kernel)
theorem dX11_init_73 : decode cX11_init 73 = .ok (.getfield 34, 3) := dk_180 (a := 0) (b := 34) (by decide +kernel) rfl
theorem dX11_init_76 : decode cX11_init 76 = .ok (.invokespecial 40, 3) := dk_183 (a := 0) (b := 40) (by decide +kernel) rfl
theorem dX11_init_79 : decode cX11_init 79 = .ok (.putfield 43, 3) := dk_181 (a := 0) (b := 43) (by decide +kernel) rfl
theorem dX11_init_82 : decode cX11_init 82 = .ok (.aload_n 0, 1) := dk_42 (by decide +kernel)
theorem dX11_init_83 : decode cX11_init 83 = .ok (.new 47, 3) := dk_187 (a := 0) (b := 47) (by decide +kernel) rfl
theorem dX11_init_86 : decode cX11_init 86 = .ok (.dup, 1) := dk_89 (by decide +kernel)
theorem dX11_init_87 : decode cX11_init 87 = .ok (.aload_n 0, 1) := dk_42 (by decide +kernel)
theorem dX11_init_88 : decode cX11_init 88 = .ok (.getfield 12, 3) := dk_180 (a := 0) (b := 12) (by decide +kernel) rfl
theorem dX11_init_91 : decode cX11_init 91 = .ok (.aload_n 0, 1) := dk_42 (by decide +kernel)
theorem dX11_init_92 : decode cX11_init 92 = .ok (.getfield 28, 3) := dk_180 (a := 0) (b := 28) (by decide +kernel) rfl
theorem dX11_init_95 : decode cX11_init 95 = .ok (.invokespecial 49, 3) := dk_183 (a := 0) (b := 49) (by decide +kernel) rfl
theorem dX11_init_98 : decode cX11_init 98 = .ok (.putfield 52, 3) := dk_181 (a := 0) (b := 52) (by decide +kernel) rfl
theorem dX11_init_101 : decode cX11_init 101 = .ok (.aload_n 0, 1) := dk_42 (by decide +kernel)
theorem dX11_init_102 : decode cX11_init 102 = .ok (.bipush 8, 2) := dk_16 (a := 8) (by decide +kernel) rfl
theorem dX11_init_104 : decode cX11_init 104 = .ok (.anewarray 56, 3) := by decide +kernel
theorem dX11_init_107 : decode cX11_init 107 = .ok (.putfield 58, 3) := dk_181 (a := 0) (b := 58) (by decide +kernel) rfl
theorem dX11_init_110 : decode cX11_init 110 = .ok (.aload_n 0, 1) := dk_42 (by decide +kernel)
theorem dX11_init_111 : decode cX11_init 111 = .ok (.bipush (-2), 2) := dk_16 (a := 254) (by decide +kernel) rfl
theorem dX11_init_113 : decode cX11_init 113 = .ok (.putfield 62, 3) := dk_181 (a := 0) (b := 62) (by decide +kernel) rfl
theorem dX11_init_116 : decode cX11_init 116 = .ok (.return_, 1) := dk_177 (by decide +kernel)
theorem dX11_value_0 : decode cX11_value 0 = .ok (.aload_n 0, 1) := dk_42 (by decide +kernel)
theorem dX11_value_1 : decode cX11_value 1 = .ok (.getfield 116, 3) := dk_180 (a := 0) (b := 116) (by decide +kernel) rfl
theorem dX11_value_4 : decode cX11_value 4 = .ok (.ifCond .ne 13, 3) := dk_154 (a := 0) (b := 13) (by decide +kernel) rfl
theorem dX11_value_7 : decode cX11_value 7 = .ok (.new 182, 3) := dk_187 (a := 0) (b := 182) (by decide +kernel) rfl
theorem dX11_value_10 : decode cX11_value 10 = .ok (.dup, 1) := dk_89 (by decide +kernel)
theorem dX11_value_11 : decode cX11_value 11 = .ok (.ldc 184, 2) := dk_18 (by decide +kernel)
theorem dX11_value_13 : decode cX11_value 13 = .ok (.invokespecial 186, 3) := dk_183 (a := 0) (b := 186) (by decide +kernel) rfl
theorem dX11_value_16 : decode cX11_value 16 = .ok (.athrow, 1) := dk_191 (by decide +kernel)
theorem dX11_value_17 : decode cX11_value 17 = .ok (.iload_n 1, 1) := dk_27 (by decide +kernel)
theorem dX11_value_18 : decode cX11_value 18 = .ok (.iconst (-1), 1) := dk_2 (by decide +kernel)
theorem dX11_value_19 : decode cX11_value 19 = .ok (.if_icmp .ne 10, 3) := dk_160 (a := 0) (b := 10) (by decide +kernel) rfl
theorem dX11_value_22 : decode cX11_value 22 = .ok (.iload_n 2, 1) := dk_28 (by decide +kernel)
theorem dX11_value_23 : decode cX11_value 23 = .ok (.invokestatic 189, 3) := dk_184 (a := 0) (b := 189) (by decide +kernel) rfl
theorem dX11_value_26 : decode cX11_value 26 = .ok (.goto 8, 3) := dk_167 (a := 0) (b := 8) (by decide +kernel) rfl
theorem dX11_value_29 : decode cX11_value 29 = .ok (.iload_n 1, 1) := dk_27 (by decide +kernel)
theorem dX11_value_30 : decode cX11_value 30 = .ok (.iload_n 2, 1) := dk_28 (by decide +kernel)
theorem dX11_value_31 : decode cX11_value 31 = .ok (.invokestatic 192, 3) := dk_184 (a := 0) (b := 192) (by decide +kernel) rfl
theorem dX11_value_34 : decode cX11_value 34 = .ok (.istore 4, 2) := dk_54 (by decide +kernel)
theorem dX11_value_36 : decode cX11_value 36 = .ok (.iload 4, 2) := dk_21 (by decide +kernel)
theorem dX11_value_38 : decode cX11_value 38 = .ok (.ifCond .lt 12, 3) := dk_155 (a := 0) (b := 12) (by decide +kernel) rfl
theorem dX11_value_41 : decode cX11_value 41 = .ok (.iload_n 3, 1) := dk_29 (by decide +kernel)
theorem dX11_value_42 : decode cX11_value 42 = .ok (.ifCond .lt 8, 3) := dk_155 (a := 0) (b := 8) (by decide +kernel) rfl
theorem dX11_value_45 : decode cX11_value 45 = .ok (.iload_n 3, 1) := dk_29 (by decide +kernel)
theorem dX11_value_46 : decode cX11_value 46 = .ok (.iconst 1, 1) := dk_4 (by decide +kernel)
theorem dX11_value_47 : decode cX11_value 47 = .ok (.if_icmp .le 13, 3) := dk_164 (a := 0) (b := 13) (by decide +kernel) rfl
theorem dX11_value_50 : decode cX11_value 50 = .ok (.new 195, 3) := dk_187 (a := 0) (b := 195) (by decide +kernel) rfl
theorem dX11_value_53 : decode cX11_value 53 = .ok (.dup, 1) := dk_89 (by decide +kernel)
theorem dX11_value_54 : decode cX11_value 54 = .ok (.ldc 197, 2) := dk_18 (by decide +kernel)
theorem dX11_value_56 : decode cX11_value 56 = .ok (.invokespecial 199, 3) := dk_183 (a := 0) (b := 199) (by decide +kernel) rfl
theorem dX11_value_59 : decode cX11_value 59 = .ok (.athrow, 1) := dk_191 (by decide +kernel)
theorem dX11_value_60 : decode cX11_value 60 = .ok (.aload_n 0, 1) := dk_42 (by decide +kernel)
theorem dX11_value_61 : decode cX11_value 61 = .ok (.aload_n 0, 1) := dk_42 (by decide +kernel)
theorem dX11_value_62 : decode cX11_value 62 = .ok (.getfield 126, 3) := dk_180 (a := 0) (b := 126) (by decide +kernel) rfl
theorem dX11_value_65 : decode cX11_value 65 = .ok (.invokevirtual 200, 3) := dk_182 (a := 0) (b := 200) (by decide +kernel) rfl
theorem dX11_value_68 : decode cX11_value 68 = .ok (.astore 5, 2) := dk_58 (by decide +kernel)
theorem dX11_value_70 : decode cX11_value 70 = .ok (.iload_n 3, 1) := dk_29 (by decide +kernel)
theorem dX11_value_71 : decode cX11_value 71 = .ok (.ifCond .ne 14, 3) := dk_154 (a := 0) (b := 14) (by decide +kernel) rfl
theorem dX11_value_74 : decode cX11_value 74 = .ok (.aload 5, 2) := dk_25 (by decide +kernel)
theorem dX11_value_76 : decode cX11_value 76 = .ok (.getfield 204, 3) := dk_180 (a := 0) (b := 204) (by decide +kernel) rfl
theorem dX11_value_79 : decode cX11_value 79 = .ok (.iload 4, 2) := dk_21 (by decide +kernel)
theorem dX11_value_81 : decode cX11_value 81 = .ok (.iaload, 1) := dk_46 (by decide +kernel)
theorem dX11_value_82 : decode cX11_value 82 = .ok (.goto 11, 3) := dk_167 (a := 0) (b := 11) (by decide +kernel) rfl
theorem dX11_value_85 : decode cX11_value 85 = .ok (.aload 5, 2) := dk_25 (by decide +kernel)
theorem dX11_value_87 : decode cX11_value 87 = .ok (.getfield 207, 3) := dk_180 (a := 0) (b := 207) (by decide +kernel) rfl
theorem dX11_value_90 : decode cX11_value 90 = .ok (.iload 4, 2) := dk_21 (by decide +kernel)
theorem dX11_value_92 : decode cX11_value 92 = .ok (.iaload, 1) := dk_46 (by decide +kernel)
theorem dX11_value_93 : decode cX11_value 93 = .ok (.ireturn, 1) := dk_172 (by decide +kernel)
theorem dX11_place_0 : decode cX11_place 0 = .ok (.aload_n 0, 1) := dk_42 (by decide +kernel)
theorem dX11_place_1 : decode cX11_place 1 = .ok (.getfield 116, 3) := dk_180 (a := 0) (b := 116) (by decide +kernel) rfl
theorem dX11_place_4 : decode cX11_place 4 = .ok (.ifCond .ne 13, 3) := dk_154 (a := 0) (b := 13) (by decide +kernel) rfl
theorem dX11_place_7 : decode cX11_place 7 = .ok (.new 182, 3) := dk_187 (a := 0) (b := 182) (by decide +kernel) rfl
theorem dX11_place_10 : decode cX11_place 10 = .ok (.dup, 1) := dk_89 (by decide +kernel)
theorem dX11_place_11 : decode cX11_place 11 = .ok (.ldc 184, 2) := dk_18 (by decide +kernel)
theorem dX11_place_13 : decode cX11_place 13 = .ok (.invokespecial 186, 3) := dk_183 (a := 0) (b := 186) (by decide +kernel) rfl
theorem dX11_place_16 : decode cX11_place 16 = .ok (.athrow, 1) := dk_191 (by decide +kernel)
theorem dX11_place_17 : decode cX11_place 17 = .ok (.aload_n 0, 1) := dk_42 (by decide +kernel)
theorem dX11_place_18 : decode cX11_place 18 = .ok (.aload_n 0, 1) := dk_42 (by decide +kernel)
theorem dX11_place_19 : decode cX11_place 19 = .ok (.getfield 126, 3) := dk_180 (a := 0) (b := 126) (by decide +kernel) rfl
theorem dX11_place_22 : decode cX11_place 22 = .ok (.invokevirtual 200, 3) := dk_182 (a := 0) (b := 200) (by decide +kernel) rfl
theorem dX11_place_25 : decode cX11_place 25 = .ok (.astore_n 3, 1) := dk_78 (by decide +kernel)
theorem dX11_place_26 : decode cX11_place 26 = .ok (.aload_n 3, 1) := dk_45 (by decide +kernel)
theorem dX11_place_27 : decode cX11_place 27 = .ok (.iload_n 1, 1) := dk_27 (by decide +kernel)
theorem dX11_place_28 : decode cX11_place 28 = .ok (.iload_n 2, 1) := dk_28 (by decide +kernel)
theorem dX11_place_29 : decode cX11_place 29 = .ok (.invokevirtual 222, 3) := dk_182 (a := 0) (b := 222) (by decide +kernel) rfl
theorem dX11_place_32 : decode cX11_place 32 = .ok (.ifCond .ne 13, 3) := dk_154 (a := 0) (b := 13) (by decide +kernel) rfl
theorem dX11_place_35 : decode cX11_place 35 = .ok (.new 195, 3) := dk_187 (a := 0) (b := 195) (by decide +kernel) rfl
theorem dX11_place_38 : decode cX11_place 38 = .ok (.dup, 1) := dk_89 (by decide +kernel)
theorem dX11_place_39 : decode cX11_place 39 = .ok (.ldc 226, 2) := dk_18 (by decide +kernel)
theorem dX11_place_41 : decode cX11_place 41 = .ok (.invokespecial 199, 3) := dk_183 (a := 0) (b := 199) (by decide +kernel) rfl
theorem dX11_place_44 : decode cX11_place 44 = .ok (.athrow, 1) := dk_191 (by decide +kernel)
theorem dX11_place_45 : decode cX11_place 45 = .ok (.aload_n 3, 1) := dk_45 (by decide +kernel)
theorem dX11_place_46 : decode cX11_place 46 = .ok (.getfield 228, 3) := dk_180 (a := 0) (b := 228) (by decide +kernel) rfl
theorem dX11_place_49 : decode cX11_place 49 = .ok (.iload_n 1, 1) := dk_27 (by decide +kernel)
theorem dX11_place_50 : decode cX11_place 50 = .ok (.bipush 16, 2) := dk_16 (a := 16) (by decide +kernel) rfl
theorem dX11_place_52 : decode cX11_place 52 = .ok (.imul, 1) := dk_104 (by decide +kernel)
theorem dX11_place_53 : decode cX11_place 53 = .ok (.iload_n 2, 1) := dk_28 (by decide +kernel)
theorem dX11_place_54 : decode cX11_place 54 = .ok (.iadd, 1) := dk_96 (by decide +kernel)
theorem dX11_place_55 : decode cX11_place 55 = .ok (.iaload, 1) := dk_46 (by decide +kernel)
theorem dX11_place_56 : decode cX11_place 56 = .ok (.ireturn, 1) := dk_172 (by decide +kernel)
theorem dX11_keep_0 : decode cX11_keep 0 = .ok (.aload_n 0, 1) := dk_42 (by decide +kernel)
theorem dX11_keep_1 : decode cX11_keep 1 = .ok (.getfield 116, 3) := dk_180 (a := 0) (b := 116) (by decide +kernel) rfl
theorem dX11_keep_4 : decode cX11_keep 4 = .ok (.ifCond .eq 19, 3) := dk_153 (a := 0) (b := 19) (by decide +kernel) rfl
theorem dX11_keep_7 : decode cX11_keep 7 = .ok (.iload_n 1, 1) := dk_27 (by decide +kernel)
theorem dX11_keep_8 : decode cX11_keep 8 = .ok (.invokestatic 290, 3) := dk_184 (a := 1) (b := 34) (by decide +kernel) rfl
theorem dX11_keep_11 : decode cX11_keep 11 = .ok (.ifCond .eq 12, 3) := dk_153 (a := 0) (b := 12) (by decide +kernel) rfl
theorem dX11_keep_14 : decode cX11_keep 14 = .ok (.iload_n 2, 1) := dk_28 (by decide +kernel)
theorem dX11_keep_15 : decode cX11_keep 15 = .ok (.ifCond .lt 8, 3) := dk_155 (a := 0) (b := 8) (by decide +kernel) rfl
theorem dX11_keep_18 : decode cX11_keep 18 = .ok (.iload_n 2, 1) := dk_28 (by decide +kernel)
theorem dX11_keep_19 : decode cX11_keep 19 = .ok (.iconst 3, 1) := dk_6 (by decide +kernel)
theorem dX11_keep_20 : decode cX11_keep 20 = .ok (.if_icmp .le 5, 3) := dk_164 (a := 0) (b := 5) (by decide +kernel) rfl
theorem dX11_keep_23 : decode cX11_keep 23 = .ok (.iconst (-1), 1) := dk_2 (by decide +kernel)
theorem dX11_keep_24 : decode cX11_keep 24 = .ok (.ireturn, 1) := dk_172 (by decide +kernel)
theorem dX11_keep_25 : decode cX11_keep 25 = .ok (.iload_n 2, 1) := dk_28 (by decide +kernel)
theorem dX11_keep_26 : decode cX11_keep 26 = .ok (.iconst 1, 1) := dk_4 (by decide +kernel)
theorem dX11_keep_27 : decode cX11_keep 27 = .ok (.if_icmp .ne 20, 3) := dk_160 (a := 0) (b := 20) (by decide +kernel) rfl
theorem dX11_keep_30 : decode cX11_keep 30 = .ok (.iload_n 3, 1) := dk_29 (by decide +kernel)
theorem dX11_keep_31 : decode cX11_keep 31 = .ok (.ifCond .lt 14, 3) := dk_155 (a := 0) (b := 14) (by decide +kernel) rfl
theorem dX11_keep_34 : decode cX11_keep 34 = .ok (.iload_n 3, 1) := dk_29 (by decide +kernel)
theorem dX11_keep_35 : decode cX11_keep 35 = .ok (.aload_n 0, 1) := dk_42 (by decide +kernel)
theorem dX11_keep_36 : decode cX11_keep 36 = .ok (.getfield 34, 3) := dk_180 (a := 0) (b := 34) (by decide +kernel) rfl
theorem dX11_keep_39 : decode cX11_keep 39 = .ok (.getfield 139, 3) := dk_180 (a := 0) (b := 139) (by decide +kernel) rfl
theorem dX11_keep_42 : decode cX11_keep 42 = .ok (.if_icmp .lt 5, 3) := dk_161 (a := 0) (b := 5) (by decide +kernel) rfl
theorem dX11_keep_45 : decode cX11_keep 45 = .ok (.iconst (-1), 1) := dk_2 (by decide +kernel)
theorem dX11_keep_46 : decode cX11_keep 46 = .ok (.ireturn, 1) := dk_172 (by decide +kernel)
theorem dX11_keep_47 : decode cX11_keep 47 = .ok (.iload_n 2, 1) := dk_28 (by decide +kernel)
theorem dX11_keep_48 : decode cX11_keep 48 = .ok (.ifCond .ne 13, 3) := dk_154 (a := 0) (b := 13) (by decide +kernel) rfl
theorem dX11_keep_51 : decode cX11_keep 51 = .ok (.aload_n 0, 1) := dk_42 (by decide +kernel)
theorem dX11_keep_52 : decode cX11_keep 52 = .ok (.getfield 58, 3) := dk_180 (a := 0) (b := 58) (by decide +kernel) rfl
theorem dX11_keep_55 : decode cX11_keep 55 = .ok (.iload_n 1, 1) := dk_27 (by decide +kernel)
theorem dX11_keep_56 : decode cX11_keep 56 = .ok (.aconst_null, 1) := dk_1 (by decide +kernel)
theorem dX11_keep_57 : decode cX11_keep 57 = .ok (.aastore, 1) := dk_83 (by decide +kernel)
theorem dX11_keep_58 : decode cX11_keep 58 = .ok (.goto 60, 3) := dk_167 (a := 0) (b := 60) (by decide +kernel) rfl
theorem dX11_keep_61 : decode cX11_keep 61 = .ok (.iload_n 2, 1) := dk_28 (by decide +kernel)
theorem dX11_keep_62 : decode cX11_keep 62 = .ok (.iconst 1, 1) := dk_4 (by decide +kernel)
theorem dX11_keep_63 : decode cX11_keep 63 = .ok (.if_icmp .ne 27, 3) := dk_160 (a := 0) (b := 27) (by decide +kernel) rfl
theorem dX11_keep_66 : decode cX11_keep 66 = .ok (.aload_n 0, 1) := dk_42 (by decide +kernel)
theorem dX11_keep_67 : decode cX11_keep 67 = .ok (.getfield 58, 3) := dk_180 (a := 0) (b := 58) (by decide +kernel) rfl
theorem dX11_keep_70 : decode cX11_keep 70 = .ok (.iload_n 1, 1) := dk_27 (by decide +kernel)
theorem dX11_keep_71 : decode cX11_keep 71 = .ok (.aload_n 0, 1) := dk_42 (by decide +kernel)
theorem dX11_keep_72 : decode cX11_keep 72 = .ok (.aload_n 0, 1) := dk_42 (by decide +kernel)
theorem dX11_keep_73 : decode cX11_keep 73 = .ok (.getfield 34, 3) := dk_180 (a := 0) (b := 34) (by decide +kernel) rfl
theorem dX11_keep_76 : decode cX11_keep 76 = .ok (.getfield 120, 3) := dk_180 (a := 0) (b := 120) (by decide +kernel) rfl
theorem dX11_keep_79 : decode cX11_keep 79 = .ok (.invokevirtual 200, 3) := dk_182 (a := 0) (b := 200) (by decide +kernel) rfl
theorem dX11_keep_82 : decode cX11_keep 82 = .ok (.iload_n 3, 1) := dk_29 (by decide +kernel)
theorem dX11_keep_83 : decode cX11_keep 83 = .ok (.invokevirtual 293, 3) := dk_182 (a := 1) (b := 37) (by decide +kernel) rfl
theorem dX11_keep_86 : decode cX11_keep 86 = .ok (.aastore, 1) := dk_83 (by decide +kernel)
theorem dX11_keep_87 : decode cX11_keep 87 = .ok (.goto 31, 3) := dk_167 (a := 0) (b := 31) (by decide +kernel) rfl
theorem dX11_keep_90 : decode cX11_keep 90 = .ok (.iload_n 2, 1) := dk_28 (by decide +kernel)
theorem dX11_keep_91 : decode cX11_keep 91 = .ok (.iconst 2, 1) := dk_5 (by decide +kernel)
theorem dX11_keep_92 : decode cX11_keep 92 = .ok (.if_icmp .ne 16, 3) := dk_160 (a := 0) (b := 16) (by decide +kernel) rfl
theorem dX11_keep_95 : decode cX11_keep 95 = .ok (.aload_n 0, 1) := dk_42 (by decide +kernel)
theorem dX11_keep_96 : decode cX11_keep 96 = .ok (.getfield 58, 3) := dk_180 (a := 0) (b := 58) (by decide +kernel) rfl
theorem dX11_keep_99 : decode cX11_keep 99 = .ok (.iload_n 1, 1) := dk_27 (by decide +kernel)
theorem dX11_keep_100 : decode cX11_keep 100 = .ok (.aload_n 0, 1) := dk_42 (by decide +kernel)
theorem dX11_keep_101 : decode cX11_keep 101 = .ok (.invokevirtual 297, 3) := dk_182 (a := 1) (b := 41) (by decide +kernel) rfl
theorem dX11_keep_104 : decode cX11_keep 104 = .ok (.aastore, 1) := dk_83 (by decide +kernel)
theorem dX11_keep_105 : decode cX11_keep 105 = .ok (.goto 13, 3) := dk_167 (a := 0) (b := 13) (by decide +kernel) rfl
theorem dX11_keep_108 : decode cX11_keep 108 = .ok (.aload_n 0, 1) := dk_42 (by decide +kernel)
theorem dX11_keep_109 : decode cX11_keep 109 = .ok (.getfield 58, 3) := dk_180 (a := 0) (b := 58) (by decide +kernel) rfl
theorem dX11_keep_112 : decode cX11_keep 112 = .ok (.iload_n 1, 1) := dk_27 (by decide +kernel)
theorem dX11_keep_113 : decode cX11_keep 113 = .ok (.aload_n 0, 1) := dk_42 (by decide +kernel)
theorem dX11_keep_114 : decode cX11_keep 114 = .ok (.invokevirtual 301, 3) := dk_182 (a := 1) (b := 45) (by decide +kernel) rfl
theorem dX11_keep_117 : decode cX11_keep 117 = .ok (.aastore, 1) := dk_83 (by decide +kernel)
theorem dX11_keep_118 : decode cX11_keep 118 = .ok (.iconst 0, 1) := dk_3 (by decide +kernel)
theorem dX11_keep_119 : decode cX11_keep 119 = .ok (.ireturn, 1) := dk_172 (by decide +kernel)
theorem dX11_make_0 : decode cX11_make 0 = .ok (.iload_n 1, 1) := dk_27 (by decide +kernel)
theorem dX11_make_1 : decode cX11_make 1 = .ok (.invokestatic 290, 3) := dk_184 (a := 1) (b := 34) (by decide +kernel) rfl
theorem dX11_make_4 : decode cX11_make 4 = .ok (.ifCond .eq 19, 3) := dk_153 (a := 0) (b := 19) (by decide +kernel) rfl
theorem dX11_make_7 : decode cX11_make 7 = .ok (.iload_n 2, 1) := dk_28 (by decide +kernel)
theorem dX11_make_8 : decode cX11_make 8 = .ok (.iconst 2, 1) := dk_5 (by decide +kernel)
theorem dX11_make_9 : decode cX11_make 9 = .ok (.if_icmp .lt 14, 3) := dk_161 (a := 0) (b := 14) (by decide +kernel) rfl
theorem dX11_make_12 : decode cX11_make 12 = .ok (.iload_n 2, 1) := dk_28 (by decide +kernel)
theorem dX11_make_13 : decode cX11_make 13 = .ok (.iconst 3, 1) := dk_6 (by decide +kernel)
theorem dX11_make_14 : decode cX11_make 14 = .ok (.if_icmp .gt 9, 3) := dk_163 (a := 0) (b := 9) (by decide +kernel) rfl
theorem dX11_make_17 : decode cX11_make 17 = .ok (.iload_n 3, 1) := dk_29 (by decide +kernel)
theorem dX11_make_18 : decode cX11_make 18 = .ok (.bipush 60, 2) := dk_16 (a := 60) (by decide +kernel) rfl
theorem dX11_make_20 : decode cX11_make 20 = .ok (.if_icmp .le 5, 3) := dk_164 (a := 0) (b := 5) (by decide +kernel) rfl
theorem dX11_make_23 : decode cX11_make 23 = .ok (.iconst (-1), 1) := dk_2 (by decide +kernel)
theorem dX11_make_24 : decode cX11_make 24 = .ok (.ireturn, 1) := dk_172 (by decide +kernel)
theorem dX11_make_25 : decode cX11_make 25 = .ok (.iload_n 3, 1) := dk_29 (by decide +kernel)
theorem dX11_make_26 : decode cX11_make 26 = .ok (.ifCond .ge 6, 3) := dk_156 (a := 0) (b := 6) (by decide +kernel) rfl
theorem dX11_make_29 : decode cX11_make 29 = .ok (.bipush (-14), 2) := dk_16 (a := 242) (by decide +kernel) rfl
theorem dX11_make_31 : decode cX11_make 31 = .ok (.ireturn, 1) := dk_172 (by decide +kernel)
theorem dX11_make_32 : decode cX11_make 32 = .ok (.iload_n 2, 1) := dk_28 (by decide +kernel)
theorem dX11_make_33 : decode cX11_make 33 = .ok (.iconst 2, 1) := dk_5 (by decide +kernel)
theorem dX11_make_34 : decode cX11_make 34 = .ok (.if_icmp .ne 22, 3) := dk_160 (a := 0) (b := 22) (by decide +kernel) rfl
theorem dX11_make_37 : decode cX11_make 37 = .ok (.aload_n 0, 1) := dk_42 (by decide +kernel)
theorem dX11_make_38 : decode cX11_make 38 = .ok (.getfield 58, 3) := dk_180 (a := 0) (b := 58) (by decide +kernel) rfl
theorem dX11_make_41 : decode cX11_make 41 = .ok (.iload_n 1, 1) := dk_27 (by decide +kernel)
theorem dX11_make_42 : decode cX11_make 42 = .ok (.new 304, 3) := dk_187 (a := 1) (b := 48) (by decide +kernel) rfl
theorem dX11_make_45 : decode cX11_make 45 = .ok (.dup, 1) := dk_89 (by decide +kernel)
theorem dX11_make_46 : decode cX11_make 46 = .ok (.iload_n 3, 1) := dk_29 (by decide +kernel)
theorem dX11_make_47 : decode cX11_make 47 = .ok (.newarray .byte, 2) := by decide +kernel
theorem dX11_make_49 : decode cX11_make 49 = .ok (.invokespecial 306, 3) := dk_183 (a := 1) (b := 50) (by decide +kernel) rfl
theorem dX11_make_52 : decode cX11_make 52 = .ok (.aastore, 1) := dk_83 (by decide +kernel)
theorem dX11_make_53 : decode cX11_make 53 = .ok (.goto 19, 3) := dk_167 (a := 0) (b := 19) (by decide +kernel) rfl
theorem dX11_make_56 : decode cX11_make 56 = .ok (.aload_n 0, 1) := dk_42 (by decide +kernel)
theorem dX11_make_57 : decode cX11_make 57 = .ok (.getfield 58, 3) := dk_180 (a := 0) (b := 58) (by decide +kernel) rfl
theorem dX11_make_60 : decode cX11_make 60 = .ok (.iload_n 1, 1) := dk_27 (by decide +kernel)
theorem dX11_make_61 : decode cX11_make 61 = .ok (.new 309, 3) := dk_187 (a := 1) (b := 53) (by decide +kernel) rfl
theorem dX11_make_64 : decode cX11_make 64 = .ok (.dup, 1) := dk_89 (by decide +kernel)
theorem dX11_make_65 : decode cX11_make 65 = .ok (.iload_n 3, 1) := dk_29 (by decide +kernel)
theorem dX11_make_66 : decode cX11_make 66 = .ok (.newarray .int, 2) := by decide +kernel
theorem dX11_make_68 : decode cX11_make 68 = .ok (.invokespecial 311, 3) := dk_183 (a := 1) (b := 55) (by decide +kernel) rfl
theorem dX11_make_71 : decode cX11_make 71 = .ok (.aastore, 1) := dk_83 (by decide +kernel)
theorem dX11_make_72 : decode cX11_make 72 = .ok (.iconst 0, 1) := dk_3 (by decide +kernel)
theorem dX11_make_73 : decode cX11_make 73 = .ok (.ireturn, 1) := dk_172 (by decide +kernel)
theorem dX11_element_0 : decode cX11_element 0 = .ok (.iload_n 1, 1) := dk_27 (by decide +kernel)
theorem dX11_element_1 : decode cX11_element 1 = .ok (.invokestatic 290, 3) := dk_184 (a := 1) (b := 34) (by decide +kernel) rfl
theorem dX11_element_4 : decode cX11_element 4 = .ok (.ifCond .ne 14, 3) := dk_154 (a := 0) (b := 14) (by decide +kernel) rfl
theorem dX11_element_7 : decode cX11_element 7 = .ok (.new 195, 3) := dk_187 (a := 0) (b := 195) (by decide +kernel) rfl
theorem dX11_element_10 : decode cX11_element 10 = .ok (.dup, 1) := dk_89 (by decide +kernel)
theorem dX11_element_11 : decode cX11_element 11 = .ok (.ldc_w 314, 3) := by decide +kernel
theorem dX11_element_14 : decode cX11_element 14 = .ok (.invokespecial 199, 3) := dk_183 (a := 0) (b := 199) (by decide +kernel) rfl
theorem dX11_element_17 : decode cX11_element 17 = .ok (.athrow, 1) := dk_191 (by decide +kernel)
theorem dX11_element_18 : decode cX11_element 18 = .ok (.aload_n 0, 1) := dk_42 (by decide +kernel)
theorem dX11_element_19 : decode cX11_element 19 = .ok (.getfield 58, 3) := dk_180 (a := 0) (b := 58) (by decide +kernel) rfl
theorem dX11_element_22 : decode cX11_element 22 = .ok (.iload_n 1, 1) := dk_27 (by decide +kernel)
theorem dX11_element_23 : decode cX11_element 23 = .ok (.aaload, 1) := dk_50 (by decide +kernel)
theorem dX11_element_24 : decode cX11_element 24 = .ok (.astore_n 3, 1) := dk_78 (by decide +kernel)
theorem dX11_element_25 : decode cX11_element 25 = .ok (.aload_n 3, 1) := dk_45 (by decide +kernel)
theorem dX11_element_26 : decode cX11_element 26 = .ok (.ifnull 15, 3) := dk_198 (a := 0) (b := 15) (by decide +kernel) rfl
theorem dX11_element_29 : decode cX11_element 29 = .ok (.iload_n 2, 1) := dk_28 (by decide +kernel)
theorem dX11_element_30 : decode cX11_element 30 = .ok (.ifCond .lt 11, 3) := dk_155 (a := 0) (b := 11) (by decide +kernel) rfl
theorem dX11_element_33 : decode cX11_element 33 = .ok (.iload_n 2, 1) := dk_28 (by decide +kernel)
theorem dX11_element_34 : decode cX11_element 34 = .ok (.aload_n 3, 1) := dk_45 (by decide +kernel)
theorem dX11_element_35 : decode cX11_element 35 = .ok (.invokevirtual 316, 3) := dk_182 (a := 1) (b := 60) (by decide +kernel) rfl
theorem dX11_element_38 : decode cX11_element 38 = .ok (.if_icmp .lt 14, 3) := dk_161 (a := 0) (b := 14) (by decide +kernel) rfl
theorem dX11_element_41 : decode cX11_element 41 = .ok (.new 182, 3) := dk_187 (a := 0) (b := 182) (by decide +kernel) rfl
theorem dX11_element_44 : decode cX11_element 44 = .ok (.dup, 1) := dk_89 (by decide +kernel)
theorem dX11_element_45 : decode cX11_element 45 = .ok (.ldc_w 319, 3) := by decide +kernel
theorem dX11_element_48 : decode cX11_element 48 = .ok (.invokespecial 186, 3) := dk_183 (a := 0) (b := 186) (by decide +kernel) rfl
theorem dX11_element_51 : decode cX11_element 51 = .ok (.athrow, 1) := dk_191 (by decide +kernel)
theorem dX11_element_52 : decode cX11_element 52 = .ok (.aload_n 3, 1) := dk_45 (by decide +kernel)
theorem dX11_element_53 : decode cX11_element 53 = .ok (.iload_n 2, 1) := dk_28 (by decide +kernel)
theorem dX11_element_54 : decode cX11_element 54 = .ok (.invokevirtual 321, 3) := dk_182 (a := 1) (b := 65) (by decide +kernel) rfl
theorem dX11_element_57 : decode cX11_element 57 = .ok (.ireturn, 1) := dk_172 (by decide +kernel)
theorem dX11_copy_0 : decode cX11_copy 0 = .ok (.iload_n 1, 1) := dk_27 (by decide +kernel)
theorem dX11_copy_1 : decode cX11_copy 1 = .ok (.invokestatic 290, 3) := dk_184 (a := 1) (b := 34) (by decide +kernel) rfl
theorem dX11_copy_4 : decode cX11_copy 4 = .ok (.ifCond .eq 10, 3) := dk_153 (a := 0) (b := 10) (by decide +kernel) rfl
theorem dX11_copy_7 : decode cX11_copy 7 = .ok (.iload_n 3, 1) := dk_29 (by decide +kernel)
theorem dX11_copy_8 : decode cX11_copy 8 = .ok (.invokestatic 290, 3) := dk_184 (a := 1) (b := 34) (by decide +kernel) rfl
theorem dX11_copy_11 : decode cX11_copy 11 = .ok (.ifCond .ne 5, 3) := dk_154 (a := 0) (b := 5) (by decide +kernel) rfl
theorem dX11_copy_14 : decode cX11_copy 14 = .ok (.iconst (-1), 1) := dk_2 (by decide +kernel)
theorem dX11_copy_15 : decode cX11_copy 15 = .ok (.ireturn, 1) := dk_172 (by decide +kernel)
theorem dX11_copy_16 : decode cX11_copy 16 = .ok (.aload_n 0, 1) := dk_42 (by decide +kernel)
theorem dX11_copy_17 : decode cX11_copy 17 = .ok (.getfield 58, 3) := dk_180 (a := 0) (b := 58) (by decide +kernel) rfl
theorem dX11_copy_20 : decode cX11_copy 20 = .ok (.iload_n 1, 1) := dk_27 (by decide +kernel)
theorem dX11_copy_21 : decode cX11_copy 21 = .ok (.aaload, 1) := dk_50 (by decide +kernel)
theorem dX11_copy_22 : decode cX11_copy 22 = .ok (.astore 6, 2) := dk_58 (by decide +kernel)
theorem dX11_copy_24 : decode cX11_copy 24 = .ok (.aload_n 0, 1) := dk_42 (by decide +kernel)
theorem dX11_copy_25 : decode cX11_copy 25 = .ok (.getfield 58, 3) := dk_180 (a := 0) (b := 58) (by decide +kernel) rfl
theorem dX11_copy_28 : decode cX11_copy 28 = .ok (.iload_n 3, 1) := dk_29 (by decide +kernel)
theorem dX11_copy_29 : decode cX11_copy 29 = .ok (.aaload, 1) := dk_50 (by decide +kernel)
theorem dX11_copy_30 : decode cX11_copy 30 = .ok (.astore 7, 2) := dk_58 (by decide +kernel)
theorem dX11_copy_32 : decode cX11_copy 32 = .ok (.aload 6, 2) := dk_25 (by decide +kernel)
theorem dX11_copy_34 : decode cX11_copy 34 = .ok (.ifnull 8, 3) := dk_198 (a := 0) (b := 8) (by decide +kernel) rfl
theorem dX11_copy_37 : decode cX11_copy 37 = .ok (.aload 7, 2) := dk_25 (by decide +kernel)
theorem dX11_copy_39 : decode cX11_copy 39 = .ok (.ifnonnull 6, 3) := dk_199 (a := 0) (b := 6) (by decide +kernel) rfl
theorem dX11_copy_42 : decode cX11_copy 42 = .ok (.bipush (-11), 2) := dk_16 (a := 245) (by decide +kernel) rfl
theorem dX11_copy_44 : decode cX11_copy 44 = .ok (.ireturn, 1) := dk_172 (by decide +kernel)
theorem dX11_copy_45 : decode cX11_copy 45 = .ok (.aload 7, 2) := dk_25 (by decide +kernel)
theorem dX11_copy_47 : decode cX11_copy 47 = .ok (.aload 6, 2) := dk_25 (by decide +kernel)
theorem dX11_copy_49 : decode cX11_copy 49 = .ok (.invokevirtual 324, 3) := dk_182 (a := 1) (b := 68) (by decide +kernel) rfl
theorem dX11_copy_52 : decode cX11_copy 52 = .ok (.ifCond .ne 6, 3) := dk_154 (a := 0) (b := 6) (by decide +kernel) rfl
theorem dX11_copy_55 : decode cX11_copy 55 = .ok (.bipush (-12), 2) := dk_16 (a := 244) (by decide +kernel) rfl
theorem dX11_copy_57 : decode cX11_copy 57 = .ok (.ireturn, 1) := dk_172 (by decide +kernel)
theorem dX11_copy_58 : decode cX11_copy 58 = .ok (.iload_n 2, 1) := dk_28 (by decide +kernel)
theorem dX11_copy_59 : decode cX11_copy 59 = .ok (.iload 5, 2) := dk_21 (by decide +kernel)
theorem dX11_copy_61 : decode cX11_copy 61 = .ok (.aload 6, 2) := dk_25 (by decide +kernel)
theorem dX11_copy_63 : decode cX11_copy 63 = .ok (.invokevirtual 316, 3) := dk_182 (a := 1) (b := 60) (by decide +kernel) rfl
theorem dX11_copy_66 : decode cX11_copy 66 = .ok (.invokestatic 328, 3) := dk_184 (a := 1) (b := 72) (by decide +kernel) rfl
theorem dX11_copy_69 : decode cX11_copy 69 = .ok (.ifCond .eq 18, 3) := dk_153 (a := 0) (b := 18) (by decide +kernel) rfl
theorem dX11_copy_72 : decode cX11_copy 72 = .ok (.iload 4, 2) := dk_21 (by decide +kernel)
theorem dX11_copy_74 : decode cX11_copy 74 = .ok (.iload 5, 2) := dk_21 (by decide +kernel)
theorem dX11_copy_76 : decode cX11_copy 76 = .ok (.aload 7, 2) := dk_25 (by decide +kernel)
theorem dX11_copy_78 : decode cX11_copy 78 = .ok (.invokevirtual 316, 3) := dk_182 (a := 1) (b := 60) (by decide +kernel) rfl
theorem dX11_copy_81 : decode cX11_copy 81 = .ok (.invokestatic 328, 3) := dk_184 (a := 1) (b := 72) (by decide +kernel) rfl
theorem dX11_copy_84 : decode cX11_copy 84 = .ok (.ifCond .ne 6, 3) := dk_154 (a := 0) (b := 6) (by decide +kernel) rfl
theorem dX11_copy_87 : decode cX11_copy 87 = .ok (.bipush (-13), 2) := dk_16 (a := 243) (by decide +kernel) rfl
theorem dX11_copy_89 : decode cX11_copy 89 = .ok (.ireturn, 1) := dk_172 (by decide +kernel)
theorem dX11_copy_90 : decode cX11_copy 90 = .ok (.aload 7, 2) := dk_25 (by decide +kernel)
theorem dX11_copy_92 : decode cX11_copy 92 = .ok (.iload 4, 2) := dk_21 (by decide +kernel)
theorem dX11_copy_94 : decode cX11_copy 94 = .ok (.aload 6, 2) := dk_25 (by decide +kernel)
theorem dX11_copy_96 : decode cX11_copy 96 = .ok (.iload_n 2, 1) := dk_28 (by decide +kernel)
theorem dX11_copy_97 : decode cX11_copy 97 = .ok (.iload 5, 2) := dk_21 (by decide +kernel)
theorem dX11_copy_99 : decode cX11_copy 99 = .ok (.invokevirtual 332, 3) := dk_182 (a := 1) (b := 76) (by decide +kernel) rfl
theorem dX11_copy_102 : decode cX11_copy 102 = .ok (.iload 5, 2) := dk_21 (by decide +kernel)
theorem dX11_copy_104 : decode cX11_copy 104 = .ok (.ireturn, 1) := dk_172 (by decide +kernel)
theorem dX11_weight_0 : decode cX11_weight 0 = .ok (.iload_n 1, 1) := dk_27 (by decide +kernel)
theorem dX11_weight_1 : decode cX11_weight 1 = .ok (.invokestatic 290, 3) := dk_184 (a := 1) (b := 34) (by decide +kernel) rfl
theorem dX11_weight_4 : decode cX11_weight 4 = .ok (.ifCond .ne 5, 3) := dk_154 (a := 0) (b := 5) (by decide +kernel) rfl
theorem dX11_weight_7 : decode cX11_weight 7 = .ok (.iconst (-1), 1) := dk_2 (by decide +kernel)
theorem dX11_weight_8 : decode cX11_weight 8 = .ok (.ireturn, 1) := dk_172 (by decide +kernel)
theorem dX11_weight_9 : decode cX11_weight 9 = .ok (.aload_n 0, 1) := dk_42 (by decide +kernel)
theorem dX11_weight_10 : decode cX11_weight 10 = .ok (.getfield 58, 3) := dk_180 (a := 0) (b := 58) (by decide +kernel) rfl
theorem dX11_weight_13 : decode cX11_weight 13 = .ok (.iload_n 1, 1) := dk_27 (by decide +kernel)
theorem dX11_weight_14 : decode cX11_weight 14 = .ok (.aaload, 1) := dk_50 (by decide +kernel)
theorem dX11_weight_15 : decode cX11_weight 15 = .ok (.astore_n 2, 1) := dk_77 (by decide +kernel)
theorem dX11_weight_16 : decode cX11_weight 16 = .ok (.aload_n 2, 1) := dk_44 (by decide +kernel)
theorem dX11_weight_17 : decode cX11_weight 17 = .ok (.ifnonnull 6, 3) := dk_199 (a := 0) (b := 6) (by decide +kernel) rfl
theorem dX11_weight_20 : decode cX11_weight 20 = .ok (.bipush (-11), 2) := dk_16 (a := 245) (by decide +kernel) rfl
theorem dX11_weight_22 : decode cX11_weight 22 = .ok (.ireturn, 1) := dk_172 (by decide +kernel)
theorem dX11_weight_23 : decode cX11_weight 23 = .ok (.aload_n 2, 1) := dk_44 (by decide +kernel)
theorem dX11_weight_24 : decode cX11_weight 24 = .ok (.invokevirtual 336, 3) := dk_182 (a := 1) (b := 80) (by decide +kernel) rfl
theorem dX11_weight_27 : decode cX11_weight 27 = .ok (.ifCond .eq 10, 3) := dk_153 (a := 0) (b := 10) (by decide +kernel) rfl
theorem dX11_weight_30 : decode cX11_weight 30 = .ok (.aload_n 2, 1) := dk_44 (by decide +kernel)
theorem dX11_weight_31 : decode cX11_weight 31 = .ok (.invokevirtual 340, 3) := dk_182 (a := 1) (b := 84) (by decide +kernel) rfl
theorem dX11_weight_34 : decode cX11_weight 34 = .ok (.goto 5, 3) := dk_167 (a := 0) (b := 5) (by decide +kernel) rfl
theorem dX11_weight_37 : decode cX11_weight 37 = .ok (.bipush (-12), 2) := dk_16 (a := 244) (by decide +kernel) rfl
theorem dX11_weight_39 : decode cX11_weight 39 = .ok (.ireturn, 1) := dk_172 (by decide +kernel)
theorem dX11_toss_0 : decode cX11_toss 0 = .ok (.iload_n 1, 1) := dk_27 (by decide +kernel)
theorem dX11_toss_1 : decode cX11_toss 1 = .ok (.invokestatic 290, 3) := dk_184 (a := 1) (b := 34) (by decide +kernel) rfl
theorem dX11_toss_4 : decode cX11_toss 4 = .ok (.ifCond .ne 5, 3) := dk_154 (a := 0) (b := 5) (by decide +kernel) rfl
theorem dX11_toss_7 : decode cX11_toss 7 = .ok (.iconst (-1), 1) := dk_2 (by decide +kernel)
theorem dX11_toss_8 : decode cX11_toss 8 = .ok (.ireturn, 1) := dk_172 (by decide +kernel)
theorem dX11_toss_9 : decode cX11_toss 9 = .ok (.aload_n 0, 1) := dk_42 (by decide +kernel)
theorem dX11_toss_10 : decode cX11_toss 10 = .ok (.getfield 58, 3) := dk_180 (a := 0) (b := 58) (by decide +kernel) rfl
theorem dX11_toss_13 : decode cX11_toss 13 = .ok (.iload_n 1, 1) := dk_27 (by decide +kernel)
theorem dX11_toss_14 : decode cX11_toss 14 = .ok (.aaload, 1) := dk_50 (by decide +kernel)
theorem dX11_toss_15 : decode cX11_toss 15 = .ok (.astore_n 2, 1) := dk_77 (by decide +kernel)
theorem dX11_toss_16 : decode cX11_toss 16 = .ok (.aload_n 2, 1) := dk_44 (by decide +kernel)
theorem dX11_toss_17 : decode cX11_toss 17 = .ok (.ifnonnull 6, 3) := dk_199 (a := 0) (b := 6) (by decide +kernel) rfl
theorem dX11_toss_20 : decode cX11_toss 20 = .ok (.bipush (-11), 2) := dk_16 (a := 245) (by decide +kernel) rfl
theorem dX11_toss_22 : decode cX11_toss 22 = .ok (.ireturn, 1) := dk_172 (by decide +kernel)
theorem dX11_toss_23 : decode cX11_toss 23 = .ok (.aload_n 2, 1) := dk_44 (by decide +kernel)
theorem dX11_toss_24 : decode cX11_toss 24 = .ok (.invokevirtual 336, 3) := dk_182 (a := 1) (b := 80) (by decide +kernel) rfl
theorem dX11_toss_27 : decode cX11_toss 27 = .ok (.ifCond .eq 10, 3) := dk_153 (a := 0) (b := 10) (by decide +kernel) rfl
theorem dX11_toss_30 : decode cX11_toss 30 = .ok (.aload_n 2, 1) := dk_44 (by decide +kernel)
theorem dX11_toss_31 : decode cX11_toss 31 = .ok (.invokestatic 343, 3) := dk_184 (a := 1) (b := 87) (by decide +kernel) rfl
theorem dX11_toss_34 : decode cX11_toss 34 = .ok (.goto 5, 3) := dk_167 (a := 0) (b := 5) (by decide +kernel) rfl
theorem dX11_toss_37 : decode cX11_toss 37 = .ok (.bipush (-12), 2) := dk_16 (a := 244) (by decide +kernel) rfl
theorem dX11_toss_39 : decode cX11_toss 39 = .ok (.ireturn, 1) := dk_172 (by decide +kernel)
theorem dX11_caughtFrom_0 : decode cX11_caughtFrom 0 = .ok (.aload_n 0, 1) := dk_42 (by decide +kernel)
theorem dX11_caughtFrom_1 : decode cX11_caughtFrom 1 = .ok (.invokevirtual 347, 3) := dk_182 (a := 1) (b := 91) (by decide +kernel) rfl
theorem dX11_caughtFrom_4 : decode cX11_caughtFrom 4 = .ok (.goto 13, 3) := dk_167 (a := 0) (b := 13) (by decide +kernel) rfl
theorem dX11_caughtFrom_7 : decode cX11_caughtFrom 7 = .ok (.astore_n 1, 1) := dk_76 (by decide +kernel)
theorem dX11_caughtFrom_8 : decode cX11_caughtFrom 8 = .ok (.bipush (-15), 2) := dk_16 (a := 241) (by decide +kernel) rfl
theorem dX11_caughtFrom_10 : decode cX11_caughtFrom 10 = .ok (.ireturn, 1) := dk_172 (by decide +kernel)
theorem dX11_caughtFrom_11 : decode cX11_caughtFrom 11 = .ok (.astore_n 1, 1) := dk_76 (by decide +kernel)
theorem dX11_caughtFrom_12 : decode cX11_caughtFrom 12 = .ok (.aload_n 0, 1) := dk_42 (by decide +kernel)
theorem dX11_caughtFrom_13 : decode cX11_caughtFrom 13 = .ok (.getfield 352, 3) := dk_180 (a := 1) (b := 96) (by decide +kernel) rfl
theorem dX11_caughtFrom_16 : decode cX11_caughtFrom 16 = .ok (.ireturn, 1) := dk_172 (by decide +kernel)
theorem dX11_caughtFrom_17 : decode cX11_caughtFrom 17 = .ok (.bipush (-15), 2) := dk_16 (a := 241) (by decide +kernel) rfl
theorem dX11_caughtFrom_19 : decode cX11_caughtFrom 19 = .ok (.ireturn, 1) := dk_172 (by decide +kernel)
theorem dX11_threadsOfFirstSteps_0 : decode cX11_threadsOfFirstSteps 0 = .ok (.aload_n 0, 1) := dk_42 (by decide +kernel)
theorem dX11_threadsOfFirstSteps_1 : decode cX11_threadsOfFirstSteps 1 = .ok (.getfield 34, 3) := dk_180 (a := 0) (b := 34) (by decide +kernel) rfl
theorem dX11_threadsOfFirstSteps_4 : decode cX11_threadsOfFirstSteps 4 = .ok (.getfield 120, 3) := dk_180 (a := 0) (b := 120) (by decide +kernel) rfl
theorem dX11_threadsOfFirstSteps_7 : decode cX11_threadsOfFirstSteps 7 = .ok (.bipush 60, 2) := dk_16 (a := 60) (by decide +kernel) rfl
theorem dX11_threadsOfFirstSteps_9 : decode cX11_threadsOfFirstSteps 9 = .ok (.invokestatic 361, 3) := dk_184 (a := 1) (b := 105) (by decide +kernel) rfl
theorem dX11_threadsOfFirstSteps_12 : decode cX11_threadsOfFirstSteps 12 = .ok (.istore_n 1, 1) := dk_60 (by decide +kernel)
theorem dX11_threadsOfFirstSteps_13 : decode cX11_threadsOfFirstSteps 13 = .ok (.iload_n 1, 1) := dk_27 (by decide +kernel)
theorem dX11_threadsOfFirstSteps_14 : decode cX11_threadsOfFirstSteps 14 = .ok (.iconst 0, 1) := dk_3 (by decide +kernel)
theorem dX11_threadsOfFirstSteps_15 : decode cX11_threadsOfFirstSteps 15 = .ok (.invokestatic 366, 3) := dk_184 (a := 1) (b := 110) (by decide +kernel) rfl
theorem dX11_threadsOfFirstSteps_18 : decode cX11_threadsOfFirstSteps 18 = .ok (.newarray .byte, 2) := by decide +kernel
theorem dX11_threadsOfFirstSteps_20 : decode cX11_threadsOfFirstSteps 20 = .ok (.astore_n 2, 1) := dk_77 (by decide +kernel)
theorem dX11_threadsOfFirstSteps_21 : decode cX11_threadsOfFirstSteps 21 = .ok (.iconst 0, 1) := dk_3 (by decide +kernel)
theorem dX11_threadsOfFirstSteps_22 : decode cX11_threadsOfFirstSteps 22 = .ok (.istore_n 3, 1) := dk_62 (by decide +kernel)
theorem dX11_threadsOfFirstSteps_23 : decode cX11_threadsOfFirstSteps 23 = .ok (.iload_n 3, 1) := dk_29 (by decide +kernel)
theorem dX11_threadsOfFirstSteps_24 : decode cX11_threadsOfFirstSteps 24 = .ok (.aload_n 2, 1) := dk_44 (by decide +kernel)
theorem dX11_threadsOfFirstSteps_25 : decode cX11_threadsOfFirstSteps 25 = .ok (.arraylength, 1) := dk_190 (by decide +kernel)
theorem dX11_threadsOfFirstSteps_26 : decode cX11_threadsOfFirstSteps 26 = .ok (.if_icmp .ge 24, 3) := dk_162 (a := 0) (b := 24) (by decide +kernel) rfl
theorem dX11_threadsOfFirstSteps_29 : decode cX11_threadsOfFirstSteps 29 = .ok (.aload_n 2, 1) := dk_44 (by decide +kernel)
theorem dX11_threadsOfFirstSteps_30 : decode cX11_threadsOfFirstSteps 30 = .ok (.iload_n 3, 1) := dk_29 (by decide +kernel)
theorem dX11_threadsOfFirstSteps_31 : decode cX11_threadsOfFirstSteps 31 = .ok (.aload_n 0, 1) := dk_42 (by decide +kernel)
theorem dX11_threadsOfFirstSteps_32 : decode cX11_threadsOfFirstSteps 32 = .ok (.getfield 34, 3) := dk_180 (a := 0) (b := 34) (by decide +kernel) rfl
theorem dX11_threadsOfFirstSteps_35 : decode cX11_threadsOfFirstSteps 35 = .ok (.getfield 154, 3) := dk_180 (a := 0) (b := 154) (by decide +kernel) rfl
theorem dX11_threadsOfFirstSteps_38 : decode cX11_threadsOfFirstSteps 38 = .ok (.iload_n 3, 1) := dk_29 (by decide +kernel)
theorem dX11_threadsOfFirstSteps_39 : decode cX11_threadsOfFirstSteps 39 = .ok (.iconst 1, 1) := dk_4 (by decide +kernel)
theorem dX11_threadsOfFirstSteps_40 : decode cX11_threadsOfFirstSteps 40 = .ok (.iadd, 1) := dk_96 (by decide +kernel)
theorem dX11_threadsOfFirstSteps_41 : decode cX11_threadsOfFirstSteps 41 = .ok (.iaload, 1) := dk_46 (by decide +kernel)
theorem dX11_threadsOfFirstSteps_42 : decode cX11_threadsOfFirstSteps 42 = .ok (.i2b, 1) := by decide +kernel
theorem dX11_threadsOfFirstSteps_43 : decode cX11_threadsOfFirstSteps 43 = .ok (.bastore, 1) := dk_84 (by decide +kernel)
theorem dX11_threadsOfFirstSteps_44 : decode cX11_threadsOfFirstSteps 44 = .ok (.iinc 3 1, 3) := dk_132 (b := 1) (by decide +kernel) rfl
theorem dX11_threadsOfFirstSteps_47 : decode cX11_threadsOfFirstSteps 47 = .ok (.goto (-24), 3) := dk_167 (a := 255) (b := 232) (by decide +kernel) rfl
theorem dX11_threadsOfFirstSteps_50 : decode cX11_threadsOfFirstSteps 50 = .ok (.new 304, 3) := dk_187 (a := 1) (b := 48) (by decide +kernel) rfl
theorem dX11_threadsOfFirstSteps_53 : decode cX11_threadsOfFirstSteps 53 = .ok (.dup, 1) := dk_89 (by decide +kernel)
theorem dX11_threadsOfFirstSteps_54 : decode cX11_threadsOfFirstSteps 54 = .ok (.aload_n 2, 1) := dk_44 (by decide +kernel)
theorem dX11_threadsOfFirstSteps_55 : decode cX11_threadsOfFirstSteps 55 = .ok (.invokespecial 306, 3) := dk_183 (a := 1) (b := 50) (by decide +kernel) rfl
theorem dX11_threadsOfFirstSteps_58 : decode cX11_threadsOfFirstSteps 58 = .ok (.areturn, 1) := dk_176 (by decide +kernel)
theorem dX11_numbersOfCells_0 : decode cX11_numbersOfCells 0 = .ok (.aload_n 0, 1) := dk_42 (by decide +kernel)
theorem dX11_numbersOfCells_1 : decode cX11_numbersOfCells 1 = .ok (.aload_n 0, 1) := dk_42 (by decide +kernel)
theorem dX11_numbersOfCells_2 : decode cX11_numbersOfCells 2 = .ok (.getfield 34, 3) := dk_180 (a := 0) (b := 34) (by decide +kernel) rfl
theorem dX11_numbersOfCells_5 : decode cX11_numbersOfCells 5 = .ok (.getfield 120, 3) := dk_180 (a := 0) (b := 120) (by decide +kernel) rfl
theorem dX11_numbersOfCells_8 : decode cX11_numbersOfCells 8 = .ok (.invokevirtual 200, 3) := dk_182 (a := 0) (b := 200) (by decide +kernel) rfl
theorem dX11_numbersOfCells_11 : decode cX11_numbersOfCells 11 = .ok (.astore_n 1, 1) := dk_76 (by decide +kernel)
theorem dX11_numbersOfCells_12 : decode cX11_numbersOfCells 12 = .ok (.bipush 12, 2) := dk_16 (a := 12) (by decide +kernel) rfl
theorem dX11_numbersOfCells_14 : decode cX11_numbersOfCells 14 = .ok (.newarray .int, 2) := by decide +kernel
theorem dX11_numbersOfCells_16 : decode cX11_numbersOfCells 16 = .ok (.astore_n 2, 1) := dk_77 (by decide +kernel)
theorem dX11_numbersOfCells_17 : decode cX11_numbersOfCells 17 = .ok (.iconst 0, 1) := dk_3 (by decide +kernel)
theorem dX11_numbersOfCells_18 : decode cX11_numbersOfCells 18 = .ok (.istore_n 3, 1) := dk_62 (by decide +kernel)
theorem dX11_numbersOfCells_19 : decode cX11_numbersOfCells 19 = .ok (.iload_n 3, 1) := dk_29 (by decide +kernel)
theorem dX11_numbersOfCells_20 : decode cX11_numbersOfCells 20 = .ok (.bipush 12, 2) := dk_16 (a := 12) (by decide +kernel) rfl
theorem dX11_numbersOfCells_22 : decode cX11_numbersOfCells 22 = .ok (.if_icmp .ge 31, 3) := dk_162 (a := 0) (b := 31) (by decide +kernel) rfl
theorem dX11_numbersOfCells_25 : decode cX11_numbersOfCells 25 = .ok (.aload_n 2, 1) := dk_44 (by decide +kernel)
theorem dX11_numbersOfCells_26 : decode cX11_numbersOfCells 26 = .ok (.iload_n 3, 1) := dk_29 (by decide +kernel)
theorem dX11_numbersOfCells_27 : decode cX11_numbersOfCells 27 = .ok (.aload_n 1, 1) := dk_43 (by decide +kernel)
theorem dX11_numbersOfCells_28 : decode cX11_numbersOfCells 28 = .ok (.getfield 204, 3) := dk_180 (a := 0) (b := 204) (by decide +kernel) rfl
theorem dX11_numbersOfCells_31 : decode cX11_numbersOfCells 31 = .ok (.iload_n 3, 1) := dk_29 (by decide +kernel)
theorem dX11_numbersOfCells_32 : decode cX11_numbersOfCells 32 = .ok (.iaload, 1) := dk_46 (by decide +kernel)
theorem dX11_numbersOfCells_33 : decode cX11_numbersOfCells 33 = .ok (.ifCond .ne 12, 3) := dk_154 (a := 0) (b := 12) (by decide +kernel) rfl
theorem dX11_numbersOfCells_36 : decode cX11_numbersOfCells 36 = .ok (.aload_n 1, 1) := dk_43 (by decide +kernel)
theorem dX11_numbersOfCells_37 : decode cX11_numbersOfCells 37 = .ok (.getfield 207, 3) := dk_180 (a := 0) (b := 207) (by decide +kernel) rfl
theorem dX11_numbersOfCells_40 : decode cX11_numbersOfCells 40 = .ok (.iload_n 3, 1) := dk_29 (by decide +kernel)
theorem dX11_numbersOfCells_41 : decode cX11_numbersOfCells 41 = .ok (.iaload, 1) := dk_46 (by decide +kernel)
theorem dX11_numbersOfCells_42 : decode cX11_numbersOfCells 42 = .ok (.goto 4, 3) := dk_167 (a := 0) (b := 4) (by decide +kernel) rfl
theorem dX11_numbersOfCells_45 : decode cX11_numbersOfCells 45 = .ok (.iconst 0, 1) := dk_3 (by decide +kernel)
theorem dX11_numbersOfCells_46 : decode cX11_numbersOfCells 46 = .ok (.iastore, 1) := dk_79 (by decide +kernel)
theorem dX11_numbersOfCells_47 : decode cX11_numbersOfCells 47 = .ok (.iinc 3 1, 3) := dk_132 (b := 1) (by decide +kernel) rfl
theorem dX11_numbersOfCells_50 : decode cX11_numbersOfCells 50 = .ok (.goto (-31), 3) := dk_167 (a := 255) (b := 225) (by decide +kernel) rfl
theorem dX11_numbersOfCells_53 : decode cX11_numbersOfCells 53 = .ok (.new 309, 3) := dk_187 (a := 1) (b := 53) (by decide +kernel) rfl
theorem dX11_numbersOfCells_56 : decode cX11_numbersOfCells 56 = .ok (.dup, 1) := dk_89 (by decide +kernel)
theorem dX11_numbersOfCells_57 : decode cX11_numbersOfCells 57 = .ok (.aload_n 2, 1) := dk_44 (by decide +kernel)
theorem dX11_numbersOfCells_58 : decode cX11_numbersOfCells 58 = .ok (.invokespecial 311, 3) := dk_183 (a := 1) (b := 55) (by decide +kernel) rfl
theorem dX11_numbersOfCells_61 : decode cX11_numbersOfCells 61 = .ok (.areturn, 1) := dk_176 (by decide +kernel)
theorem dX12_init_0 : decode cX12_init 0 = .ok (.aload_n 0, 1) := dk_42 (by decide +kernel)
theorem dX12_init_1 : decode cX12_init 1 = .ok (.invokespecial 1, 3) := dk_183 (a := 0) (b := 1) (by decide +kernel) rfl
theorem dX12_init_4 : decode cX12_init 4 = .ok (.aload_n 0, 1) := dk_42 (by decide +kernel)
theorem dX12_init_5 : decode cX12_init 5 = .ok (.iconst 4, 1) := dk_7 (by decide +kernel)
theorem dX12_init_6 : decode cX12_init 6 = .ok (.newarray .int, 2) := by decide +kernel
theorem dX12_init_8 : decode cX12_init 8 = .ok (.putfield 7, 3) := dk_181 (a := 0) (b := 7) (by decide +kernel) rfl
theorem dX12_init_11 : decode cX12_init 11 = .ok (.aload_n 0, 1) := dk_42 (by decide +kernel)
theorem dX12_init_12 : decode cX12_init 12 = .ok (.bipush 96, 2) := dk_16 (a := 96) (by decide +kernel) rfl
theorem dX12_init_14 : decode cX12_init 14 = .ok (.newarray .int, 2) := by decide +kernel
theorem dX12_init_16 : decode cX12_init 16 = .ok (.putfield 13, 3) := dk_181 (a := 0) (b := 13) (by decide +kernel) rfl
theorem dX12_init_19 : decode cX12_init 19 = .ok (.aload_n 0, 1) := dk_42 (by decide +kernel)
theorem dX12_init_20 : decode cX12_init 20 = .ok (.bipush 96, 2) := dk_16 (a := 96) (by decide +kernel) rfl
theorem dX12_init_22 : decode cX12_init 22 = .ok (.newarray .int, 2) := by decide +kernel
theorem dX12_init_24 : decode cX12_init 24 = .ok (.putfield 16, 3) := dk_181 (a := 0) (b := 16) (by decide +kernel) rfl
theorem dX12_init_27 : decode cX12_init 27 = .ok (.aload_n 0, 1) := dk_42 (by decide +kernel)
theorem dX12_init_28 : decode cX12_init 28 = .ok (.bipush 96, 2) := dk_16 (a := 96) (by decide +kernel) rfl
theorem dX12_init_30 : decode cX12_init 30 = .ok (.newarray .int, 2) := by decide +kernel
theorem dX12_init_32 : decode cX12_init 32 = .ok (.putfield 19, 3) := dk_181 (a := 0) (b := 19) (by decide +kernel) rfl
theorem dX12_init_35 : decode cX12_init 35 = .ok (.aload_n 0, 1) := dk_42 (by decide +kernel)
theorem dX12_init_36 : decode cX12_init 36 = .ok (.bipush 96, 2) := dk_16 (a := 96) (by decide +kernel) rfl
theorem dX12_init_38 : decode cX12_init 38 = .ok (.newarray .int, 2) := by decide +kernel
theorem dX12_init_40 : decode cX12_init 40 = .ok (.putfield 22, 3) := dk_181 (a := 0) (b := 22) (by decide +kernel) rfl
theorem dX12_init_43 : decode cX12_init 43 = .ok (.aload_n 0, 1) := dk_42 (by decide +kernel)
theorem dX12_init_44 : decode cX12_init 44 = .ok (.bipush 12, 2) := dk_16 (a := 12) (by decide +kernel) rfl
theorem dX12_init_46 : decode cX12_init 46 = .ok (.newarray .int, 2) := by decide +kernel
theorem dX12_init_48 : decode cX12_init 48 = .ok (.putfield 25, 3) := dk_181 (a := 0) (b := 25) (by decide +kernel) rfl
theorem dX12_init_51 : decode cX12_init 51 = .ok (.aload_n 0, 1) := dk_42 (by decide +kernel)
theorem dX12_init_52 : decode cX12_init 52 = .ok (.bipush 30, 2) := dk_16 (a := 30) (by decide +kernel) rfl
theorem dX12_init_54 : decode cX12_init 54 = .ok (.newarray .int, 2) := by decide +kernel
theorem dX12_init_56 : decode cX12_init 56 = .ok (.putfield 28, 3) := dk_181 (a := 0) (b := 28) (by decide +kernel) rfl
theorem dX12_init_59 : decode cX12_init 59 = .ok (.aload_n 0, 1) := dk_42 (by decide +kernel)
theorem dX12_init_60 : decode cX12_init 60 = .ok (.bipush 40, 2) := dk_16 (a := 40) (by decide +kernel) rfl
theorem dX12_init_62 : decode cX12_init 62 = .ok (.newarray .int, 2) := by decide +kernel
theorem dX12_init_64 : decode cX12_init 64 = .ok (.putfield 31, 3) := dk_181 (a := 0) (b := 31) (by decide +kernel) rfl
theorem dX12_init_67 : decode cX12_init 67 = .ok (.aload_n 0, 1) := dk_42 (by decide +kernel)
theorem dX12_init_68 : decode cX12_init 68 = .ok (.bipush 40, 2) := dk_16 (a := 40) (by decide +kernel) rfl
theorem dX12_init_70 : decode cX12_init 70 = .ok (.newarray .int, 2) := by decide +kernel
theorem dX12_init_72 : decode cX12_init 72 = .ok (.putfield 34, 3) := dk_181 (a := 0) (b := 34) (by decide +kernel) rfl
theorem dX12_init_75 : decode cX12_init 75 = .ok (.aload_n 0, 1) := dk_42 (by decide +kernel)
theorem dX12_init_76 : decode cX12_init 76 = .ok (.bipush 28, 2) := dk_16 (a := 28) (by decide +kernel) rfl
theorem dX12_init_78 : decode cX12_init 78 = .ok (.newarray .int, 2) := by decide +kernel
theorem dX12_init_80 : decode cX12_init 80 = .ok (.putfield 37, 3) := dk_181 (a := 0) (b := 37) (by decide +kernel) rfl
theorem dX12_init_83 : decode cX12_init 83 = .ok (.aload_n 0, 1) := dk_42 (by decide +kernel)
theorem dX12_init_84 : decode cX12_init 84 = .ok (.bipush 28, 2) := dk_16 (a := 28) (by decide +kernel) rfl
theorem dX12_init_86 : decode cX12_init 86 = .ok (.newarray .int, 2) := by decide +kernel
theorem dX12_init_88 : decode cX12_init 88 = .ok (.putfield 40, 3) := dk_181 (a := 0) (b := 40) (by decide +kernel) rfl
theorem dX12_init_91 : decode cX12_init 91 = .ok (.aload_n 0, 1) := dk_42 (by decide +kernel)
theorem dX12_init_92 : decode cX12_init 92 = .ok (.iconst 4, 1) := dk_7 (by decide +kernel)
theorem dX12_init_93 : decode cX12_init 93 = .ok (.newarray .int, 2) := by decide +kernel
theorem dX12_init_95 : decode cX12_init 95 = .ok (.putfield 43, 3) := dk_181 (a := 0) (b := 43) (by decide +kernel) rfl
theorem dX12_init_98 : decode cX12_init 98 = .ok (.aload_n 0, 1) := dk_42 (by decide +kernel)
theorem dX12_init_99 : decode cX12_init 99 = .ok (.iconst 4, 1) := dk_7 (by decide +kernel)
theorem dX12_init_100 : decode cX12_init 100 = .ok (.newarray .boolean, 2) := by decide +kernel
theorem dX12_init_102 : decode cX12_init 102 = .ok (.putfield 46, 3) := dk_181 (a := 0) (b := 46) (by decide +kernel) rfl
theorem dX12_init_105 : decode cX12_init 105 = .ok (.aload_n 0, 1) := dk_42 (by decide +kernel)
theorem dX12_init_106 : decode cX12_init 106 = .ok (.iconst 4, 1) := dk_7 (by decide +kernel)
theorem dX12_init_107 : decode cX12_init 107 = .ok (.newarray .int, 2) := by decide +kernel
theorem dX12_init_109 : decode cX12_init 109 = .ok (.putfield 50, 3) := dk_181 (a := 0) (b := 50) (by decide +kernel) rfl
theorem dX12_init_112 : decode cX12_init 112 = .ok (.aload_n 0, 1) := dk_42 (by decide +kernel)
theorem dX12_init_113 : decode cX12_init 113 = .ok (.iconst 4, 1) := dk_7 (by decide +kernel)
theorem dX12_init_114 : decode cX12_init 114 = .ok (.newarray .int, 2) := by decide +kernel
theorem dX12_init_116 : decode cX12_init 116 = .ok (.putfield 53, 3) := dk_181 (a := 0) (b := 53) (by decide +kernel) rfl
theorem dX12_init_119 : decode cX12_init 119 = .ok (.aload_n 0, 1) := dk_42 (by decide +kernel)
theorem dX12_init_120 : decode cX12_init 120 = .ok (.bipush 12, 2) := dk_16 (a := 12) (by decide +kernel) rfl
theorem dX12_init_122 : decode cX12_init 122 = .ok (.newarray .int, 2) := by decide +kernel
theorem dX12_init_124 : decode cX12_init 124 = .ok (.putfield 56, 3) := dk_181 (a := 0) (b := 56) (by decide +kernel) rfl
theorem dX12_init_127 : decode cX12_init 127 = .ok (.aload_n 0, 1) := dk_42 (by decide +kernel)
theorem dX12_init_128 : decode cX12_init 128 = .ok (.bipush 12, 2) := dk_16 (a := 12) (by decide +kernel) rfl
theorem dX12_init_130 : decode cX12_init 130 = .ok (.newarray .int, 2) := by decide +kernel
theorem dX12_init_132 : decode cX12_init 132 = .ok (.putfield 59, 3) := dk_181 (a := 0) (b := 59) (by decide +kernel) rfl
theorem dX12_init_135 : decode cX12_init 135 = .ok (.aload_n 0, 1) := dk_42 (by decide +kernel)
theorem dX12_init_136 : decode cX12_init 136 = .ok (.bipush 12, 2) := dk_16 (a := 12) (by decide +kernel) rfl
theorem dX12_init_138 : decode cX12_init 138 = .ok (.newarray .int, 2) := by decide +kernel
theorem dX12_init_140 : decode cX12_init 140 = .ok (.putfield 62, 3) := dk_181 (a := 0) (b := 62) (by decide +kernel) rfl
theorem dX12_init_143 : decode cX12_init 143 = .ok (.aload_n 0, 1) := dk_42 (by decide +kernel)
theorem dX12_init_144 : decode cX12_init 144 = .ok (.sipush 192, 3) := dk_17 (a := 0) (b := 192) (by decide +kernel) rfl
theorem dX12_init_147 : decode cX12_init 147 = .ok (.newarray .int, 2) := by decide +kernel
theorem dX12_init_149 : decode cX12_init 149 = .ok (.putfield 65, 3) := dk_181 (a := 0) (b := 65) (by decide +kernel) rfl
theorem dX12_init_152 : decode cX12_init 152 = .ok (.aload_n 0, 1) := dk_42 (by decide +kernel)
theorem dX12_init_153 : decode cX12_init 153 = .ok (.sipush 8428, 3) := dk_17 (a := 32) (b := 236) (by decide +kernel) rfl
theorem dX12_init_156 : decode cX12_init 156 = .ok (.newarray .int, 2) := by decide +kernel
theorem dX12_init_158 : decode cX12_init 158 = .ok (.putfield 68, 3) := dk_181 (a := 0) (b := 68) (by decide +kernel) rfl
theorem dX12_init_161 : decode cX12_init 161 = .ok (.aload_n 0, 1) := dk_42 (by decide +kernel)
theorem dX12_init_162 : decode cX12_init 162 = .ok (.sipush 8428, 3) := dk_17 (a := 32) (b := 236) (by decide +kernel) rfl
theorem dX12_init_165 : decode cX12_init 165 = .ok (.newarray .int, 2) := by decide +kernel
theorem dX12_init_167 : decode cX12_init 167 = .ok (.putfield 71, 3) := dk_181 (a := 0) (b := 71) (by decide +kernel) rfl
theorem dX12_init_170 : decode cX12_init 170 = .ok (.aload_n 0, 1) := dk_42 (by decide +kernel)
theorem dX12_init_171 : decode cX12_init 171 = .ok (.sipush 1204, 3) := dk_17 (a := 4) (b := 180) (by decide +kernel) rfl
theorem dX12_init_174 : decode cX12_init 174 = .ok (.newarray .int, 2) := by decide +kernel
theorem dX12_init_176 : decode cX12_init 176 = .ok (.putfield 74, 3) := dk_181 (a := 0) (b := 74) (by decide +kernel) rfl
theorem dX12_init_179 : decode cX12_init 179 = .ok (.aload_n 0, 1) := dk_42 (by decide +kernel)
theorem dX12_init_180 : decode cX12_init 180 = .ok (.sipush 1204, 3) := dk_17 (a := 4) (b := 180) (by decide +kernel) rfl
theorem dX12_init_183 : decode cX12_init 183 = .ok (.newarray .int, 2) := by decide +kernel
theorem dX12_init_185 : decode cX12_init 185 = .ok (.putfield 77, 3) := dk_181 (a := 0) (b := 77) (by decide +kernel) rfl
theorem dX12_init_188 : decode cX12_init 188 = .ok (.aload_n 0, 1) := dk_42 (by decide +kernel)
theorem dX12_init_189 : decode cX12_init 189 = .ok (.sipush 301, 3) := dk_17 (a := 1) (b := 45) (by decide +kernel) rfl
theorem dX12_init_192 : decode cX12_init 192 = .ok (.newarray .int, 2) := by decide +kernel
theorem dX12_init_194 : decode cX12_init 194 = .ok (.putfield 80, 3) := dk_181 (a := 0) (b := 80) (by decide +kernel) rfl
theorem dX12_init_197 : decode cX12_init 197 = .ok (.aload_n 0, 1) := dk_42 (by decide +kernel)
theorem dX12_init_198 : decode cX12_init 198 = .ok (.sipush 3612, 3) := dk_17 (a := 14) (b := 28) (by decide +kernel) rfl
theorem dX12_init_201 : decode cX12_init 201 = .ok (.newarray .int, 2) := by decide +kernel
theorem dX12_init_203 : decode cX12_init 203 = .ok (.putfield 83, 3) := dk_181 (a := 0) (b := 83) (by decide +kernel) rfl
theorem dX12_init_206 : decode cX12_init 206 = .ok (.aload_n 0, 1) := dk_42 (by decide +kernel)
theorem dX12_init_207 : decode cX12_init 207 = .ok (.sipush 3612, 3) := dk_17 (a := 14) (b := 28) (by decide +kernel) rfl
theorem dX12_init_210 : decode cX12_init 210 = .ok (.newarray .int, 2) := by decide +kernel
theorem dX12_init_212 : decode cX12_init 212 = .ok (.putfield 86, 3) := dk_181 (a := 0) (b := 86) (by decide +kernel) rfl
theorem dX12_init_215 : decode cX12_init 215 = .ok (.aload_n 0, 1) := dk_42 (by decide +kernel)
theorem dX12_init_216 : decode cX12_init 216 = .ok (.sipush 3612, 3) := dk_17 (a := 14) (b := 28) (by decide +kernel) rfl
theorem dX12_init_219 : decode cX12_init 219 = .ok (.newarray .int, 2) := by decide +kernel
theorem dX12_init_221 : decode cX12_init 221 = .ok (.putfield 89, 3) := dk_181 (a := 0) (b := 89) (by decide +kernel) rfl
theorem dX12_init_224 : decode cX12_init 224 = .ok (.aload_n 0, 1) := dk_42 (by decide +kernel)
theorem dX12_init_225 : decode cX12_init 225 = .ok (.ldc 92, 2) := dk_18 (by decide +kernel)
theorem dX12_init_227 : decode cX12_init 227 = .ok (.newarray .int, 2) := by decide +kernel
theorem dX12_init_229 : decode cX12_init 229 = .ok (.putfield 93, 3) := dk_181 (a := 0) (b := 93) (by decide +kernel) rfl
theorem dX12_init_232 : decode cX12_init 232 = .ok (.aload_n 0, 1) := dk_42 (by decide +kernel)
theorem dX12_init_233 : decode cX12_init 233 = .ok (.sipush 301, 3) := dk_17 (a := 1) (b := 45) (by decide +kernel) rfl
theorem dX12_init_236 : decode cX12_init 236 = .ok (.newarray .int, 2) := by decide +kernel
theorem dX12_init_238 : decode cX12_init 238 = .ok (.putfield 96, 3) := dk_181 (a := 0) (b := 96) (by decide +kernel) rfl
theorem dX12_init_241 : decode cX12_init 241 = .ok (.aload_n 0, 1) := dk_42 (by decide +kernel)
theorem dX12_init_242 : decode cX12_init 242 = .ok (.sipush 301, 3) := dk_17 (a := 1) (b := 45) (by decide +kernel) rfl
theorem dX12_init_245 : decode cX12_init 245 = .ok (.newarray .int, 2) := by decide +kernel
theorem dX12_init_247 : decode cX12_init 247 = .ok (.putfield 99, 3) := dk_181 (a := 0) (b := 99) (by decide +kernel) rfl
theorem dX12_init_250 : decode cX12_init 250 = .ok (.aload_n 0, 1) := dk_42 (by decide +kernel)
theorem dX12_init_251 : decode cX12_init 251 = .ok (.sipush 301, 3) := dk_17 (a := 1) (b := 45) (by decide +kernel) rfl
theorem dX12_init_254 : decode cX12_init 254 = .ok (.newarray .int, 2) := by decide +kernel
theorem dX12_init_256 : decode cX12_init 256 = .ok (.putfield 102, 3) := dk_181 (a := 0) (b := 102) (by decide +kernel) rfl
theorem dX12_init_259 : decode cX12_init 259 = .ok (.aload_n 0, 1) := dk_42 (by decide +kernel)
theorem dX12_init_260 : decode cX12_init 260 = .ok (.sipush 301, 3) := dk_17 (a := 1) (b := 45) (by decide +kernel) rfl
theorem dX12_init_263 : decode cX12_init 263 = .ok (.newarray .int, 2) := by decide +kernel
theorem dX12_init_265 : decode cX12_init 265 = .ok (.putfield 105, 3) := dk_181 (a := 0) (b := 105) (by decide +kernel) rfl
theorem dX12_init_268 : decode cX12_init 268 = .ok (.aload_n 0, 1) := dk_42 (by decide +kernel)
theorem dX12_init_269 : decode cX12_init 269 = .ok (.sipush 301, 3) := dk_17 (a := 1) (b := 45) (by decide +kernel) rfl
theorem dX12_init_272 : decode cX12_init 272 = .ok (.newarray .int, 2) := by decide +kernel
theorem dX12_init_274 : decode cX12_init 274 = .ok (.putfield 108, 3) := dk_181 (a := 0) (b := 108) (by decide +kernel) rfl
theorem dX12_init_277 : decode cX12_init 277 = .ok (.aload_n 0, 1) := dk_42 (by decide +kernel)
theorem dX12_init_278 : decode cX12_init 278 = .ok (.sipush 301, 3) := dk_17 (a := 1) (b := 45) (by decide +kernel) rfl
theorem dX12_init_281 : decode cX12_init 281 = .ok (.newarray .int, 2) := by decide +kernel
theorem dX12_init_283 : decode cX12_init 283 = .ok (.putfield 111, 3) := dk_181 (a := 0) (b := 111) (by decide +kernel) rfl
theorem dX12_init_286 : decode cX12_init 286 = .ok (.aload_n 0, 1) := dk_42 (by decide +kernel)
theorem dX12_init_287 : decode cX12_init 287 = .ok (.sipush 301, 3) := dk_17 (a := 1) (b := 45) (by decide +kernel) rfl
theorem dX12_init_290 : decode cX12_init 290 = .ok (.newarray .int, 2) := by decide +kernel
theorem dX12_init_292 : decode cX12_init 292 = .ok (.putfield 114, 3) := dk_181 (a := 0) (b := 114) (by decide +kernel) rfl
theorem dX12_init_295 : decode cX12_init 295 = .ok (.aload_n 0, 1) := dk_42 (by decide +kernel)
theorem dX12_init_296 : decode cX12_init 296 = .ok (.bipush 30, 2) := dk_16 (a := 30) (by decide +kernel) rfl
theorem dX12_init_298 : decode cX12_init 298 = .ok (.newarray .int, 2) := by decide +kernel
theorem dX12_init_300 : decode cX12_init 300 = .ok (.putfield 117, 3) := dk_181 (a := 0) (b := 117) (by decide +kernel) rfl
theorem dX12_init_303 : decode cX12_init 303 = .ok (.aload_n 0, 1) := dk_42 (by decide +kernel)
theorem dX12_init_304 : decode cX12_init 304 = .ok (.sipush 301, 3) := dk_17 (a := 1) (b := 45) (by decide +kernel) rfl
theorem dX12_init_307 : decode cX12_init 307 = .ok (.newarray .int, 2) := by decide +kernel
theorem dX12_init_309 : decode cX12_init 309 = .ok (.putfield 120, 3) := dk_181 (a := 0) (b := 120) (by decide +kernel) rfl
theorem dX12_init_312 : decode cX12_init 312 = .ok (.aload_n 0, 1) := dk_42 (by decide +kernel)
theorem dX12_init_313 : decode cX12_init 313 = .ok (.sipush 301, 3) := dk_17 (a := 1) (b := 45) (by decide +kernel) rfl
theorem dX12_init_316 : decode cX12_init 316 = .ok (.newarray .int, 2) := by decide +kernel
theorem dX12_init_318 : decode cX12_init 318 = .ok (.putfield 123, 3) := dk_181 (a := 0) (b := 123) (by decide +kernel) rfl
theorem dX12_init_321 : decode cX12_init 321 = .ok (.aload_n 0, 1) := dk_42 (by decide +kernel)
theorem dX12_init_322 : decode cX12_init 322 = .ok (.ldc 126, 2) := dk_18 (by decide +kernel)
theorem dX12_init_324 : decode cX12_init 324 = .ok (.newarray .boolean, 2) := by decide +kernel
theorem dX12_init_326 : decode cX12_init 326 = .ok (.putfield 127, 3) := dk_181 (a := 0) (b := 127) (by decide +kernel) rfl
theorem dX12_init_329 : decode cX12_init 329 = .ok (.aload_n 0, 1) := dk_42 (by decide +kernel)
theorem dX12_init_330 : decode cX12_init 330 = .ok (.bipush (-2), 2) := dk_16 (a := 254) (by decide +kernel) rfl
theorem dX12_init_332 : decode cX12_init 332 = .ok (.putfield 130, 3) := dk_181 (a := 0) (b := 130) (by decide +kernel) rfl
theorem dX12_init_335 : decode cX12_init 335 = .ok (.aload_n 0, 1) := dk_42 (by decide +kernel)
theorem dX12_init_336 : decode cX12_init 336 = .ok (.iconst 2, 1) := dk_5 (by decide +kernel)
theorem dX12_init_337 : decode cX12_init 337 = .ok (.newarray .int, 2) := by decide +kernel
theorem dX12_init_339 : decode cX12_init 339 = .ok (.putfield 134, 3) := dk_181 (a := 0) (b := 134) (by decide +kernel) rfl
theorem dX12_init_342 : decode cX12_init 342 = .ok (.aload_n 0, 1) := dk_42 (by decide +kernel)
theorem dX12_init_343 : decode cX12_init 343 = .ok (.iconst 2, 1) := dk_5 (by decide +kernel)
theorem dX12_init_344 : decode cX12_init 344 = .ok (.newarray .int, 2) := by decide +kernel
theorem dX12_init_346 : decode cX12_init 346 = .ok (.putfield 137, 3) := dk_181 (a := 0) (b := 137) (by decide +kernel) rfl
theorem dX12_init_349 : decode cX12_init 349 = .ok (.aload_n 0, 1) := dk_42 (by decide +kernel)
theorem dX12_init_350 : decode cX12_init 350 = .ok (.iconst 2, 1) := dk_5 (by decide +kernel)
theorem dX12_init_351 : decode cX12_init 351 = .ok (.newarray .int, 2) := by decide +kernel
theorem dX12_init_353 : decode cX12_init 353 = .ok (.putfield 140, 3) := dk_181 (a := 0) (b := 140) (by decide +kernel) rfl
theorem dX12_init_356 : decode cX12_init 356 = .ok (.aload_n 0, 1) := dk_42 (by decide +kernel)
theorem dX12_init_357 : decode cX12_init 357 = .ok (.iconst 2, 1) := dk_5 (by decide +kernel)
theorem dX12_init_358 : decode cX12_init 358 = .ok (.newarray .int, 2) := by decide +kernel
theorem dX12_init_360 : decode cX12_init 360 = .ok (.putfield 143, 3) := dk_181 (a := 0) (b := 143) (by decide +kernel) rfl
theorem dX12_init_363 : decode cX12_init 363 = .ok (.aload_n 0, 1) := dk_42 (by decide +kernel)
theorem dX12_init_364 : decode cX12_init 364 = .ok (.bipush 8, 2) := dk_16 (a := 8) (by decide +kernel) rfl
theorem dX12_init_366 : decode cX12_init 366 = .ok (.newarray .int, 2) := by decide +kernel
theorem dX12_init_368 : decode cX12_init 368 = .ok (.putfield 146, 3) := dk_181 (a := 0) (b := 146) (by decide +kernel) rfl
theorem dX12_init_371 : decode cX12_init 371 = .ok (.aload_n 0, 1) := dk_42 (by decide +kernel)
theorem dX12_init_372 : decode cX12_init 372 = .ok (.bipush 8, 2) := dk_16 (a := 8) (by decide +kernel) rfl
theorem dX12_init_374 : decode cX12_init 374 = .ok (.newarray .int, 2) := by decide +kernel
theorem dX12_init_376 : decode cX12_init 376 = .ok (.putfield 149, 3) := dk_181 (a := 0) (b := 149) (by decide +kernel) rfl
theorem dX12_init_379 : decode cX12_init 379 = .ok (.aload_n 0, 1) := dk_42 (by decide +kernel)
theorem dX12_init_380 : decode cX12_init 380 = .ok (.bipush 8, 2) := dk_16 (a := 8) (by decide +kernel) rfl
theorem dX12_init_382 : decode cX12_init 382 = .ok (.newarray .int, 2) := by decide +kernel
theorem dX12_init_384 : decode cX12_init 384 = .ok (.putfield 152, 3) := dk_181 (a := 0) (b := 152) (by decide +kernel) rfl
theorem dX12_init_387 : decode cX12_init 387 = .ok (.aload_n 0, 1) := dk_42 (by decide +kernel)
theorem dX12_init_388 : decode cX12_init 388 = .ok (.bipush 8, 2) := dk_16 (a := 8) (by decide +kernel) rfl
theorem dX12_init_390 : decode cX12_init 390 = .ok (.newarray .int, 2) := by decide +kernel
theorem dX12_init_392 : decode cX12_init 392 = .ok (.putfield 155, 3) := dk_181 (a := 0) (b := 155) (by decide +kernel) rfl
theorem dX12_init_395 : decode cX12_init 395 = .ok (.aload_n 0, 1) := dk_42 (by decide +kernel)
theorem dX12_init_396 : decode cX12_init 396 = .ok (.sipush 480, 3) := dk_17 (a := 1) (b := 224) (by decide +kernel) rfl
theorem dX12_init_399 : decode cX12_init 399 = .ok (.newarray .int, 2) := by decide +kernel
theorem dX12_init_401 : decode cX12_init 401 = .ok (.putfield 158, 3) := dk_181 (a := 0) (b := 158) (by decide +kernel) rfl
theorem dX12_init_404 : decode cX12_init 404 = .ok (.aload_n 0, 1) := dk_42 (by decide +kernel)
theorem dX12_init_405 : decode cX12_init 405 = .ok (.bipush 60, 2) := dk_16 (a := 60) (by decide +kernel) rfl
theorem dX12_init_407 : decode cX12_init 407 = .ok (.newarray .int, 2) := by decide +kernel
theorem dX12_init_409 : decode cX12_init 409 = .ok (.putfield 161, 3) := dk_181 (a := 0) (b := 161) (by decide +kernel) rfl
theorem dX12_init_412 : decode cX12_init 412 = .ok (.return_, 1) := dk_177 (by decide +kernel)
set_option maxRecDepth 100000 in
theorem inX0 : ∀ w ∈ u_ws RX0 TX0 2, w ∈ TW := TW_lays [836, 834] (by decide +kernel)
set_option maxRecDepth 100000 in
theorem inX2 : ∀ w ∈ u_ws RX2 TX2 2, w ∈ TW := TW_lays [852, 850] (by decide +kernel)
set_option maxRecDepth 100000 in
theorem inX7 : ∀ w ∈ u_ws RX7 TX7 1, w ∈ TW := TW_lays [817] (by decide +kernel)
set_option maxRecDepth 100000 in
theorem inX8 : ∀ w ∈ u_ws RX8 TX8 1, w ∈ TW := TW_lays [809] (by decide +kernel)
set_option maxRecDepth 100000 in
theorem inX9 : ∀ w ∈ u_ws RX9 TX9 2, w ∈ TW := TW_lays [800, 798] (by decide +kernel)
theorem fl_RX0_7 : Cond.fieldLink RX0 7 "ReplayBox$Bytes" "bytes" "[B" ∈ TW := (TWt 833 (by decide +kernel) (by decide +kernel))
theorem fl_RX1_7 : Cond.fieldLink RX1 7 "ReplayBox$Held" "number" "I" ∈ TW := (TWt 796 (by decide +kernel) (by decide +kernel))
theorem fl_RX11_352 : Cond.fieldLink RX11 352 "ReplayBox$Held" "number" "I" ∈ TW := (TWt 797 (by decide +kernel) (by decide +kernel))
theorem fl_RX2_7 : Cond.fieldLink RX2 7 "ReplayBox$Ints" "ints" "[I" ∈ TW := (TWt 849 (by decide +kernel) (by decide +kernel))
theorem fl_RX9_7 : Cond.fieldLink RX9 7 "ReplayBox$ShelvedRow" "places" "I" ∈ TW := (TWt 795 (by decide +kernel) (by decide +kernel))
theorem cl_RX11_182 : Cond.classLink RX11 182 "java/lang/IllegalStateException" ∈ TW := (TWt 953 (by decide +kernel) (by decide +kernel))
theorem lk_RX11_189 : Cond.methodLink RX11 189 yX11_cellSlot ∈ TW := (TWt 1059 (by decide +kernel) (by decide +kernel))
theorem lk_RX11_192 : Cond.methodLink RX11 192 yX11_localSlot ∈ TW := (TWt 1062 (by decide +kernel) (by decide +kernel))
theorem cl_RX11_195 : Cond.classLink RX11 195 "java/lang/IllegalArgumentException" ∈ TW := (TWt 1065 (by decide +kernel) (by decide +kernel))
theorem lk_RX11_222 : Cond.methodLink RX11 222 yX3_hasRowPlace ∈ TW := (TWt 1088 (by decide +kernel) (by decide +kernel))
theorem lk_RX11_290 : Cond.methodLink RX11 290 yX11_isShelf ∈ TW := (TWt 778 (by decide +kernel) (by decide +kernel))
theorem lk_RX11_293 : Cond.methodLink RX11 293 yX3_shelved ∈ TW := (TWt 781 (by decide +kernel) (by decide +kernel))
theorem lk_RX11_297 : Cond.methodLink RX11 297 yX11_threadsOfFirstSteps ∈ TW := (TWt 819 (by decide +kernel) (by decide +kernel))
theorem lk_RX11_301 : Cond.methodLink RX11 301 yX11_numbersOfCells ∈ TW := (TWt 839 (by decide +kernel) (by decide +kernel))
theorem cl_RX11_304 : Cond.classLink RX11 304 "ReplayBox$Bytes" ∈ TW := (TWt 827 (by decide +kernel) (by decide +kernel))
theorem lk_RX11_306 : Cond.methodLink RX11 306 yX0_init ∈ TW := (TWt 829 (by decide +kernel) (by decide +kernel))
theorem cl_RX11_309 : Cond.classLink RX11 309 "ReplayBox$Ints" ∈ TW := (TWt 843 (by decide +kernel) (by decide +kernel))
theorem lk_RX11_311 : Cond.methodLink RX11 311 yX2_init ∈ TW := (TWt 845 (by decide +kernel) (by decide +kernel))
theorem lk_RX11_328 : Cond.methodLink RX11 328 yX11_fits ∈ TW := (TWt 890 (by decide +kernel) (by decide +kernel))
theorem lk_RX11_343 : Cond.methodLink RX11 343 yX11_caughtFrom ∈ TW := (TWt 949 (by decide +kernel) (by decide +kernel))
theorem lk_RX3_95 : Cond.methodLink RX3 95 yX3_hasThing ∈ TW := (TWt 785 (by decide +kernel) (by decide +kernel))
theorem cl_RX3_98 : Cond.classLink RX3 98 "ReplayBox$ShelvedRow" ∈ TW := (TWt 786 (by decide +kernel) (by decide +kernel))
theorem lk_RX3_100 : Cond.methodLink RX3 100 yX9_init ∈ TW := (TWt 788 (by decide +kernel) (by decide +kernel))
theorem cl_RX3_103 : Cond.classLink RX3 103 "ReplayBox$ShelvedLock" ∈ TW := (TWt 803 (by decide +kernel) (by decide +kernel))
theorem lk_RX3_105 : Cond.methodLink RX3 105 yX8_init ∈ TW := (TWt 805 (by decide +kernel) (by decide +kernel))
theorem cl_RX3_108 : Cond.classLink RX3 108 "ReplayBox$ShelvedGate" ∈ TW := (TWt 811 (by decide +kernel) (by decide +kernel))
theorem lk_RX3_110 : Cond.methodLink RX3 110 yX7_init ∈ TW := (TWt 813 (by decide +kernel) (by decide +kernel))
theorem lk_RX0_1 : Cond.methodLink RX0 1 yX1_init ∈ TW := (TWt 832 (by decide +kernel) (by decide +kernel))
theorem cl_RX0_8 : Cond.classLink RX0 8 "ReplayBox$Bytes" ∈ TW := (TWt 868 (by decide +kernel) (by decide +kernel))
theorem cl_RX1_13 : Cond.classLink RX1 13 "java/lang/UnsupportedOperationException" ∈ TW := (TWt 1032 (by decide +kernel) (by decide +kernel))
theorem lk_RX2_1 : Cond.methodLink RX2 1 yX1_init ∈ TW := (TWt 848 (by decide +kernel) (by decide +kernel))
theorem cl_RX2_8 : Cond.classLink RX2 8 "ReplayBox$Ints" ∈ TW := (TWt 872 (by decide +kernel) (by decide +kernel))
theorem lk_RX7_1 : Cond.methodLink RX7 1 yX8_init ∈ TW := (TWt 816 (by decide +kernel) (by decide +kernel))
theorem lk_RX7_7 : Cond.methodLink RX7 7 yX8_heft ∈ TW := (TWt 935 (by decide +kernel) (by decide +kernel))
theorem lk_RX8_1 : Cond.methodLink RX8 1 yX1_init ∈ TW := (TWt 808 (by decide +kernel) (by decide +kernel))
theorem lk_RX8_7 : Cond.methodLink RX8 7 yX1_heft ∈ TW := (TWt 938 (by decide +kernel) (by decide +kernel))
theorem cl_RX8_11 : Cond.classLink RX8 11 "java/lang/IllegalStateException" ∈ TW := (TWt 962 (by decide +kernel) (by decide +kernel))
theorem lk_RX9_1 : Cond.methodLink RX9 1 yX1_init ∈ TW := (TWt 791 (by decide +kernel) (by decide +kernel))
theorem lk_RX9_13 : Cond.methodLink RX9 13 yX1_heft ∈ TW := (TWt 943 (by decide +kernel) (by decide +kernel))
theorem cl_RX6_9 : Cond.classLink RX6 9 "[[I" ∈ TW := (TWt 266 (by decide +kernel) (by decide +kernel))
theorem cl_RX11_9 : Cond.classLink RX11 9 "ReplayBox$Program" ∈ TW := (TWt 31 (by decide +kernel) (by decide +kernel))
theorem cl_RX11_19 : Cond.classLink RX11 19 "ReplayBox$Machine" ∈ TW := (TWt 78 (by decide +kernel) (by decide +kernel))
theorem lk_RX11_21 : Cond.methodLink RX11 21 yX3_init ∈ TW := (TWt 80 (by decide +kernel) (by decide +kernel))
theorem cl_RX11_31 : Cond.classLink RX11 31 "ReplayBox$Trace" ∈ TW := (TWt 154 (by decide +kernel) (by decide +kernel))
theorem cl_RX11_38 : Cond.classLink RX11 38 "ReplayBox$Order" ∈ TW := (TWt 231 (by decide +kernel) (by decide +kernel))
theorem lk_RX11_40 : Cond.methodLink RX11 40 yX4_init ∈ TW := (TWt 233 (by decide +kernel) (by decide +kernel))
theorem cl_RX11_47 : Cond.classLink RX11 47 "ReplayBox$Search" ∈ TW := (TWt 260 (by decide +kernel) (by decide +kernel))
theorem lk_RX11_49 : Cond.methodLink RX11 49 yX6_init ∈ TW := (TWt 262 (by decide +kernel) (by decide +kernel))
theorem cl_RX11_56 : Cond.classLink RX11 56 "ReplayBox$Held" ∈ TW := (TWt 308 (by decide +kernel) (by decide +kernel))
theorem in_X11_value : Cond.instanceMethod yX11_value ∈ TW := (TWt 1054 (by decide +kernel) (by decide +kernel))
theorem se_X11_value : Cond.selects yX11_value.cls yX11_value yX11_value ∈ TW := (TWt 1055 (by decide +kernel) (by decide +kernel))
set_option maxRecDepth 16384 in
theorem CKX11_value {rm rm2 : Room} (q : rm2.frames + 1 ≤ rm.frames ∧ 8 + (6 + 11) + rm2.locals ≤ rm.locals) : CK rm yX11_value cX11_value 6 (some .int) rm2 3 := ⟨(TWt 1056 rfl (by decide +kernel)), (TWt 1 (by decide +kernel) (by decide +kernel)), ⟨by decide, by decide⟩, by decide +kernel, q.1, q.2⟩
theorem in_X11_place : Cond.instanceMethod yX11_place ∈ TW := (TWt 1085 (by decide +kernel) (by decide +kernel))
theorem se_X11_place : Cond.selects yX11_place.cls yX11_place yX11_place ∈ TW := (TWt 1086 (by decide +kernel) (by decide +kernel))
set_option maxRecDepth 16384 in
theorem CKX11_place {rm rm2 : Room} (q : rm2.frames + 1 ≤ rm.frames ∧ 8 + (4 + 11) + rm2.locals ≤ rm.locals) : CK rm yX11_place cX11_place 4 (some .int) rm2 2 := ⟨(TWt 1087 rfl (by decide +kernel)), (TWt 1 (by decide +kernel) (by decide +kernel)), ⟨by decide, by decide⟩, by decide +kernel, q.1, q.2⟩
theorem in_X11_element : Cond.instanceMethod yX11_element ∈ TW := (TWt 1094 (by decide +kernel) (by decide +kernel))
theorem se_X11_element : Cond.selects yX11_element.cls yX11_element yX11_element ∈ TW := (TWt 1095 (by decide +kernel) (by decide +kernel))
set_option maxRecDepth 16384 in
theorem CKX11_element {rm rm2 : Room} (q : rm2.frames + 1 ≤ rm.frames ∧ 8 + (4 + 11) + rm2.locals ≤ rm.locals) : CK rm yX11_element cX11_element 4 (some .int) rm2 2 := ⟨(TWt 1096 rfl (by decide +kernel)), (TWt 1 (by decide +kernel) (by decide +kernel)), ⟨by decide, by decide⟩, by decide +kernel, q.1, q.2⟩
theorem in_X11_keep : Cond.instanceMethod yX11_keep ∈ TW := (TWt 775 (by decide +kernel) (by decide +kernel))
theorem se_X11_keep : Cond.selects yX11_keep.cls yX11_keep yX11_keep ∈ TW := (TWt 776 (by decide +kernel) (by decide +kernel))
set_option maxRecDepth 16384 in
theorem CKX11_keep {rm rm2 : Room} (q : rm2.frames + 1 ≤ rm.frames ∧ 8 + (4 + 11) + rm2.locals ≤ rm.locals) : CK rm yX11_keep cX11_keep 4 (some .int) rm2 3 := ⟨(TWt 777 rfl (by decide +kernel)), (TWt 1 (by decide +kernel) (by decide +kernel)), ⟨by decide, by decide⟩, by decide +kernel, q.1, q.2⟩
theorem in_X11_make : Cond.instanceMethod yX11_make ∈ TW := (TWt 855 (by decide +kernel) (by decide +kernel))
theorem se_X11_make : Cond.selects yX11_make.cls yX11_make yX11_make ∈ TW := (TWt 856 (by decide +kernel) (by decide +kernel))
set_option maxRecDepth 16384 in
theorem CKX11_make {rm rm2 : Room} (q : rm2.frames + 1 ≤ rm.frames ∧ 8 + (4 + 11) + rm2.locals ≤ rm.locals) : CK rm yX11_make cX11_make 4 (some .int) rm2 3 := ⟨(TWt 857 rfl (by decide +kernel)), (TWt 1 (by decide +kernel) (by decide +kernel)), ⟨by decide, by decide⟩, by decide +kernel, q.1, q.2⟩
theorem in_X11_copy : Cond.instanceMethod yX11_copy ∈ TW := (TWt 859 (by decide +kernel) (by decide +kernel))
theorem se_X11_copy : Cond.selects yX11_copy.cls yX11_copy yX11_copy ∈ TW := (TWt 860 (by decide +kernel) (by decide +kernel))
set_option maxRecDepth 16384 in
theorem CKX11_copy {rm rm2 : Room} (q : rm2.frames + 1 ≤ rm.frames ∧ 8 + (8 + 11) + rm2.locals ≤ rm.locals) : CK rm yX11_copy cX11_copy 8 (some .int) rm2 5 := ⟨(TWt 861 rfl (by decide +kernel)), (TWt 1 (by decide +kernel) (by decide +kernel)), ⟨by decide, by decide⟩, by decide +kernel, q.1, q.2⟩
theorem in_X11_weight : Cond.instanceMethod yX11_weight ∈ TW := (TWt 911 (by decide +kernel) (by decide +kernel))
theorem se_X11_weight : Cond.selects yX11_weight.cls yX11_weight yX11_weight ∈ TW := (TWt 912 (by decide +kernel) (by decide +kernel))
set_option maxRecDepth 16384 in
theorem CKX11_weight {rm rm2 : Room} (q : rm2.frames + 1 ≤ rm.frames ∧ 8 + (3 + 11) + rm2.locals ≤ rm.locals) : CK rm yX11_weight cX11_weight 3 (some .int) rm2 1 := ⟨(TWt 913 rfl (by decide +kernel)), (TWt 1 (by decide +kernel) (by decide +kernel)), ⟨by decide, by decide⟩, by decide +kernel, q.1, q.2⟩
theorem in_X11_toss : Cond.instanceMethod yX11_toss ∈ TW := (TWt 946 (by decide +kernel) (by decide +kernel))
theorem se_X11_toss : Cond.selects yX11_toss.cls yX11_toss yX11_toss ∈ TW := (TWt 947 (by decide +kernel) (by decide +kernel))
set_option maxRecDepth 16384 in
theorem CKX11_toss {rm rm2 : Room} (q : rm2.frames + 1 ≤ rm.frames ∧ 8 + (3 + 11) + rm2.locals ≤ rm.locals) : CK rm yX11_toss cX11_toss 3 (some .int) rm2 1 := ⟨(TWt 948 rfl (by decide +kernel)), (TWt 1 (by decide +kernel) (by decide +kernel)), ⟨by decide, by decide⟩, by decide +kernel, q.1, q.2⟩
theorem st_X11_caughtFrom : Cond.static yX11_caughtFrom ∈ TW := (TWt 950 (by decide +kernel) (by decide +kernel))
set_option maxRecDepth 16384 in
theorem cw_X11_caughtFrom : Cond.codeWith yX11_caughtFrom cX11_caughtFrom 2 (some .int) [(0, 4, 7, 350), (0, 4, 11, 182)] ∈ TW := (TWt 951 rfl (by decide +kernel))
theorem in_X11_threadsOfFirstSteps : Cond.instanceMethod yX11_threadsOfFirstSteps ∈ TW := (TWt 821 (by decide +kernel) (by decide +kernel))
theorem se_X11_threadsOfFirstSteps : Cond.selects yX11_threadsOfFirstSteps.cls yX11_threadsOfFirstSteps yX11_threadsOfFirstSteps ∈ TW := (TWp 43 (by decide +kernel) (by decide +kernel))
set_option maxRecDepth 16384 in
theorem CKX11_threadsOfFirstSteps {rm rm2 : Room} (q : rm2.frames + 1 ≤ rm.frames ∧ 8 + (4 + 11) + rm2.locals ≤ rm.locals) : CK rm yX11_threadsOfFirstSteps cX11_threadsOfFirstSteps 4 (some (.object "ReplayBox$Held")) rm2 0 := ⟨(TWt 822 rfl (by decide +kernel)), (TWt 1 (by decide +kernel) (by decide +kernel)), ⟨by decide, by decide⟩, by decide +kernel, q.1, q.2⟩
theorem in_X11_numbersOfCells : Cond.instanceMethod yX11_numbersOfCells ∈ TW := (TWt 841 (by decide +kernel) (by decide +kernel))
theorem se_X11_numbersOfCells : Cond.selects yX11_numbersOfCells.cls yX11_numbersOfCells yX11_numbersOfCells ∈ TW := (TWp 44 (by decide +kernel) (by decide +kernel))
set_option maxRecDepth 16384 in
theorem CKX11_numbersOfCells {rm rm2 : Room} (q : rm2.frames + 1 ≤ rm.frames ∧ 8 + (4 + 11) + rm2.locals ≤ rm.locals) : CK rm yX11_numbersOfCells cX11_numbersOfCells 4 (some (.object "ReplayBox$Held")) rm2 0 := ⟨(TWt 842 rfl (by decide +kernel)), (TWt 1 (by decide +kernel) (by decide +kernel)), ⟨by decide, by decide⟩, by decide +kernel, q.1, q.2⟩
theorem in_X3_shelved : Cond.instanceMethod yX3_shelved ∈ TW := (TWt 782 (by decide +kernel) (by decide +kernel))
theorem se_X3_shelved : Cond.selects yX3_shelved.cls yX3_shelved yX3_shelved ∈ TW := (TWt 783 (by decide +kernel) (by decide +kernel))
set_option maxRecDepth 16384 in
theorem CKX3_shelved {rm rm2 : Room} (q : rm2.frames + 1 ≤ rm.frames ∧ 8 + (2 + 11) + rm2.locals ≤ rm.locals) : CK rm yX3_shelved cX3_shelved 2 (some (.object "ReplayBox$Held")) rm2 1 := ⟨(TWt 784 rfl (by decide +kernel)), (TWt 3 (by decide +kernel) (by decide +kernel)), ⟨by decide, by decide⟩, by decide +kernel, q.1, q.2⟩
theorem in_X0_init : Cond.instanceMethod yX0_init ∈ TW := (TWt 830 (by decide +kernel) (by decide +kernel))
set_option maxRecDepth 16384 in
theorem CKX0_init {rm rm2 : Room} (q : rm2.frames + 1 ≤ rm.frames ∧ 8 + (2 + 11) + rm2.locals ≤ rm.locals) : CK rm yX0_init cX0_init 2 none rm2 1 := ⟨(TWt 831 rfl (by decide +kernel)), (TWt 20 (by decide +kernel) (by decide +kernel)), ⟨by decide, by decide⟩, by decide +kernel, q.1, q.2⟩
theorem in_X0_length : Cond.instanceMethod yX0_length ∈ TW := (TWt 881 (by decide +kernel) (by decide +kernel))
set_option maxRecDepth 16384 in
theorem CKX0_length {rm rm2 : Room} (q : rm2.frames + 1 ≤ rm.frames ∧ 8 + (1 + 11) + rm2.locals ≤ rm.locals) : CK rm yX0_length cX0_length 1 (some .int) rm2 0 := ⟨(TWt 882 rfl (by decide +kernel)), (TWt 20 (by decide +kernel) (by decide +kernel)), ⟨by decide, by decide⟩, by decide +kernel, q.1, q.2⟩
theorem in_X0_elementAt : Cond.instanceMethod yX0_elementAt ∈ TW := (TWt 1103 (by decide +kernel) (by decide +kernel))
set_option maxRecDepth 16384 in
theorem CKX0_elementAt {rm rm2 : Room} (q : rm2.frames + 1 ≤ rm.frames ∧ 8 + (2 + 11) + rm2.locals ≤ rm.locals) : CK rm yX0_elementAt cX0_elementAt 2 (some .int) rm2 1 := ⟨(TWt 1104 rfl (by decide +kernel)), (TWt 20 (by decide +kernel) (by decide +kernel)), ⟨by decide, by decide⟩, by decide +kernel, q.1, q.2⟩
theorem in_X0_takesFrom : Cond.instanceMethod yX0_takesFrom ∈ TW := (TWt 866 (by decide +kernel) (by decide +kernel))
set_option maxRecDepth 16384 in
theorem CKX0_takesFrom {rm rm2 : Room} (q : rm2.frames + 1 ≤ rm.frames ∧ 8 + (2 + 11) + rm2.locals ≤ rm.locals) : CK rm yX0_takesFrom cX0_takesFrom 2 (some .boolean) rm2 1 := ⟨(TWt 867 rfl (by decide +kernel)), (TWt 20 (by decide +kernel) (by decide +kernel)), ⟨by decide, by decide⟩, by decide +kernel, q.1, q.2⟩
theorem in_X0_fill : Cond.instanceMethod yX0_fill ∈ TW := (TWt 897 (by decide +kernel) (by decide +kernel))
set_option maxRecDepth 16384 in
theorem CKX0_fill {rm rm2 : Room} (q : rm2.frames + 1 ≤ rm.frames ∧ 8 + (6 + 11) + rm2.locals ≤ rm.locals) : CK rm yX0_fill cX0_fill 6 none rm2 4 := ⟨(TWt 898 rfl (by decide +kernel)), (TWt 20 (by decide +kernel) (by decide +kernel)), ⟨by decide, by decide⟩, by decide +kernel, q.1, q.2⟩
theorem in_X1_init : Cond.instanceMethod yX1_init ∈ TW := (TWt 792 (by decide +kernel) (by decide +kernel))
set_option maxRecDepth 16384 in
theorem CKX1_init {rm rm2 : Room} (q : rm2.frames + 1 ≤ rm.frames ∧ 8 + (2 + 11) + rm2.locals ≤ rm.locals) : CK rm yX1_init cX1_init 2 none rm2 1 := ⟨(TWt 793 rfl (by decide +kernel)), (TWt 16 (by decide +kernel) (by decide +kernel)), ⟨by decide, by decide⟩, by decide +kernel, q.1, q.2⟩
theorem in_X1_isThing : Cond.instanceMethod yX1_isThing ∈ TW := (TWt 915 (by decide +kernel) (by decide +kernel))
set_option maxRecDepth 16384 in
theorem CKX1_isThing {rm rm2 : Room} (q : rm2.frames + 1 ≤ rm.frames ∧ 8 + (1 + 11) + rm2.locals ≤ rm.locals) : CK rm yX1_isThing cX1_isThing 1 (some .boolean) rm2 0 := ⟨(TWt 926 rfl (by decide +kernel)), (TWt 16 (by decide +kernel) (by decide +kernel)), ⟨by decide, by decide⟩, by decide +kernel, q.1, q.2⟩
theorem in_X1_length : Cond.instanceMethod yX1_length ∈ TW := (TWt 878 (by decide +kernel) (by decide +kernel))
set_option maxRecDepth 16384 in
theorem CKX1_length {rm rm2 : Room} (q : rm2.frames + 1 ≤ rm.frames ∧ 8 + (1 + 11) + rm2.locals ≤ rm.locals) : CK rm yX1_length cX1_length 1 (some .int) rm2 0 := ⟨(TWt 889 rfl (by decide +kernel)), (TWt 16 (by decide +kernel) (by decide +kernel)), ⟨by decide, by decide⟩, by decide +kernel, q.1, q.2⟩
theorem in_X1_elementAt : Cond.instanceMethod yX1_elementAt ∈ TW := (TWt 1100 (by decide +kernel) (by decide +kernel))
set_option maxRecDepth 16384 in
theorem CKX1_elementAt {rm rm2 : Room} (q : rm2.frames + 1 ≤ rm.frames ∧ 8 + (2 + 11) + rm2.locals ≤ rm.locals) : CK rm yX1_elementAt cX1_elementAt 2 (some .int) rm2 1 := ⟨(TWt 1111 rfl (by decide +kernel)), (TWt 16 (by decide +kernel) (by decide +kernel)), ⟨by decide, by decide⟩, by decide +kernel, q.1, q.2⟩
theorem in_X1_takesFrom : Cond.instanceMethod yX1_takesFrom ∈ TW := (TWt 863 (by decide +kernel) (by decide +kernel))
set_option maxRecDepth 16384 in
theorem CKX1_takesFrom {rm rm2 : Room} (q : rm2.frames + 1 ≤ rm.frames ∧ 8 + (2 + 11) + rm2.locals ≤ rm.locals) : CK rm yX1_takesFrom cX1_takesFrom 2 (some .boolean) rm2 1 := ⟨(TWt 876 rfl (by decide +kernel)), (TWt 16 (by decide +kernel) (by decide +kernel)), ⟨by decide, by decide⟩, by decide +kernel, q.1, q.2⟩
theorem in_X1_fill : Cond.instanceMethod yX1_fill ∈ TW := (TWt 894 (by decide +kernel) (by decide +kernel))
set_option maxRecDepth 16384 in
theorem CKX1_fill {rm rm2 : Room} (q : rm2.frames + 1 ≤ rm.frames ∧ 8 + (5 + 11) + rm2.locals ≤ rm.locals) : CK rm yX1_fill cX1_fill 5 none rm2 4 := ⟨(TWt 909 rfl (by decide +kernel)), (TWt 16 (by decide +kernel) (by decide +kernel)), ⟨by decide, by decide⟩, by decide +kernel, q.1, q.2⟩
theorem in_X1_heft : Cond.instanceMethod yX1_heft ∈ TW := (TWt 928 (by decide +kernel) (by decide +kernel))
set_option maxRecDepth 16384 in
theorem CKX1_heft {rm rm2 : Room} (q : rm2.frames + 1 ≤ rm.frames ∧ 8 + (1 + 11) + rm2.locals ≤ rm.locals) : CK rm yX1_heft cX1_heft 1 (some .int) rm2 0 := ⟨(TWt 944 rfl (by decide +kernel)), (TWt 16 (by decide +kernel) (by decide +kernel)), ⟨by decide, by decide⟩, by decide +kernel, q.1, q.2⟩
theorem in_X1_fling : Cond.instanceMethod yX1_fling ∈ TW := (TWt 955 (by decide +kernel) (by decide +kernel))
set_option maxRecDepth 16384 in
theorem CKX1_fling {rm rm2 : Room} (q : rm2.frames + 1 ≤ rm.frames ∧ 8 + (1 + 11) + rm2.locals ≤ rm.locals) : CK rm yX1_fling cX1_fling 1 none rm2 0 := ⟨(TWt 1031 rfl (by decide +kernel)), (TWt 16 (by decide +kernel) (by decide +kernel)), ⟨by decide, by decide⟩, by decide +kernel, q.1, q.2⟩
theorem in_X2_init : Cond.instanceMethod yX2_init ∈ TW := (TWt 846 (by decide +kernel) (by decide +kernel))
set_option maxRecDepth 16384 in
theorem CKX2_init {rm rm2 : Room} (q : rm2.frames + 1 ≤ rm.frames ∧ 8 + (2 + 11) + rm2.locals ≤ rm.locals) : CK rm yX2_init cX2_init 2 none rm2 1 := ⟨(TWt 847 rfl (by decide +kernel)), (TWt 21 (by decide +kernel) (by decide +kernel)), ⟨by decide, by decide⟩, by decide +kernel, q.1, q.2⟩
theorem in_X2_length : Cond.instanceMethod yX2_length ∈ TW := (TWt 884 (by decide +kernel) (by decide +kernel))
set_option maxRecDepth 16384 in
theorem CKX2_length {rm rm2 : Room} (q : rm2.frames + 1 ≤ rm.frames ∧ 8 + (1 + 11) + rm2.locals ≤ rm.locals) : CK rm yX2_length cX2_length 1 (some .int) rm2 0 := ⟨(TWt 885 rfl (by decide +kernel)), (TWt 21 (by decide +kernel) (by decide +kernel)), ⟨by decide, by decide⟩, by decide +kernel, q.1, q.2⟩
theorem in_X2_elementAt : Cond.instanceMethod yX2_elementAt ∈ TW := (TWt 1106 (by decide +kernel) (by decide +kernel))
set_option maxRecDepth 16384 in
theorem CKX2_elementAt {rm rm2 : Room} (q : rm2.frames + 1 ≤ rm.frames ∧ 8 + (2 + 11) + rm2.locals ≤ rm.locals) : CK rm yX2_elementAt cX2_elementAt 2 (some .int) rm2 1 := ⟨(TWt 1107 rfl (by decide +kernel)), (TWt 21 (by decide +kernel) (by decide +kernel)), ⟨by decide, by decide⟩, by decide +kernel, q.1, q.2⟩
theorem in_X2_takesFrom : Cond.instanceMethod yX2_takesFrom ∈ TW := (TWt 870 (by decide +kernel) (by decide +kernel))
set_option maxRecDepth 16384 in
theorem CKX2_takesFrom {rm rm2 : Room} (q : rm2.frames + 1 ≤ rm.frames ∧ 8 + (2 + 11) + rm2.locals ≤ rm.locals) : CK rm yX2_takesFrom cX2_takesFrom 2 (some .boolean) rm2 1 := ⟨(TWt 871 rfl (by decide +kernel)), (TWt 21 (by decide +kernel) (by decide +kernel)), ⟨by decide, by decide⟩, by decide +kernel, q.1, q.2⟩
theorem in_X2_fill : Cond.instanceMethod yX2_fill ∈ TW := (TWt 902 (by decide +kernel) (by decide +kernel))
set_option maxRecDepth 16384 in
theorem CKX2_fill {rm rm2 : Room} (q : rm2.frames + 1 ≤ rm.frames ∧ 8 + (6 + 11) + rm2.locals ≤ rm.locals) : CK rm yX2_fill cX2_fill 6 none rm2 4 := ⟨(TWt 903 rfl (by decide +kernel)), (TWt 21 (by decide +kernel) (by decide +kernel)), ⟨by decide, by decide⟩, by decide +kernel, q.1, q.2⟩
theorem in_X7_init : Cond.instanceMethod yX7_init ∈ TW := (TWt 814 (by decide +kernel) (by decide +kernel))
set_option maxRecDepth 16384 in
theorem CKX7_init {rm rm2 : Room} (q : rm2.frames + 1 ≤ rm.frames ∧ 8 + (2 + 11) + rm2.locals ≤ rm.locals) : CK rm yX7_init cX7_init 2 none rm2 1 := ⟨(TWt 815 rfl (by decide +kernel)), (TWt 19 (by decide +kernel) (by decide +kernel)), ⟨by decide, by decide⟩, by decide +kernel, q.1, q.2⟩
theorem in_X7_heft : Cond.instanceMethod yX7_heft ∈ TW := (TWt 933 (by decide +kernel) (by decide +kernel))
set_option maxRecDepth 16384 in
theorem CKX7_heft {rm rm2 : Room} (q : rm2.frames + 1 ≤ rm.frames ∧ 8 + (1 + 11) + rm2.locals ≤ rm.locals) : CK rm yX7_heft cX7_heft 1 (some .int) rm2 0 := ⟨(TWt 934 rfl (by decide +kernel)), (TWt 19 (by decide +kernel) (by decide +kernel)), ⟨by decide, by decide⟩, by decide +kernel, q.1, q.2⟩
theorem in_X8_init : Cond.instanceMethod yX8_init ∈ TW := (TWt 806 (by decide +kernel) (by decide +kernel))
set_option maxRecDepth 16384 in
theorem CKX8_init {rm rm2 : Room} (q : rm2.frames + 1 ≤ rm.frames ∧ 8 + (2 + 11) + rm2.locals ≤ rm.locals) : CK rm yX8_init cX8_init 2 none rm2 1 := ⟨(TWt 807 rfl (by decide +kernel)), (TWt 18 (by decide +kernel) (by decide +kernel)), ⟨by decide, by decide⟩, by decide +kernel, q.1, q.2⟩
theorem in_X8_isThing : Cond.instanceMethod yX8_isThing ∈ TW := (TWt 920 (by decide +kernel) (by decide +kernel))
set_option maxRecDepth 16384 in
theorem CKX8_isThing {rm rm2 : Room} (q : rm2.frames + 1 ≤ rm.frames ∧ 8 + (1 + 11) + rm2.locals ≤ rm.locals) : CK rm yX8_isThing cX8_isThing 1 (some .boolean) rm2 0 := ⟨(TWt 921 rfl (by decide +kernel)), (TWt 18 (by decide +kernel) (by decide +kernel)), ⟨by decide, by decide⟩, by decide +kernel, q.1, q.2⟩
theorem in_X8_heft : Cond.instanceMethod yX8_heft ∈ TW := (TWt 936 (by decide +kernel) (by decide +kernel))
set_option maxRecDepth 16384 in
theorem CKX8_heft {rm rm2 : Room} (q : rm2.frames + 1 ≤ rm.frames ∧ 8 + (1 + 11) + rm2.locals ≤ rm.locals) : CK rm yX8_heft cX8_heft 1 (some .int) rm2 0 := ⟨(TWt 937 rfl (by decide +kernel)), (TWt 18 (by decide +kernel) (by decide +kernel)), ⟨by decide, by decide⟩, by decide +kernel, q.1, q.2⟩
theorem in_X8_fling : Cond.instanceMethod yX8_fling ∈ TW := (TWt 960 (by decide +kernel) (by decide +kernel))
set_option maxRecDepth 16384 in
theorem CKX8_fling {rm rm2 : Room} (q : rm2.frames + 1 ≤ rm.frames ∧ 8 + (1 + 11) + rm2.locals ≤ rm.locals) : CK rm yX8_fling cX8_fling 1 none rm2 0 := ⟨(TWt 961 rfl (by decide +kernel)), (TWt 18 (by decide +kernel) (by decide +kernel)), ⟨by decide, by decide⟩, by decide +kernel, q.1, q.2⟩
theorem in_X9_init : Cond.instanceMethod yX9_init ∈ TW := (TWt 789 (by decide +kernel) (by decide +kernel))
set_option maxRecDepth 16384 in
theorem CKX9_init {rm rm2 : Room} (q : rm2.frames + 1 ≤ rm.frames ∧ 8 + (3 + 11) + rm2.locals ≤ rm.locals) : CK rm yX9_init cX9_init 3 none rm2 2 := ⟨(TWt 790 rfl (by decide +kernel)), (TWt 17 (by decide +kernel) (by decide +kernel)), ⟨by decide, by decide⟩, by decide +kernel, q.1, q.2⟩
theorem in_X9_isThing : Cond.instanceMethod yX9_isThing ∈ TW := (TWt 924 (by decide +kernel) (by decide +kernel))
set_option maxRecDepth 16384 in
theorem CKX9_isThing {rm rm2 : Room} (q : rm2.frames + 1 ≤ rm.frames ∧ 8 + (1 + 11) + rm2.locals ≤ rm.locals) : CK rm yX9_isThing cX9_isThing 1 (some .boolean) rm2 0 := ⟨(TWt 925 rfl (by decide +kernel)), (TWt 17 (by decide +kernel) (by decide +kernel)), ⟨by decide, by decide⟩, by decide +kernel, q.1, q.2⟩
theorem in_X9_heft : Cond.instanceMethod yX9_heft ∈ TW := (TWt 941 (by decide +kernel) (by decide +kernel))
set_option maxRecDepth 16384 in
theorem CKX9_heft {rm rm2 : Room} (q : rm2.frames + 1 ≤ rm.frames ∧ 8 + (1 + 11) + rm2.locals ≤ rm.locals) : CK rm yX9_heft cX9_heft 1 (some .int) rm2 0 := ⟨(TWt 942 rfl (by decide +kernel)), (TWt 17 (by decide +kernel) (by decide +kernel)), ⟨by decide, by decide⟩, by decide +kernel, q.1, q.2⟩
theorem in_X3_init : Cond.instanceMethod yX3_init ∈ TW := (TWt 81 (by decide +kernel) (by decide +kernel))
set_option maxRecDepth 16384 in
theorem CKX3_init {rm rm2 : Room} (q : rm2.frames + 1 ≤ rm.frames ∧ 8 + (2 + 11) + rm2.locals ≤ rm.locals) : CK rm yX3_init cX3_init 2 none rm2 1 := ⟨(TWt 82 rfl (by decide +kernel)), (TWt 3 (by decide +kernel) (by decide +kernel)), ⟨by decide, by decide⟩, by decide +kernel, q.1, q.2⟩
theorem in_X4_init : Cond.instanceMethod yX4_init ∈ TW := (TWt 234 (by decide +kernel) (by decide +kernel))
set_option maxRecDepth 16384 in
theorem CKX4_init {rm rm2 : Room} (q : rm2.frames + 1 ≤ rm.frames ∧ 8 + (2 + 11) + rm2.locals ≤ rm.locals) : CK rm yX4_init cX4_init 2 none rm2 1 := ⟨(TWt 235 rfl (by decide +kernel)), (TWt 5 (by decide +kernel) (by decide +kernel)), ⟨by decide, by decide⟩, by decide +kernel, q.1, q.2⟩
theorem in_X5_init : Cond.instanceMethod yX5_init ∈ TW := (TWt 34 (by decide +kernel) (by decide +kernel))
set_option maxRecDepth 16384 in
theorem CKX5_init {rm rm2 : Room} (q : rm2.frames + 1 ≤ rm.frames ∧ 8 + (1 + 11) + rm2.locals ≤ rm.locals) : CK rm yX5_init cX5_init 1 none rm2 0 := ⟨(TWt 35 rfl (by decide +kernel)), (TWt 2 (by decide +kernel) (by decide +kernel)), ⟨by decide, by decide⟩, by decide +kernel, q.1, q.2⟩
theorem in_X6_init : Cond.instanceMethod yX6_init ∈ TW := (TWt 263 (by decide +kernel) (by decide +kernel))
set_option maxRecDepth 16384 in
theorem CKX6_init {rm rm2 : Room} (q : rm2.frames + 1 ≤ rm.frames ∧ 8 + (3 + 11) + rm2.locals ≤ rm.locals) : CK rm yX6_init cX6_init 3 none rm2 2 := ⟨(TWt 264 rfl (by decide +kernel)), (TWt 6 (by decide +kernel) (by decide +kernel)), ⟨by decide, by decide⟩, by decide +kernel, q.1, q.2⟩
theorem in_X10_init : Cond.instanceMethod yX10_init ∈ TW := (TWt 157 (by decide +kernel) (by decide +kernel))
set_option maxRecDepth 16384 in
theorem CKX10_init {rm rm2 : Room} (q : rm2.frames + 1 ≤ rm.frames ∧ 8 + (1 + 11) + rm2.locals ≤ rm.locals) : CK rm yX10_init cX10_init 1 none rm2 0 := ⟨(TWt 158 rfl (by decide +kernel)), (TWt 4 (by decide +kernel) (by decide +kernel)), ⟨by decide, by decide⟩, by decide +kernel, q.1, q.2⟩
theorem in_X11_init : Cond.instanceMethod yX11_init ∈ TW := (TWt 26 (by decide +kernel) (by decide +kernel))
set_option maxRecDepth 16384 in
theorem CKX11_init {rm rm2 : Room} (q : rm2.frames + 1 ≤ rm.frames ∧ 8 + (1 + 11) + rm2.locals ≤ rm.locals) : CK rm yX11_init cX11_init 1 none rm2 0 := ⟨(TWt 27 rfl (by decide +kernel)), (TWt 1 (by decide +kernel) (by decide +kernel)), ⟨by decide, by decide⟩, by decide +kernel, q.1, q.2⟩
theorem in_X12_init : Cond.instanceMethod yX12_init ∈ TW := (TWt 1115 (by decide +kernel) (by decide +kernel))
set_option maxRecDepth 16384 in
theorem CKX12_init {rm rm2 : Room} (q : rm2.frames + 1 ≤ rm.frames ∧ 8 + (1 + 11) + rm2.locals ≤ rm.locals) : CK rm yX12_init cX12_init 1 none rm2 0 := ⟨(TWt 1116 rfl (by decide +kernel)), (TWt 7 (by decide +kernel) (by decide +kernel)), ⟨by decide, by decide⟩, by decide +kernel, q.1, q.2⟩
theorem lk_RX11_321 : Cond.methodLink RX11 321 yX1_elementAt ∈ TW := (TWt 1099 (by decide +kernel) (by decide +kernel))
theorem sm_X1_elementAt : Cond.sameMethod yX1_elementAt.cls yX1_elementAt.cls yX1_elementAt.name yX1_elementAt.desc ∈ TW := (TWt 1101 (by decide +kernel) (by decide +kernel))
theorem cu_elementAt_X0 : CU RX11 321 yX1_elementAt yX0_elementAt RX0 := ⟨lk_RX11_321, sm_X1_elementAt, in_X1_elementAt, ⟨cX1_elementAt, 2, (some .int), (TWt 1111 (by decide +kernel) (by decide +kernel))⟩, (TWt 1102 (by decide +kernel) (by decide +kernel)), in_X0_elementAt, ⟨by decide, by decide⟩, rfl⟩
theorem cu_elementAt_X2 : CU RX11 321 yX1_elementAt yX2_elementAt RX2 := ⟨lk_RX11_321, sm_X1_elementAt, in_X1_elementAt, ⟨cX1_elementAt, 2, (some .int), (TWt 1111 (by decide +kernel) (by decide +kernel))⟩, (TWt 1105 (by decide +kernel) (by decide +kernel)), in_X2_elementAt, ⟨by decide, by decide⟩, rfl⟩
theorem cu_elementAt_X7 : CU RX11 321 yX1_elementAt yX1_elementAt RX7 := ⟨lk_RX11_321, sm_X1_elementAt, in_X1_elementAt, ⟨cX1_elementAt, 2, (some .int), (TWt 1111 (by decide +kernel) (by decide +kernel))⟩, (TWt 1108 (by decide +kernel) (by decide +kernel)), in_X1_elementAt, ⟨by decide, by decide⟩, rfl⟩
theorem cu_elementAt_X8 : CU RX11 321 yX1_elementAt yX1_elementAt RX8 := ⟨lk_RX11_321, sm_X1_elementAt, in_X1_elementAt, ⟨cX1_elementAt, 2, (some .int), (TWt 1111 (by decide +kernel) (by decide +kernel))⟩, (TWt 1109 (by decide +kernel) (by decide +kernel)), in_X1_elementAt, ⟨by decide, by decide⟩, rfl⟩
theorem cu_elementAt_X9 : CU RX11 321 yX1_elementAt yX1_elementAt RX9 := ⟨lk_RX11_321, sm_X1_elementAt, in_X1_elementAt, ⟨cX1_elementAt, 2, (some .int), (TWt 1111 (by decide +kernel) (by decide +kernel))⟩, (TWt 1110 (by decide +kernel) (by decide +kernel)), in_X1_elementAt, ⟨by decide, by decide⟩, rfl⟩
theorem lk_RX11_332 : Cond.methodLink RX11 332 yX1_fill ∈ TW := (TWt 893 (by decide +kernel) (by decide +kernel))
theorem sm_X1_fill : Cond.sameMethod yX1_fill.cls yX1_fill.cls yX1_fill.name yX1_fill.desc ∈ TW := (TWt 895 (by decide +kernel) (by decide +kernel))
theorem cu_fill_X0 : CU RX11 332 yX1_fill yX0_fill RX0 := ⟨lk_RX11_332, sm_X1_fill, in_X1_fill, ⟨cX1_fill, 5, none, (TWt 909 (by decide +kernel) (by decide +kernel))⟩, (TWt 896 (by decide +kernel) (by decide +kernel)), in_X0_fill, ⟨by decide, by decide⟩, rfl⟩
theorem cu_fill_X2 : CU RX11 332 yX1_fill yX2_fill RX2 := ⟨lk_RX11_332, sm_X1_fill, in_X1_fill, ⟨cX1_fill, 5, none, (TWt 909 (by decide +kernel) (by decide +kernel))⟩, (TWt 901 (by decide +kernel) (by decide +kernel)), in_X2_fill, ⟨by decide, by decide⟩, rfl⟩
theorem cu_fill_X7 : CU RX11 332 yX1_fill yX1_fill RX7 := ⟨lk_RX11_332, sm_X1_fill, in_X1_fill, ⟨cX1_fill, 5, none, (TWt 909 (by decide +kernel) (by decide +kernel))⟩, (TWt 906 (by decide +kernel) (by decide +kernel)), in_X1_fill, ⟨by decide, by decide⟩, rfl⟩
theorem cu_fill_X8 : CU RX11 332 yX1_fill yX1_fill RX8 := ⟨lk_RX11_332, sm_X1_fill, in_X1_fill, ⟨cX1_fill, 5, none, (TWt 909 (by decide +kernel) (by decide +kernel))⟩, (TWt 907 (by decide +kernel) (by decide +kernel)), in_X1_fill, ⟨by decide, by decide⟩, rfl⟩
theorem cu_fill_X9 : CU RX11 332 yX1_fill yX1_fill RX9 := ⟨lk_RX11_332, sm_X1_fill, in_X1_fill, ⟨cX1_fill, 5, none, (TWt 909 (by decide +kernel) (by decide +kernel))⟩, (TWt 908 (by decide +kernel) (by decide +kernel)), in_X1_fill, ⟨by decide, by decide⟩, rfl⟩
theorem lk_RX11_347 : Cond.methodLink RX11 347 yX1_fling ∈ TW := (TWt 954 (by decide +kernel) (by decide +kernel))
theorem sm_X1_fling : Cond.sameMethod yX1_fling.cls yX1_fling.cls yX1_fling.name yX1_fling.desc ∈ TW := (TWt 956 (by decide +kernel) (by decide +kernel))
theorem cu_fling_X0 : CU RX11 347 yX1_fling yX1_fling RX0 := ⟨lk_RX11_347, sm_X1_fling, in_X1_fling, ⟨cX1_fling, 1, none, (TWt 1031 (by decide +kernel) (by decide +kernel))⟩, (TWt 957 (by decide +kernel) (by decide +kernel)), in_X1_fling, ⟨by decide, by decide⟩, rfl⟩
theorem cu_fling_X2 : CU RX11 347 yX1_fling yX1_fling RX2 := ⟨lk_RX11_347, sm_X1_fling, in_X1_fling, ⟨cX1_fling, 1, none, (TWt 1031 (by decide +kernel) (by decide +kernel))⟩, (TWt 958 (by decide +kernel) (by decide +kernel)), in_X1_fling, ⟨by decide, by decide⟩, rfl⟩
theorem cu_fling_X7 : CU RX11 347 yX1_fling yX8_fling RX7 := ⟨lk_RX11_347, sm_X1_fling, in_X1_fling, ⟨cX1_fling, 1, none, (TWt 1031 (by decide +kernel) (by decide +kernel))⟩, (TWt 959 (by decide +kernel) (by decide +kernel)), in_X8_fling, ⟨by decide, by decide⟩, rfl⟩
theorem cu_fling_X8 : CU RX11 347 yX1_fling yX8_fling RX8 := ⟨lk_RX11_347, sm_X1_fling, in_X1_fling, ⟨cX1_fling, 1, none, (TWt 1031 (by decide +kernel) (by decide +kernel))⟩, (TWt 1029 (by decide +kernel) (by decide +kernel)), in_X8_fling, ⟨by decide, by decide⟩, rfl⟩
theorem cu_fling_X9 : CU RX11 347 yX1_fling yX1_fling RX9 := ⟨lk_RX11_347, sm_X1_fling, in_X1_fling, ⟨cX1_fling, 1, none, (TWt 1031 (by decide +kernel) (by decide +kernel))⟩, (TWt 1030 (by decide +kernel) (by decide +kernel)), in_X1_fling, ⟨by decide, by decide⟩, rfl⟩
theorem lk_RX11_340 : Cond.methodLink RX11 340 yX1_heft ∈ TW := (TWt 927 (by decide +kernel) (by decide +kernel))
theorem sm_X1_heft : Cond.sameMethod yX1_heft.cls yX1_heft.cls yX1_heft.name yX1_heft.desc ∈ TW := (TWt 929 (by decide +kernel) (by decide +kernel))
theorem cu_heft_X0 : CU RX11 340 yX1_heft yX1_heft RX0 := ⟨lk_RX11_340, sm_X1_heft, in_X1_heft, ⟨cX1_heft, 1, (some .int), (TWt 944 (by decide +kernel) (by decide +kernel))⟩, (TWt 930 (by decide +kernel) (by decide +kernel)), in_X1_heft, ⟨by decide, by decide⟩, rfl⟩
theorem cu_heft_X2 : CU RX11 340 yX1_heft yX1_heft RX2 := ⟨lk_RX11_340, sm_X1_heft, in_X1_heft, ⟨cX1_heft, 1, (some .int), (TWt 944 (by decide +kernel) (by decide +kernel))⟩, (TWt 931 (by decide +kernel) (by decide +kernel)), in_X1_heft, ⟨by decide, by decide⟩, rfl⟩
theorem cu_heft_X7 : CU RX11 340 yX1_heft yX7_heft RX7 := ⟨lk_RX11_340, sm_X1_heft, in_X1_heft, ⟨cX1_heft, 1, (some .int), (TWt 944 (by decide +kernel) (by decide +kernel))⟩, (TWt 932 (by decide +kernel) (by decide +kernel)), in_X7_heft, ⟨by decide, by decide⟩, rfl⟩
theorem cu_heft_X8 : CU RX11 340 yX1_heft yX8_heft RX8 := ⟨lk_RX11_340, sm_X1_heft, in_X1_heft, ⟨cX1_heft, 1, (some .int), (TWt 944 (by decide +kernel) (by decide +kernel))⟩, (TWt 939 (by decide +kernel) (by decide +kernel)), in_X8_heft, ⟨by decide, by decide⟩, rfl⟩
theorem cu_heft_X9 : CU RX11 340 yX1_heft yX9_heft RX9 := ⟨lk_RX11_340, sm_X1_heft, in_X1_heft, ⟨cX1_heft, 1, (some .int), (TWt 944 (by decide +kernel) (by decide +kernel))⟩, (TWt 940 (by decide +kernel) (by decide +kernel)), in_X9_heft, ⟨by decide, by decide⟩, rfl⟩
theorem lk_RX11_336 : Cond.methodLink RX11 336 yX1_isThing ∈ TW := (TWt 914 (by decide +kernel) (by decide +kernel))
theorem sm_X1_isThing : Cond.sameMethod yX1_isThing.cls yX1_isThing.cls yX1_isThing.name yX1_isThing.desc ∈ TW := (TWt 916 (by decide +kernel) (by decide +kernel))
theorem cu_isThing_X0 : CU RX11 336 yX1_isThing yX1_isThing RX0 := ⟨lk_RX11_336, sm_X1_isThing, in_X1_isThing, ⟨cX1_isThing, 1, (some .boolean), (TWt 926 (by decide +kernel) (by decide +kernel))⟩, (TWt 917 (by decide +kernel) (by decide +kernel)), in_X1_isThing, ⟨by decide, by decide⟩, rfl⟩
theorem cu_isThing_X2 : CU RX11 336 yX1_isThing yX1_isThing RX2 := ⟨lk_RX11_336, sm_X1_isThing, in_X1_isThing, ⟨cX1_isThing, 1, (some .boolean), (TWt 926 (by decide +kernel) (by decide +kernel))⟩, (TWt 918 (by decide +kernel) (by decide +kernel)), in_X1_isThing, ⟨by decide, by decide⟩, rfl⟩
theorem cu_isThing_X7 : CU RX11 336 yX1_isThing yX8_isThing RX7 := ⟨lk_RX11_336, sm_X1_isThing, in_X1_isThing, ⟨cX1_isThing, 1, (some .boolean), (TWt 926 (by decide +kernel) (by decide +kernel))⟩, (TWt 919 (by decide +kernel) (by decide +kernel)), in_X8_isThing, ⟨by decide, by decide⟩, rfl⟩
theorem cu_isThing_X8 : CU RX11 336 yX1_isThing yX8_isThing RX8 := ⟨lk_RX11_336, sm_X1_isThing, in_X1_isThing, ⟨cX1_isThing, 1, (some .boolean), (TWt 926 (by decide +kernel) (by decide +kernel))⟩, (TWt 922 (by decide +kernel) (by decide +kernel)), in_X8_isThing, ⟨by decide, by decide⟩, rfl⟩
theorem cu_isThing_X9 : CU RX11 336 yX1_isThing yX9_isThing RX9 := ⟨lk_RX11_336, sm_X1_isThing, in_X1_isThing, ⟨cX1_isThing, 1, (some .boolean), (TWt 926 (by decide +kernel) (by decide +kernel))⟩, (TWt 923 (by decide +kernel) (by decide +kernel)), in_X9_isThing, ⟨by decide, by decide⟩, rfl⟩
theorem lk_RX11_316 : Cond.methodLink RX11 316 yX1_length ∈ TW := (TWt 877 (by decide +kernel) (by decide +kernel))
theorem sm_X1_length : Cond.sameMethod yX1_length.cls yX1_length.cls yX1_length.name yX1_length.desc ∈ TW := (TWt 879 (by decide +kernel) (by decide +kernel))
theorem cu_length_X0 : CU RX11 316 yX1_length yX0_length RX0 := ⟨lk_RX11_316, sm_X1_length, in_X1_length, ⟨cX1_length, 1, (some .int), (TWt 889 (by decide +kernel) (by decide +kernel))⟩, (TWt 880 (by decide +kernel) (by decide +kernel)), in_X0_length, ⟨by decide, by decide⟩, rfl⟩
theorem cu_length_X2 : CU RX11 316 yX1_length yX2_length RX2 := ⟨lk_RX11_316, sm_X1_length, in_X1_length, ⟨cX1_length, 1, (some .int), (TWt 889 (by decide +kernel) (by decide +kernel))⟩, (TWt 883 (by decide +kernel) (by decide +kernel)), in_X2_length, ⟨by decide, by decide⟩, rfl⟩
theorem cu_length_X7 : CU RX11 316 yX1_length yX1_length RX7 := ⟨lk_RX11_316, sm_X1_length, in_X1_length, ⟨cX1_length, 1, (some .int), (TWt 889 (by decide +kernel) (by decide +kernel))⟩, (TWt 886 (by decide +kernel) (by decide +kernel)), in_X1_length, ⟨by decide, by decide⟩, rfl⟩
theorem cu_length_X8 : CU RX11 316 yX1_length yX1_length RX8 := ⟨lk_RX11_316, sm_X1_length, in_X1_length, ⟨cX1_length, 1, (some .int), (TWt 889 (by decide +kernel) (by decide +kernel))⟩, (TWt 887 (by decide +kernel) (by decide +kernel)), in_X1_length, ⟨by decide, by decide⟩, rfl⟩
theorem cu_length_X9 : CU RX11 316 yX1_length yX1_length RX9 := ⟨lk_RX11_316, sm_X1_length, in_X1_length, ⟨cX1_length, 1, (some .int), (TWt 889 (by decide +kernel) (by decide +kernel))⟩, (TWt 888 (by decide +kernel) (by decide +kernel)), in_X1_length, ⟨by decide, by decide⟩, rfl⟩
theorem lk_RX11_324 : Cond.methodLink RX11 324 yX1_takesFrom ∈ TW := (TWt 862 (by decide +kernel) (by decide +kernel))
theorem sm_X1_takesFrom : Cond.sameMethod yX1_takesFrom.cls yX1_takesFrom.cls yX1_takesFrom.name yX1_takesFrom.desc ∈ TW := (TWt 864 (by decide +kernel) (by decide +kernel))
theorem cu_takesFrom_X0 : CU RX11 324 yX1_takesFrom yX0_takesFrom RX0 := ⟨lk_RX11_324, sm_X1_takesFrom, in_X1_takesFrom, ⟨cX1_takesFrom, 2, (some .boolean), (TWt 876 (by decide +kernel) (by decide +kernel))⟩, (TWt 865 (by decide +kernel) (by decide +kernel)), in_X0_takesFrom, ⟨by decide, by decide⟩, rfl⟩
theorem cu_takesFrom_X2 : CU RX11 324 yX1_takesFrom yX2_takesFrom RX2 := ⟨lk_RX11_324, sm_X1_takesFrom, in_X1_takesFrom, ⟨cX1_takesFrom, 2, (some .boolean), (TWt 876 (by decide +kernel) (by decide +kernel))⟩, (TWt 869 (by decide +kernel) (by decide +kernel)), in_X2_takesFrom, ⟨by decide, by decide⟩, rfl⟩
theorem cu_takesFrom_X7 : CU RX11 324 yX1_takesFrom yX1_takesFrom RX7 := ⟨lk_RX11_324, sm_X1_takesFrom, in_X1_takesFrom, ⟨cX1_takesFrom, 2, (some .boolean), (TWt 876 (by decide +kernel) (by decide +kernel))⟩, (TWt 873 (by decide +kernel) (by decide +kernel)), in_X1_takesFrom, ⟨by decide, by decide⟩, rfl⟩
theorem cu_takesFrom_X8 : CU RX11 324 yX1_takesFrom yX1_takesFrom RX8 := ⟨lk_RX11_324, sm_X1_takesFrom, in_X1_takesFrom, ⟨cX1_takesFrom, 2, (some .boolean), (TWt 876 (by decide +kernel) (by decide +kernel))⟩, (TWt 874 (by decide +kernel) (by decide +kernel)), in_X1_takesFrom, ⟨by decide, by decide⟩, rfl⟩
theorem cu_takesFrom_X9 : CU RX11 324 yX1_takesFrom yX1_takesFrom RX9 := ⟨lk_RX11_324, sm_X1_takesFrom, in_X1_takesFrom, ⟨cX1_takesFrom, 2, (some .boolean), (TWt 876 (by decide +kernel) (by decide +kernel))⟩, (TWt 875 (by decide +kernel) (by decide +kernel)), in_X1_takesFrom, ⟨by decide, by decide⟩, rfl⟩
theorem sm_X8_heft : Cond.sameMethod yX8_heft.cls yX8_heft.cls yX8_heft.name yX8_heft.desc ∈ TW := (TWt 1630 (by decide +kernel) (by decide +kernel))
theorem su_X7 : Cond.superclass RX7 yX8_heft.cls ∈ TW := (TWt 818 (by decide +kernel) (by decide +kernel))
theorem su_X8 : Cond.superclass RX8 yX1_heft.cls ∈ TW := (TWt 810 (by decide +kernel) (by decide +kernel))
theorem su_X9 : Cond.superclass RX9 yX1_heft.cls ∈ TW := (TWt 802 (by decide +kernel) (by decide +kernel))
theorem is_X0 : Cond.instantiable RX0 2 ∈ TW := (TWt 828 (by decide +kernel) (by decide +kernel))
theorem iz_X0 : Cond.initialized RX0 ∈ TW := (TWt 20 (by decide +kernel) (by decide +kernel))
theorem is_X2 : Cond.instantiable RX2 2 ∈ TW := (TWt 844 (by decide +kernel) (by decide +kernel))
theorem iz_X2 : Cond.initialized RX2 ∈ TW := (TWt 21 (by decide +kernel) (by decide +kernel))
theorem is_X3 : Cond.instantiable RX3 18 ∈ TW := (TWt 79 (by decide +kernel) (by decide +kernel))
theorem iz_X3 : Cond.initialized RX3 ∈ TW := (TWt 3 (by decide +kernel) (by decide +kernel))
theorem is_X4 : Cond.instantiable RX4 7 ∈ TW := (TWt 232 (by decide +kernel) (by decide +kernel))
theorem iz_X4 : Cond.initialized RX4 ∈ TW := (TWt 5 (by decide +kernel) (by decide +kernel))
theorem is_X5 : Cond.instantiable RX5 8 ∈ TW := (TWt 32 (by decide +kernel) (by decide +kernel))
theorem iz_X5 : Cond.initialized RX5 ∈ TW := (TWt 2 (by decide +kernel) (by decide +kernel))
theorem is_X6 : Cond.instantiable RX6 11 ∈ TW := (TWt 261 (by decide +kernel) (by decide +kernel))
theorem iz_X6 : Cond.initialized RX6 ∈ TW := (TWt 6 (by decide +kernel) (by decide +kernel))
theorem is_X7 : Cond.instantiable RX7 1 ∈ TW := (TWt 812 (by decide +kernel) (by decide +kernel))
theorem iz_X7 : Cond.initialized RX7 ∈ TW := (TWt 19 (by decide +kernel) (by decide +kernel))
theorem is_X8 : Cond.instantiable RX8 1 ∈ TW := (TWt 804 (by decide +kernel) (by decide +kernel))
theorem iz_X8 : Cond.initialized RX8 ∈ TW := (TWt 18 (by decide +kernel) (by decide +kernel))
theorem is_X9 : Cond.instantiable RX9 2 ∈ TW := (TWt 787 (by decide +kernel) (by decide +kernel))
theorem iz_X9 : Cond.initialized RX9 ∈ TW := (TWt 17 (by decide +kernel) (by decide +kernel))
theorem is_X10 : Cond.instantiable RX10 17 ∈ TW := (TWt 155 (by decide +kernel) (by decide +kernel))
theorem iz_X10 : Cond.initialized RX10 ∈ TW := (TWt 4 (by decide +kernel) (by decide +kernel))
theorem is_X11 : Cond.instantiable RX11 13 ∈ TW := (TWt 24 (by decide +kernel) (by decide +kernel))
theorem iz_X11 : Cond.initialized RX11 ∈ TW := (TWt 1 (by decide +kernel) (by decide +kernel))
theorem is_X12 : Cond.instantiable RX12 83 ∈ TW := (TWt 1113 (by decide +kernel) (by decide +kernel))
theorem iz_X12 : Cond.initialized RX12 ∈ TW := (TWt 7 (by decide +kernel) (by decide +kernel))
theorem ar_int : Cond.arrayClass .int ∈ TW := (TWt 77 (by decide +kernel) (by decide +kernel))
theorem ar_byte : Cond.arrayClass .byte ∈ TW := (TWt 838 (by decide +kernel) (by decide +kernel))
theorem ar_boolean : Cond.arrayClass .boolean ∈ TW := (TWt 1369 (by decide +kernel) (by decide +kernel))
theorem oi_i : Cond.instanceMethod Lib.objectInit ∈ TW := (TWt 29 (by decide +kernel) (by decide +kernel))
set_option maxRecDepth 16384 in
theorem oi_c : Cond.code Lib.objectInit ⟨#[0xb1]⟩ 1 none ∈ TW := (TWt 30 rfl (by decide +kernel))
theorem lo_RX11_3 : Cond.methodLink RX11 3 Lib.objectInit ∈ TW := (TWt 28 (by decide +kernel) (by decide +kernel))
theorem lo_RX5_3 : Cond.methodLink RX5 3 Lib.objectInit ∈ TW := (TWt 36 (by decide +kernel) (by decide +kernel))
theorem lo_RX3_3 : Cond.methodLink RX3 3 Lib.objectInit ∈ TW := (TWt 83 (by decide +kernel) (by decide +kernel))
theorem lo_RX10_3 : Cond.methodLink RX10 3 Lib.objectInit ∈ TW := (TWt 159 (by decide +kernel) (by decide +kernel))
theorem lo_RX4_3 : Cond.methodLink RX4 3 Lib.objectInit ∈ TW := (TWt 236 (by decide +kernel) (by decide +kernel))
theorem lo_RX6_3 : Cond.methodLink RX6 3 Lib.objectInit ∈ TW := (TWt 265 (by decide +kernel) (by decide +kernel))
theorem lo_RX1_1 : Cond.methodLink RX1 1 Lib.objectInit ∈ TW := (TWt 794 (by decide +kernel) (by decide +kernel))
theorem lk_RX11_361 : Cond.methodLink RX11 361 Lib.Math.min.name ∈ TW := (TWt 823 (by decide +kernel) (by decide +kernel))
theorem lk_RX0_19 : Cond.methodLink RX0 19 arraycopyName ∈ TW := (TWt 900 (by decide +kernel) (by decide +kernel))
theorem lk_RX2_19 : Cond.methodLink RX2 19 arraycopyName ∈ TW := (TWt 905 (by decide +kernel) (by decide +kernel))
theorem lo_RX12_1 : Cond.methodLink RX12 1 Lib.objectInit ∈ TW := (TWt 1117 (by decide +kernel) (by decide +kernel))
theorem mn_s : Cond.static Lib.Math.min.name ∈ TW := (TWt 824 (by decide +kernel) (by decide +kernel))
set_option maxRecDepth 16384 in
theorem mn_c : Cond.code Lib.Math.min.name Lib.Math.min.code 2 (some .int) ∈ TW := (TWt 825 rfl (by decide +kernel))
theorem iz_IllegalStateException : Cond.initialized "java/lang/IllegalStateException" ∈ TW := (TWt 14 (by decide +kernel) (by decide +kernel))
theorem iz_IllegalArgumentException : Cond.initialized "java/lang/IllegalArgumentException" ∈ TW := (TWt 15 (by decide +kernel) (by decide +kernel))
theorem iz_UnsupportedOperationException : Cond.initialized "java/lang/UnsupportedOperationException" ∈ TW := (TWt 22 (by decide +kernel) (by decide +kernel))
