section MG_33_hdec
theorem dX0_init_0 : decode cX0_init 0 = .ok (.aload_n 0, 1) := dk_42 (by decide +kernel)
theorem dX0_init_1 : decode cX0_init 1 = .ok (.iconst 0, 1) := dk_3 (by decide +kernel)
theorem dX0_init_2 : decode cX0_init 2 = .ok (.invokespecial 1, 3) := dk_183 (a := 0) (b := 1) (by decide +kernel) rfl
theorem dX0_init_5 : decode cX0_init 5 = .ok (.aload_n 0, 1) := dk_42 (by decide +kernel)
theorem dX0_init_6 : decode cX0_init 6 = .ok (.aload_n 1, 1) := dk_43 (by decide +kernel)
theorem dX0_init_7 : decode cX0_init 7 = .ok (.putfield 7, 3) := dk_181 (a := 0) (b := 7) (by decide +kernel) rfl
theorem dX0_init_10 : decode cX0_init 10 = .ok (.return_, 1) := dk_177 (by decide +kernel)
theorem dX0_length_0 : decode cX0_length 0 = .ok (.aload_n 0, 1) := dk_42 (by decide +kernel)
theorem dX0_length_1 : decode cX0_length 1 = .ok (.getfield 7, 3) := dk_180 (a := 0) (b := 7) (by decide +kernel) rfl
theorem dX0_length_4 : decode cX0_length 4 = .ok (.arraylength, 1) := dk_190 (by decide +kernel)
theorem dX0_length_5 : decode cX0_length 5 = .ok (.ireturn, 1) := dk_172 (by decide +kernel)
def dncX0_elementAt : Nat := 0xac030400a7331b0700b42a0c00a2be0700b42a1b15009b1b
theorem dmcX0_elementAt : dkc dncX0_elementAt 24 cX0_elementAt.data.toList 0 = true := by decide +kernel
theorem dX0_elementAt_0 : decode cX0_elementAt 0 = .ok (.iload_n 1, 1) := dk_27 (dkn dmcX0_elementAt (by decide +kernel))
theorem dX0_elementAt_1 : decode cX0_elementAt 1 = .ok (.ifCond .lt 21, 3) := dk_155 (a := 0) (b := 21) (dkn dmcX0_elementAt (by decide +kernel)) rfl
theorem dX0_elementAt_4 : decode cX0_elementAt 4 = .ok (.iload_n 1, 1) := dk_27 (dkn dmcX0_elementAt (by decide +kernel))
theorem dX0_elementAt_5 : decode cX0_elementAt 5 = .ok (.aload_n 0, 1) := dk_42 (dkn dmcX0_elementAt (by decide +kernel))
theorem dX0_elementAt_6 : decode cX0_elementAt 6 = .ok (.getfield 7, 3) := dk_180 (a := 0) (b := 7) (dkn dmcX0_elementAt (by decide +kernel)) rfl
theorem dX0_elementAt_9 : decode cX0_elementAt 9 = .ok (.arraylength, 1) := dk_190 (dkn dmcX0_elementAt (by decide +kernel))
theorem dX0_elementAt_10 : decode cX0_elementAt 10 = .ok (.if_icmp .ge 12, 3) := dk_162 (a := 0) (b := 12) (dkn dmcX0_elementAt (by decide +kernel)) rfl
theorem dX0_elementAt_13 : decode cX0_elementAt 13 = .ok (.aload_n 0, 1) := dk_42 (dkn dmcX0_elementAt (by decide +kernel))
theorem dX0_elementAt_14 : decode cX0_elementAt 14 = .ok (.getfield 7, 3) := dk_180 (a := 0) (b := 7) (dkn dmcX0_elementAt (by decide +kernel)) rfl
theorem dX0_elementAt_17 : decode cX0_elementAt 17 = .ok (.iload_n 1, 1) := dk_27 (dkn dmcX0_elementAt (by decide +kernel))
theorem dX0_elementAt_18 : decode cX0_elementAt 18 = .ok (.baload, 1) := dk_51 (dkn dmcX0_elementAt (by decide +kernel))
theorem dX0_elementAt_19 : decode cX0_elementAt 19 = .ok (.goto 4, 3) := dk_167 (a := 0) (b := 4) (dkn dmcX0_elementAt (by decide +kernel)) rfl
theorem dX0_elementAt_22 : decode cX0_elementAt 22 = .ok (.iconst 0, 1) := dk_3 (dkn dmcX0_elementAt (by decide +kernel))
theorem dX0_elementAt_23 : decode cX0_elementAt 23 = .ok (.ireturn, 1) := dk_172 (dkn dmcX0_elementAt (by decide +kernel))
theorem dX0_takesFrom_0 : decode cX0_takesFrom 0 = .ok (.aload_n 1, 1) := dk_43 (by decide +kernel)
theorem dX0_takesFrom_1 : decode cX0_takesFrom 1 = .ok (.instanceof 8, 3) := by decide +kernel
theorem dX0_takesFrom_4 : decode cX0_takesFrom 4 = .ok (.ireturn, 1) := dk_172 (by decide +kernel)
def dncX0_fill : Nat := 0xb11300b804151b0700b42a1d0700b405191300990d00b8be0700b42a04151b2100990d00b8be0700b4051904151d053a0800c02c3600990800c12c
theorem dmcX0_fill : dkc dncX0_fill 59 cX0_fill.data.toList 0 = true := by decide +kernel
theorem dX0_fill_0 : decode cX0_fill 0 = .ok (.aload_n 2, 1) := dk_44 (dkn dmcX0_fill (by decide +kernel))
theorem dX0_fill_1 : decode cX0_fill 1 = .ok (.instanceof 8, 3) := by decide +kernel
theorem dX0_fill_4 : decode cX0_fill 4 = .ok (.ifCond .eq 54, 3) := dk_153 (a := 0) (b := 54) (dkn dmcX0_fill (by decide +kernel)) rfl
theorem dX0_fill_7 : decode cX0_fill 7 = .ok (.aload_n 2, 1) := dk_44 (dkn dmcX0_fill (by decide +kernel))
theorem dX0_fill_8 : decode cX0_fill 8 = .ok (.checkcast 8, 3) := by decide +kernel
theorem dX0_fill_11 : decode cX0_fill 11 = .ok (.astore 5, 2) := dk_58 (dkn dmcX0_fill (by decide +kernel))
theorem dX0_fill_13 : decode cX0_fill 13 = .ok (.iload_n 3, 1) := dk_29 (dkn dmcX0_fill (by decide +kernel))
theorem dX0_fill_14 : decode cX0_fill 14 = .ok (.iload 4, 2) := dk_21 (dkn dmcX0_fill (by decide +kernel))
theorem dX0_fill_16 : decode cX0_fill 16 = .ok (.aload 5, 2) := dk_25 (dkn dmcX0_fill (by decide +kernel))
theorem dX0_fill_18 : decode cX0_fill 18 = .ok (.getfield 7, 3) := dk_180 (a := 0) (b := 7) (dkn dmcX0_fill (by decide +kernel)) rfl
theorem dX0_fill_21 : decode cX0_fill 21 = .ok (.arraylength, 1) := dk_190 (dkn dmcX0_fill (by decide +kernel))
theorem dX0_fill_22 : decode cX0_fill 22 = .ok (.invokestatic 13, 3) := dk_184 (a := 0) (b := 13) (dkn dmcX0_fill (by decide +kernel)) rfl
theorem dX0_fill_25 : decode cX0_fill 25 = .ok (.ifCond .eq 33, 3) := dk_153 (a := 0) (b := 33) (dkn dmcX0_fill (by decide +kernel)) rfl
theorem dX0_fill_28 : decode cX0_fill 28 = .ok (.iload_n 1, 1) := dk_27 (dkn dmcX0_fill (by decide +kernel))
theorem dX0_fill_29 : decode cX0_fill 29 = .ok (.iload 4, 2) := dk_21 (dkn dmcX0_fill (by decide +kernel))
theorem dX0_fill_31 : decode cX0_fill 31 = .ok (.aload_n 0, 1) := dk_42 (dkn dmcX0_fill (by decide +kernel))
theorem dX0_fill_32 : decode cX0_fill 32 = .ok (.getfield 7, 3) := dk_180 (a := 0) (b := 7) (dkn dmcX0_fill (by decide +kernel)) rfl
theorem dX0_fill_35 : decode cX0_fill 35 = .ok (.arraylength, 1) := dk_190 (dkn dmcX0_fill (by decide +kernel))
theorem dX0_fill_36 : decode cX0_fill 36 = .ok (.invokestatic 13, 3) := dk_184 (a := 0) (b := 13) (dkn dmcX0_fill (by decide +kernel)) rfl
theorem dX0_fill_39 : decode cX0_fill 39 = .ok (.ifCond .eq 19, 3) := dk_153 (a := 0) (b := 19) (dkn dmcX0_fill (by decide +kernel)) rfl
theorem dX0_fill_42 : decode cX0_fill 42 = .ok (.aload 5, 2) := dk_25 (dkn dmcX0_fill (by decide +kernel))
theorem dX0_fill_44 : decode cX0_fill 44 = .ok (.getfield 7, 3) := dk_180 (a := 0) (b := 7) (dkn dmcX0_fill (by decide +kernel)) rfl
theorem dX0_fill_47 : decode cX0_fill 47 = .ok (.iload_n 3, 1) := dk_29 (dkn dmcX0_fill (by decide +kernel))
theorem dX0_fill_48 : decode cX0_fill 48 = .ok (.aload_n 0, 1) := dk_42 (dkn dmcX0_fill (by decide +kernel))
theorem dX0_fill_49 : decode cX0_fill 49 = .ok (.getfield 7, 3) := dk_180 (a := 0) (b := 7) (dkn dmcX0_fill (by decide +kernel)) rfl
theorem dX0_fill_52 : decode cX0_fill 52 = .ok (.iload_n 1, 1) := dk_27 (dkn dmcX0_fill (by decide +kernel))
theorem dX0_fill_53 : decode cX0_fill 53 = .ok (.iload 4, 2) := dk_21 (dkn dmcX0_fill (by decide +kernel))
theorem dX0_fill_55 : decode cX0_fill 55 = .ok (.invokestatic 19, 3) := dk_184 (a := 0) (b := 19) (dkn dmcX0_fill (by decide +kernel)) rfl
theorem dX0_fill_58 : decode cX0_fill 58 = .ok (.return_, 1) := dk_177 (dkn dmcX0_fill (by decide +kernel))
theorem dX1_init_0 : decode cX1_init 0 = .ok (.aload_n 0, 1) := dk_42 (by decide +kernel)
theorem dX1_init_1 : decode cX1_init 1 = .ok (.invokespecial 1, 3) := dk_183 (a := 0) (b := 1) (by decide +kernel) rfl
theorem dX1_init_4 : decode cX1_init 4 = .ok (.aload_n 0, 1) := dk_42 (by decide +kernel)
theorem dX1_init_5 : decode cX1_init 5 = .ok (.iload_n 1, 1) := dk_27 (by decide +kernel)
theorem dX1_init_6 : decode cX1_init 6 = .ok (.putfield 7, 3) := dk_181 (a := 0) (b := 7) (by decide +kernel) rfl
theorem dX1_init_9 : decode cX1_init 9 = .ok (.return_, 1) := dk_177 (by decide +kernel)
theorem dX1_isThing_0 : decode cX1_isThing 0 = .ok (.iconst 0, 1) := dk_3 (by decide +kernel)
theorem dX1_isThing_1 : decode cX1_isThing 1 = .ok (.ireturn, 1) := dk_172 (by decide +kernel)
theorem dX1_length_0 : decode cX1_length 0 = .ok (.iconst 0, 1) := dk_3 (by decide +kernel)
theorem dX1_length_1 : decode cX1_length 1 = .ok (.ireturn, 1) := dk_172 (by decide +kernel)
theorem dX1_elementAt_0 : decode cX1_elementAt 0 = .ok (.iconst 0, 1) := dk_3 (by decide +kernel)
theorem dX1_elementAt_1 : decode cX1_elementAt 1 = .ok (.ireturn, 1) := dk_172 (by decide +kernel)
theorem dX1_takesFrom_0 : decode cX1_takesFrom 0 = .ok (.iconst 0, 1) := dk_3 (by decide +kernel)
theorem dX1_takesFrom_1 : decode cX1_takesFrom 1 = .ok (.ireturn, 1) := dk_172 (by decide +kernel)
theorem dX1_fill_0 : decode cX1_fill 0 = .ok (.return_, 1) := dk_177 (by decide +kernel)
theorem dX1_heft_0 : decode cX1_heft 0 = .ok (.aload_n 0, 1) := dk_42 (by decide +kernel)
theorem dX1_heft_1 : decode cX1_heft 1 = .ok (.getfield 7, 3) := dk_180 (a := 0) (b := 7) (by decide +kernel) rfl
theorem dX1_heft_4 : decode cX1_heft 4 = .ok (.iconst 1, 1) := dk_4 (by decide +kernel)
theorem dX1_heft_5 : decode cX1_heft 5 = .ok (.iadd, 1) := dk_96 (by decide +kernel)
theorem dX1_heft_6 : decode cX1_heft 6 = .ok (.ireturn, 1) := dk_172 (by decide +kernel)
theorem dX1_fling_0 : decode cX1_fling 0 = .ok (.new 13, 3) := dk_187 (a := 0) (b := 13) (by decide +kernel) rfl
theorem dX1_fling_3 : decode cX1_fling 3 = .ok (.dup, 1) := dk_89 (by decide +kernel)
theorem dX1_fling_4 : decode cX1_fling 4 = .ok (.ldc 15, 2) := dk_18 (by decide +kernel)
theorem dX1_fling_6 : decode cX1_fling 6 = .ok (.invokespecial 17, 3) := dk_183 (a := 0) (b := 17) (by decide +kernel) rfl
theorem dX1_fling_9 : decode cX1_fling 9 = .ok (.athrow, 1) := dk_191 (by decide +kernel)
theorem dX2_init_0 : decode cX2_init 0 = .ok (.aload_n 0, 1) := dk_42 (by decide +kernel)
theorem dX2_init_1 : decode cX2_init 1 = .ok (.iconst 0, 1) := dk_3 (by decide +kernel)
theorem dX2_init_2 : decode cX2_init 2 = .ok (.invokespecial 1, 3) := dk_183 (a := 0) (b := 1) (by decide +kernel) rfl
theorem dX2_init_5 : decode cX2_init 5 = .ok (.aload_n 0, 1) := dk_42 (by decide +kernel)
theorem dX2_init_6 : decode cX2_init 6 = .ok (.aload_n 1, 1) := dk_43 (by decide +kernel)
theorem dX2_init_7 : decode cX2_init 7 = .ok (.putfield 7, 3) := dk_181 (a := 0) (b := 7) (by decide +kernel) rfl
theorem dX2_init_10 : decode cX2_init 10 = .ok (.return_, 1) := dk_177 (by decide +kernel)
theorem dX2_length_0 : decode cX2_length 0 = .ok (.aload_n 0, 1) := dk_42 (by decide +kernel)
theorem dX2_length_1 : decode cX2_length 1 = .ok (.getfield 7, 3) := dk_180 (a := 0) (b := 7) (by decide +kernel) rfl
theorem dX2_length_4 : decode cX2_length 4 = .ok (.arraylength, 1) := dk_190 (by decide +kernel)
theorem dX2_length_5 : decode cX2_length 5 = .ok (.ireturn, 1) := dk_172 (by decide +kernel)
def dncX2_elementAt : Nat := 0xac030400a72e1b0700b42a0c00a2be0700b42a1b15009b1b
theorem dmcX2_elementAt : dkc dncX2_elementAt 24 cX2_elementAt.data.toList 0 = true := by decide +kernel
theorem dX2_elementAt_0 : decode cX2_elementAt 0 = .ok (.iload_n 1, 1) := dk_27 (dkn dmcX2_elementAt (by decide +kernel))
theorem dX2_elementAt_1 : decode cX2_elementAt 1 = .ok (.ifCond .lt 21, 3) := dk_155 (a := 0) (b := 21) (dkn dmcX2_elementAt (by decide +kernel)) rfl
theorem dX2_elementAt_4 : decode cX2_elementAt 4 = .ok (.iload_n 1, 1) := dk_27 (dkn dmcX2_elementAt (by decide +kernel))
theorem dX2_elementAt_5 : decode cX2_elementAt 5 = .ok (.aload_n 0, 1) := dk_42 (dkn dmcX2_elementAt (by decide +kernel))
theorem dX2_elementAt_6 : decode cX2_elementAt 6 = .ok (.getfield 7, 3) := dk_180 (a := 0) (b := 7) (dkn dmcX2_elementAt (by decide +kernel)) rfl
theorem dX2_elementAt_9 : decode cX2_elementAt 9 = .ok (.arraylength, 1) := dk_190 (dkn dmcX2_elementAt (by decide +kernel))
theorem dX2_elementAt_10 : decode cX2_elementAt 10 = .ok (.if_icmp .ge 12, 3) := dk_162 (a := 0) (b := 12) (dkn dmcX2_elementAt (by decide +kernel)) rfl
theorem dX2_elementAt_13 : decode cX2_elementAt 13 = .ok (.aload_n 0, 1) := dk_42 (dkn dmcX2_elementAt (by decide +kernel))
theorem dX2_elementAt_14 : decode cX2_elementAt 14 = .ok (.getfield 7, 3) := dk_180 (a := 0) (b := 7) (dkn dmcX2_elementAt (by decide +kernel)) rfl
theorem dX2_elementAt_17 : decode cX2_elementAt 17 = .ok (.iload_n 1, 1) := dk_27 (dkn dmcX2_elementAt (by decide +kernel))
theorem dX2_elementAt_18 : decode cX2_elementAt 18 = .ok (.iaload, 1) := dk_46 (dkn dmcX2_elementAt (by decide +kernel))
theorem dX2_elementAt_19 : decode cX2_elementAt 19 = .ok (.goto 4, 3) := dk_167 (a := 0) (b := 4) (dkn dmcX2_elementAt (by decide +kernel)) rfl
theorem dX2_elementAt_22 : decode cX2_elementAt 22 = .ok (.iconst 0, 1) := dk_3 (dkn dmcX2_elementAt (by decide +kernel))
theorem dX2_elementAt_23 : decode cX2_elementAt 23 = .ok (.ireturn, 1) := dk_172 (dkn dmcX2_elementAt (by decide +kernel))
theorem dX2_takesFrom_0 : decode cX2_takesFrom 0 = .ok (.aload_n 1, 1) := dk_43 (by decide +kernel)
theorem dX2_takesFrom_1 : decode cX2_takesFrom 1 = .ok (.instanceof 8, 3) := by decide +kernel
theorem dX2_takesFrom_4 : decode cX2_takesFrom 4 = .ok (.ireturn, 1) := dk_172 (by decide +kernel)
def dncX2_fill : Nat := 0xb11300b804151b0700b42a1d0700b405191300990d00b8be0700b42a04151b2100990d00b8be0700b4051904151d053a0800c02c3600990800c12c
theorem dmcX2_fill : dkc dncX2_fill 59 cX2_fill.data.toList 0 = true := by decide +kernel
theorem dX2_fill_0 : decode cX2_fill 0 = .ok (.aload_n 2, 1) := dk_44 (dkn dmcX2_fill (by decide +kernel))
theorem dX2_fill_1 : decode cX2_fill 1 = .ok (.instanceof 8, 3) := by decide +kernel
theorem dX2_fill_4 : decode cX2_fill 4 = .ok (.ifCond .eq 54, 3) := dk_153 (a := 0) (b := 54) (dkn dmcX2_fill (by decide +kernel)) rfl
theorem dX2_fill_7 : decode cX2_fill 7 = .ok (.aload_n 2, 1) := dk_44 (dkn dmcX2_fill (by decide +kernel))
theorem dX2_fill_8 : decode cX2_fill 8 = .ok (.checkcast 8, 3) := by decide +kernel
theorem dX2_fill_11 : decode cX2_fill 11 = .ok (.astore 5, 2) := dk_58 (dkn dmcX2_fill (by decide +kernel))
theorem dX2_fill_13 : decode cX2_fill 13 = .ok (.iload_n 3, 1) := dk_29 (dkn dmcX2_fill (by decide +kernel))
theorem dX2_fill_14 : decode cX2_fill 14 = .ok (.iload 4, 2) := dk_21 (dkn dmcX2_fill (by decide +kernel))
theorem dX2_fill_16 : decode cX2_fill 16 = .ok (.aload 5, 2) := dk_25 (dkn dmcX2_fill (by decide +kernel))
theorem dX2_fill_18 : decode cX2_fill 18 = .ok (.getfield 7, 3) := dk_180 (a := 0) (b := 7) (dkn dmcX2_fill (by decide +kernel)) rfl
theorem dX2_fill_21 : decode cX2_fill 21 = .ok (.arraylength, 1) := dk_190 (dkn dmcX2_fill (by decide +kernel))
theorem dX2_fill_22 : decode cX2_fill 22 = .ok (.invokestatic 13, 3) := dk_184 (a := 0) (b := 13) (dkn dmcX2_fill (by decide +kernel)) rfl
theorem dX2_fill_25 : decode cX2_fill 25 = .ok (.ifCond .eq 33, 3) := dk_153 (a := 0) (b := 33) (dkn dmcX2_fill (by decide +kernel)) rfl
theorem dX2_fill_28 : decode cX2_fill 28 = .ok (.iload_n 1, 1) := dk_27 (dkn dmcX2_fill (by decide +kernel))
theorem dX2_fill_29 : decode cX2_fill 29 = .ok (.iload 4, 2) := dk_21 (dkn dmcX2_fill (by decide +kernel))
theorem dX2_fill_31 : decode cX2_fill 31 = .ok (.aload_n 0, 1) := dk_42 (dkn dmcX2_fill (by decide +kernel))
theorem dX2_fill_32 : decode cX2_fill 32 = .ok (.getfield 7, 3) := dk_180 (a := 0) (b := 7) (dkn dmcX2_fill (by decide +kernel)) rfl
theorem dX2_fill_35 : decode cX2_fill 35 = .ok (.arraylength, 1) := dk_190 (dkn dmcX2_fill (by decide +kernel))
theorem dX2_fill_36 : decode cX2_fill 36 = .ok (.invokestatic 13, 3) := dk_184 (a := 0) (b := 13) (dkn dmcX2_fill (by decide +kernel)) rfl
theorem dX2_fill_39 : decode cX2_fill 39 = .ok (.ifCond .eq 19, 3) := dk_153 (a := 0) (b := 19) (dkn dmcX2_fill (by decide +kernel)) rfl
theorem dX2_fill_42 : decode cX2_fill 42 = .ok (.aload 5, 2) := dk_25 (dkn dmcX2_fill (by decide +kernel))
theorem dX2_fill_44 : decode cX2_fill 44 = .ok (.getfield 7, 3) := dk_180 (a := 0) (b := 7) (dkn dmcX2_fill (by decide +kernel)) rfl
theorem dX2_fill_47 : decode cX2_fill 47 = .ok (.iload_n 3, 1) := dk_29 (dkn dmcX2_fill (by decide +kernel))
theorem dX2_fill_48 : decode cX2_fill 48 = .ok (.aload_n 0, 1) := dk_42 (dkn dmcX2_fill (by decide +kernel))
theorem dX2_fill_49 : decode cX2_fill 49 = .ok (.getfield 7, 3) := dk_180 (a := 0) (b := 7) (dkn dmcX2_fill (by decide +kernel)) rfl
theorem dX2_fill_52 : decode cX2_fill 52 = .ok (.iload_n 1, 1) := dk_27 (dkn dmcX2_fill (by decide +kernel))
theorem dX2_fill_53 : decode cX2_fill 53 = .ok (.iload 4, 2) := dk_21 (dkn dmcX2_fill (by decide +kernel))
theorem dX2_fill_55 : decode cX2_fill 55 = .ok (.invokestatic 19, 3) := dk_184 (a := 0) (b := 19) (dkn dmcX2_fill (by decide +kernel)) rfl
theorem dX2_fill_58 : decode cX2_fill 58 = .ok (.return_, 1) := dk_177 (dkn dmcX2_fill (by decide +kernel))
def dncX3_init : Nat := 0xb12700b52b2a2400b50abcc000112a2100b50abc0c102a1e00b50abc0c102a1b00b50abc0c102a1800b50abc072a1500b50abc072a1200b50abc072a0f00b50abc1c102a0900b50abc1c102a0300b72a
theorem dmcX3_init : dkc dncX3_init 80 cX3_init.data.toList 0 = true := by decide +kernel
theorem dX3_init_0 : decode cX3_init 0 = .ok (.aload_n 0, 1) := dk_42 (dkn dmcX3_init (by decide +kernel))
theorem dX3_init_1 : decode cX3_init 1 = .ok (.invokespecial 3, 3) := dk_183 (a := 0) (b := 3) (dkn dmcX3_init (by decide +kernel)) rfl
theorem dX3_init_4 : decode cX3_init 4 = .ok (.aload_n 0, 1) := dk_42 (dkn dmcX3_init (by decide +kernel))
theorem dX3_init_5 : decode cX3_init 5 = .ok (.bipush 28, 2) := dk_16 (a := 28) (dkn dmcX3_init (by decide +kernel)) rfl
theorem dX3_init_7 : decode cX3_init 7 = .ok (.newarray .int, 2) := by decide +kernel
theorem dX3_init_9 : decode cX3_init 9 = .ok (.putfield 9, 3) := dk_181 (a := 0) (b := 9) (dkn dmcX3_init (by decide +kernel)) rfl
theorem dX3_init_12 : decode cX3_init 12 = .ok (.aload_n 0, 1) := dk_42 (dkn dmcX3_init (by decide +kernel))
theorem dX3_init_13 : decode cX3_init 13 = .ok (.bipush 28, 2) := dk_16 (a := 28) (dkn dmcX3_init (by decide +kernel)) rfl
theorem dX3_init_15 : decode cX3_init 15 = .ok (.newarray .int, 2) := by decide +kernel
theorem dX3_init_17 : decode cX3_init 17 = .ok (.putfield 15, 3) := dk_181 (a := 0) (b := 15) (dkn dmcX3_init (by decide +kernel)) rfl
theorem dX3_init_20 : decode cX3_init 20 = .ok (.aload_n 0, 1) := dk_42 (dkn dmcX3_init (by decide +kernel))
theorem dX3_init_21 : decode cX3_init 21 = .ok (.iconst 4, 1) := dk_7 (dkn dmcX3_init (by decide +kernel))
theorem dX3_init_22 : decode cX3_init 22 = .ok (.newarray .int, 2) := by decide +kernel
theorem dX3_init_24 : decode cX3_init 24 = .ok (.putfield 18, 3) := dk_181 (a := 0) (b := 18) (dkn dmcX3_init (by decide +kernel)) rfl
theorem dX3_init_27 : decode cX3_init 27 = .ok (.aload_n 0, 1) := dk_42 (dkn dmcX3_init (by decide +kernel))
theorem dX3_init_28 : decode cX3_init 28 = .ok (.iconst 4, 1) := dk_7 (dkn dmcX3_init (by decide +kernel))
theorem dX3_init_29 : decode cX3_init 29 = .ok (.newarray .int, 2) := by decide +kernel
theorem dX3_init_31 : decode cX3_init 31 = .ok (.putfield 21, 3) := dk_181 (a := 0) (b := 21) (dkn dmcX3_init (by decide +kernel)) rfl
theorem dX3_init_34 : decode cX3_init 34 = .ok (.aload_n 0, 1) := dk_42 (dkn dmcX3_init (by decide +kernel))
theorem dX3_init_35 : decode cX3_init 35 = .ok (.iconst 4, 1) := dk_7 (dkn dmcX3_init (by decide +kernel))
theorem dX3_init_36 : decode cX3_init 36 = .ok (.newarray .int, 2) := by decide +kernel
theorem dX3_init_38 : decode cX3_init 38 = .ok (.putfield 24, 3) := dk_181 (a := 0) (b := 24) (dkn dmcX3_init (by decide +kernel)) rfl
theorem dX3_init_41 : decode cX3_init 41 = .ok (.aload_n 0, 1) := dk_42 (dkn dmcX3_init (by decide +kernel))
theorem dX3_init_42 : decode cX3_init 42 = .ok (.bipush 12, 2) := dk_16 (a := 12) (dkn dmcX3_init (by decide +kernel)) rfl
theorem dX3_init_44 : decode cX3_init 44 = .ok (.newarray .int, 2) := by decide +kernel
theorem dX3_init_46 : decode cX3_init 46 = .ok (.putfield 27, 3) := dk_181 (a := 0) (b := 27) (dkn dmcX3_init (by decide +kernel)) rfl
theorem dX3_init_49 : decode cX3_init 49 = .ok (.aload_n 0, 1) := dk_42 (dkn dmcX3_init (by decide +kernel))
theorem dX3_init_50 : decode cX3_init 50 = .ok (.bipush 12, 2) := dk_16 (a := 12) (dkn dmcX3_init (by decide +kernel)) rfl
theorem dX3_init_52 : decode cX3_init 52 = .ok (.newarray .int, 2) := by decide +kernel
theorem dX3_init_54 : decode cX3_init 54 = .ok (.putfield 30, 3) := dk_181 (a := 0) (b := 30) (dkn dmcX3_init (by decide +kernel)) rfl
theorem dX3_init_57 : decode cX3_init 57 = .ok (.aload_n 0, 1) := dk_42 (dkn dmcX3_init (by decide +kernel))
theorem dX3_init_58 : decode cX3_init 58 = .ok (.bipush 12, 2) := dk_16 (a := 12) (dkn dmcX3_init (by decide +kernel)) rfl
theorem dX3_init_60 : decode cX3_init 60 = .ok (.newarray .int, 2) := by decide +kernel
theorem dX3_init_62 : decode cX3_init 62 = .ok (.putfield 33, 3) := dk_181 (a := 0) (b := 33) (dkn dmcX3_init (by decide +kernel)) rfl
theorem dX3_init_65 : decode cX3_init 65 = .ok (.aload_n 0, 1) := dk_42 (dkn dmcX3_init (by decide +kernel))
theorem dX3_init_66 : decode cX3_init 66 = .ok (.sipush 192, 3) := dk_17 (a := 0) (b := 192) (dkn dmcX3_init (by decide +kernel)) rfl
theorem dX3_init_69 : decode cX3_init 69 = .ok (.newarray .int, 2) := by decide +kernel
theorem dX3_init_71 : decode cX3_init 71 = .ok (.putfield 36, 3) := dk_181 (a := 0) (b := 36) (dkn dmcX3_init (by decide +kernel)) rfl
theorem dX3_init_74 : decode cX3_init 74 = .ok (.aload_n 0, 1) := dk_42 (dkn dmcX3_init (by decide +kernel))
theorem dX3_init_75 : decode cX3_init 75 = .ok (.aload_n 1, 1) := dk_43 (dkn dmcX3_init (by decide +kernel))
theorem dX3_init_76 : decode cX3_init 76 = .ok (.putfield 39, 3) := dk_181 (a := 0) (b := 39) (dkn dmcX3_init (by decide +kernel)) rfl
theorem dX3_init_79 : decode cX3_init 79 = .ok (.return_, 1) := dk_177 (dkn dmcX3_init (by decide +kernel))
def dncX3_shelved : Nat := 0xb06e00b71b596c00bbb06900b71b596700bbb06400b72e1b1e00b42a1b596200bb2b000000020000001c000000010000000200000034000000000000ab2e1b1b00b42ab00105009a5f00b61b2a
theorem dmcX3_shelved : dkc dncX3_shelved 77 cX3_shelved.data.toList 0 = true := by decide +kernel
theorem dX3_shelved_0 : decode cX3_shelved 0 = .ok (.aload_n 0, 1) := dk_42 (dkn dmcX3_shelved (by decide +kernel))
theorem dX3_shelved_1 : decode cX3_shelved 1 = .ok (.iload_n 1, 1) := dk_27 (dkn dmcX3_shelved (by decide +kernel))
theorem dX3_shelved_2 : decode cX3_shelved 2 = .ok (.invokevirtual 95, 3) := dk_182 (a := 0) (b := 95) (dkn dmcX3_shelved (by decide +kernel)) rfl
theorem dX3_shelved_5 : decode cX3_shelved 5 = .ok (.ifCond .ne 5, 3) := dk_154 (a := 0) (b := 5) (dkn dmcX3_shelved (by decide +kernel)) rfl
theorem dX3_shelved_8 : decode cX3_shelved 8 = .ok (.aconst_null, 1) := dk_1 (dkn dmcX3_shelved (by decide +kernel))
theorem dX3_shelved_9 : decode cX3_shelved 9 = .ok (.areturn, 1) := dk_176 (dkn dmcX3_shelved (by decide +kernel))
theorem dX3_shelved_10 : decode cX3_shelved 10 = .ok (.aload_n 0, 1) := dk_42 (dkn dmcX3_shelved (by decide +kernel))
theorem dX3_shelved_11 : decode cX3_shelved 11 = .ok (.getfield 27, 3) := dk_180 (a := 0) (b := 27) (dkn dmcX3_shelved (by decide +kernel)) rfl
theorem dX3_shelved_14 : decode cX3_shelved 14 = .ok (.iload_n 1, 1) := dk_27 (dkn dmcX3_shelved (by decide +kernel))
theorem dX3_shelved_15 : decode cX3_shelved 15 = .ok (.iaload, 1) := dk_46 (dkn dmcX3_shelved (by decide +kernel))
theorem dX3_shelved_16 : decode cX3_shelved 16 = .ok (.lookupswitch 52 #[(1, 28), (2, 43)], 28) := by decide +kernel
theorem dX3_shelved_44 : decode cX3_shelved 44 = .ok (.new 98, 3) := dk_187 (a := 0) (b := 98) (dkn dmcX3_shelved (by decide +kernel)) rfl
theorem dX3_shelved_47 : decode cX3_shelved 47 = .ok (.dup, 1) := dk_89 (dkn dmcX3_shelved (by decide +kernel))
theorem dX3_shelved_48 : decode cX3_shelved 48 = .ok (.iload_n 1, 1) := dk_27 (dkn dmcX3_shelved (by decide +kernel))
theorem dX3_shelved_49 : decode cX3_shelved 49 = .ok (.aload_n 0, 1) := dk_42 (dkn dmcX3_shelved (by decide +kernel))
theorem dX3_shelved_50 : decode cX3_shelved 50 = .ok (.getfield 30, 3) := dk_180 (a := 0) (b := 30) (dkn dmcX3_shelved (by decide +kernel)) rfl
theorem dX3_shelved_53 : decode cX3_shelved 53 = .ok (.iload_n 1, 1) := dk_27 (dkn dmcX3_shelved (by decide +kernel))
theorem dX3_shelved_54 : decode cX3_shelved 54 = .ok (.iaload, 1) := dk_46 (dkn dmcX3_shelved (by decide +kernel))
theorem dX3_shelved_55 : decode cX3_shelved 55 = .ok (.invokespecial 100, 3) := dk_183 (a := 0) (b := 100) (dkn dmcX3_shelved (by decide +kernel)) rfl
theorem dX3_shelved_58 : decode cX3_shelved 58 = .ok (.areturn, 1) := dk_176 (dkn dmcX3_shelved (by decide +kernel))
theorem dX3_shelved_59 : decode cX3_shelved 59 = .ok (.new 103, 3) := dk_187 (a := 0) (b := 103) (dkn dmcX3_shelved (by decide +kernel)) rfl
theorem dX3_shelved_62 : decode cX3_shelved 62 = .ok (.dup, 1) := dk_89 (dkn dmcX3_shelved (by decide +kernel))
theorem dX3_shelved_63 : decode cX3_shelved 63 = .ok (.iload_n 1, 1) := dk_27 (dkn dmcX3_shelved (by decide +kernel))
theorem dX3_shelved_64 : decode cX3_shelved 64 = .ok (.invokespecial 105, 3) := dk_183 (a := 0) (b := 105) (dkn dmcX3_shelved (by decide +kernel)) rfl
theorem dX3_shelved_67 : decode cX3_shelved 67 = .ok (.areturn, 1) := dk_176 (dkn dmcX3_shelved (by decide +kernel))
theorem dX3_shelved_68 : decode cX3_shelved 68 = .ok (.new 108, 3) := dk_187 (a := 0) (b := 108) (dkn dmcX3_shelved (by decide +kernel)) rfl
theorem dX3_shelved_71 : decode cX3_shelved 71 = .ok (.dup, 1) := dk_89 (dkn dmcX3_shelved (by decide +kernel))
theorem dX3_shelved_72 : decode cX3_shelved 72 = .ok (.iload_n 1, 1) := dk_27 (dkn dmcX3_shelved (by decide +kernel))
theorem dX3_shelved_73 : decode cX3_shelved 73 = .ok (.invokespecial 110, 3) := dk_183 (a := 0) (b := 110) (dkn dmcX3_shelved (by decide +kernel)) rfl
theorem dX3_shelved_76 : decode cX3_shelved 76 = .ok (.areturn, 1) := dk_176 (dkn dmcX3_shelved (by decide +kernel))
def dncX4_init : Nat := 0xb11800b52b2a1500b50abc2d01112a1200b50abc30102a0f00b50abc10102a0900b50abcb404112a0300b72a
theorem dmcX4_init : dkc dncX4_init 44 cX4_init.data.toList 0 = true := by decide +kernel
theorem dX4_init_0 : decode cX4_init 0 = .ok (.aload_n 0, 1) := dk_42 (dkn dmcX4_init (by decide +kernel))
theorem dX4_init_1 : decode cX4_init 1 = .ok (.invokespecial 3, 3) := dk_183 (a := 0) (b := 3) (dkn dmcX4_init (by decide +kernel)) rfl
theorem dX4_init_4 : decode cX4_init 4 = .ok (.aload_n 0, 1) := dk_42 (dkn dmcX4_init (by decide +kernel))
theorem dX4_init_5 : decode cX4_init 5 = .ok (.sipush 1204, 3) := dk_17 (a := 4) (b := 180) (dkn dmcX4_init (by decide +kernel)) rfl
theorem dX4_init_8 : decode cX4_init 8 = .ok (.newarray .int, 2) := by decide +kernel
theorem dX4_init_10 : decode cX4_init 10 = .ok (.putfield 9, 3) := dk_181 (a := 0) (b := 9) (dkn dmcX4_init (by decide +kernel)) rfl
theorem dX4_init_13 : decode cX4_init 13 = .ok (.aload_n 0, 1) := dk_42 (dkn dmcX4_init (by decide +kernel))
theorem dX4_init_14 : decode cX4_init 14 = .ok (.bipush 16, 2) := dk_16 (a := 16) (dkn dmcX4_init (by decide +kernel)) rfl
theorem dX4_init_16 : decode cX4_init 16 = .ok (.newarray .int, 2) := by decide +kernel
theorem dX4_init_18 : decode cX4_init 18 = .ok (.putfield 15, 3) := dk_181 (a := 0) (b := 15) (dkn dmcX4_init (by decide +kernel)) rfl
theorem dX4_init_21 : decode cX4_init 21 = .ok (.aload_n 0, 1) := dk_42 (dkn dmcX4_init (by decide +kernel))
theorem dX4_init_22 : decode cX4_init 22 = .ok (.bipush 48, 2) := dk_16 (a := 48) (dkn dmcX4_init (by decide +kernel)) rfl
theorem dX4_init_24 : decode cX4_init 24 = .ok (.newarray .int, 2) := by decide +kernel
theorem dX4_init_26 : decode cX4_init 26 = .ok (.putfield 18, 3) := dk_181 (a := 0) (b := 18) (dkn dmcX4_init (by decide +kernel)) rfl
theorem dX4_init_29 : decode cX4_init 29 = .ok (.aload_n 0, 1) := dk_42 (dkn dmcX4_init (by decide +kernel))
theorem dX4_init_30 : decode cX4_init 30 = .ok (.sipush 301, 3) := dk_17 (a := 1) (b := 45) (dkn dmcX4_init (by decide +kernel)) rfl
theorem dX4_init_33 : decode cX4_init 33 = .ok (.newarray .int, 2) := by decide +kernel
theorem dX4_init_35 : decode cX4_init 35 = .ok (.putfield 21, 3) := dk_181 (a := 0) (b := 21) (dkn dmcX4_init (by decide +kernel)) rfl
theorem dX4_init_38 : decode cX4_init 38 = .ok (.aload_n 0, 1) := dk_42 (dkn dmcX4_init (by decide +kernel))
theorem dX4_init_39 : decode cX4_init 39 = .ok (.aload_n 1, 1) := dk_43 (dkn dmcX4_init (by decide +kernel))
theorem dX4_init_40 : decode cX4_init 40 = .ok (.putfield 24, 3) := dk_181 (a := 0) (b := 24) (dkn dmcX4_init (by decide +kernel)) rfl
theorem dX4_init_43 : decode cX4_init 43 = .ok (.return_, 1) := dk_177 (dkn dmcX4_init (by decide +kernel))
def dncX5_init : Nat := 0xb11b00b50abc28102a1800b50abc28102a1500b50abc1e102a1200b50abc0c102a0f00b50abc8001112a0900b50abc072a0300b72a
theorem dmcX5_init : dkc dncX5_init 53 cX5_init.data.toList 0 = true := by decide +kernel
theorem dX5_init_0 : decode cX5_init 0 = .ok (.aload_n 0, 1) := dk_42 (dkn dmcX5_init (by decide +kernel))
theorem dX5_init_1 : decode cX5_init 1 = .ok (.invokespecial 3, 3) := dk_183 (a := 0) (b := 3) (dkn dmcX5_init (by decide +kernel)) rfl
theorem dX5_init_4 : decode cX5_init 4 = .ok (.aload_n 0, 1) := dk_42 (dkn dmcX5_init (by decide +kernel))
theorem dX5_init_5 : decode cX5_init 5 = .ok (.iconst 4, 1) := dk_7 (dkn dmcX5_init (by decide +kernel))
theorem dX5_init_6 : decode cX5_init 6 = .ok (.newarray .int, 2) := by decide +kernel
theorem dX5_init_8 : decode cX5_init 8 = .ok (.putfield 9, 3) := dk_181 (a := 0) (b := 9) (dkn dmcX5_init (by decide +kernel)) rfl
theorem dX5_init_11 : decode cX5_init 11 = .ok (.aload_n 0, 1) := dk_42 (dkn dmcX5_init (by decide +kernel))
theorem dX5_init_12 : decode cX5_init 12 = .ok (.sipush 384, 3) := dk_17 (a := 1) (b := 128) (dkn dmcX5_init (by decide +kernel)) rfl
theorem dX5_init_15 : decode cX5_init 15 = .ok (.newarray .int, 2) := by decide +kernel
theorem dX5_init_17 : decode cX5_init 17 = .ok (.putfield 15, 3) := dk_181 (a := 0) (b := 15) (dkn dmcX5_init (by decide +kernel)) rfl
theorem dX5_init_20 : decode cX5_init 20 = .ok (.aload_n 0, 1) := dk_42 (dkn dmcX5_init (by decide +kernel))
theorem dX5_init_21 : decode cX5_init 21 = .ok (.bipush 12, 2) := dk_16 (a := 12) (dkn dmcX5_init (by decide +kernel)) rfl
theorem dX5_init_23 : decode cX5_init 23 = .ok (.newarray .int, 2) := by decide +kernel
theorem dX5_init_25 : decode cX5_init 25 = .ok (.putfield 18, 3) := dk_181 (a := 0) (b := 18) (dkn dmcX5_init (by decide +kernel)) rfl
theorem dX5_init_28 : decode cX5_init 28 = .ok (.aload_n 0, 1) := dk_42 (dkn dmcX5_init (by decide +kernel))
theorem dX5_init_29 : decode cX5_init 29 = .ok (.bipush 30, 2) := dk_16 (a := 30) (dkn dmcX5_init (by decide +kernel)) rfl
theorem dX5_init_31 : decode cX5_init 31 = .ok (.newarray .int, 2) := by decide +kernel
theorem dX5_init_33 : decode cX5_init 33 = .ok (.putfield 21, 3) := dk_181 (a := 0) (b := 21) (dkn dmcX5_init (by decide +kernel)) rfl
theorem dX5_init_36 : decode cX5_init 36 = .ok (.aload_n 0, 1) := dk_42 (dkn dmcX5_init (by decide +kernel))
theorem dX5_init_37 : decode cX5_init 37 = .ok (.bipush 40, 2) := dk_16 (a := 40) (dkn dmcX5_init (by decide +kernel)) rfl
theorem dX5_init_39 : decode cX5_init 39 = .ok (.newarray .int, 2) := by decide +kernel
theorem dX5_init_41 : decode cX5_init 41 = .ok (.putfield 24, 3) := dk_181 (a := 0) (b := 24) (dkn dmcX5_init (by decide +kernel)) rfl
theorem dX5_init_44 : decode cX5_init 44 = .ok (.aload_n 0, 1) := dk_42 (dkn dmcX5_init (by decide +kernel))
theorem dX5_init_45 : decode cX5_init 45 = .ok (.bipush 40, 2) := dk_16 (a := 40) (dkn dmcX5_init (by decide +kernel)) rfl
theorem dX5_init_47 : decode cX5_init 47 = .ok (.newarray .int, 2) := by decide +kernel
theorem dX5_init_49 : decode cX5_init 49 = .ok (.putfield 27, 3) := dk_181 (a := 0) (b := 27) (dkn dmcX5_init (by decide +kernel)) rfl
theorem dX5_init_52 : decode cX5_init 52 = .ok (.return_, 1) := dk_177 (dkn dmcX5_init (by decide +kernel))
def dncX6_init : Nat := 0xb11e00b52c2a1a00b52b2a1700b50abc052a1400b50abc052a1000b50abc052a0b00b5020900c52c0111052a0300b72a
theorem dmcX6_init : dkc dncX6_init 48 cX6_init.data.toList 0 = true := by decide +kernel
theorem dX6_init_0 : decode cX6_init 0 = .ok (.aload_n 0, 1) := dk_42 (dkn dmcX6_init (by decide +kernel))
theorem dX6_init_1 : decode cX6_init 1 = .ok (.invokespecial 3, 3) := dk_183 (a := 0) (b := 3) (dkn dmcX6_init (by decide +kernel)) rfl
theorem dX6_init_4 : decode cX6_init 4 = .ok (.aload_n 0, 1) := dk_42 (dkn dmcX6_init (by decide +kernel))
theorem dX6_init_5 : decode cX6_init 5 = .ok (.iconst 2, 1) := dk_5 (dkn dmcX6_init (by decide +kernel))
theorem dX6_init_6 : decode cX6_init 6 = .ok (.sipush 300, 3) := dk_17 (a := 1) (b := 44) (dkn dmcX6_init (by decide +kernel)) rfl
theorem dX6_init_9 : decode cX6_init 9 = .ok (.multianewarray 9 2, 4) := by decide +kernel
theorem dX6_init_13 : decode cX6_init 13 = .ok (.putfield 11, 3) := dk_181 (a := 0) (b := 11) (dkn dmcX6_init (by decide +kernel)) rfl
theorem dX6_init_16 : decode cX6_init 16 = .ok (.aload_n 0, 1) := dk_42 (dkn dmcX6_init (by decide +kernel))
theorem dX6_init_17 : decode cX6_init 17 = .ok (.iconst 2, 1) := dk_5 (dkn dmcX6_init (by decide +kernel))
theorem dX6_init_18 : decode cX6_init 18 = .ok (.newarray .int, 2) := by decide +kernel
theorem dX6_init_20 : decode cX6_init 20 = .ok (.putfield 16, 3) := dk_181 (a := 0) (b := 16) (dkn dmcX6_init (by decide +kernel)) rfl
theorem dX6_init_23 : decode cX6_init 23 = .ok (.aload_n 0, 1) := dk_42 (dkn dmcX6_init (by decide +kernel))
theorem dX6_init_24 : decode cX6_init 24 = .ok (.iconst 2, 1) := dk_5 (dkn dmcX6_init (by decide +kernel))
theorem dX6_init_25 : decode cX6_init 25 = .ok (.newarray .int, 2) := by decide +kernel
theorem dX6_init_27 : decode cX6_init 27 = .ok (.putfield 20, 3) := dk_181 (a := 0) (b := 20) (dkn dmcX6_init (by decide +kernel)) rfl
theorem dX6_init_30 : decode cX6_init 30 = .ok (.aload_n 0, 1) := dk_42 (dkn dmcX6_init (by decide +kernel))
theorem dX6_init_31 : decode cX6_init 31 = .ok (.iconst 2, 1) := dk_5 (dkn dmcX6_init (by decide +kernel))
theorem dX6_init_32 : decode cX6_init 32 = .ok (.newarray .int, 2) := by decide +kernel
theorem dX6_init_34 : decode cX6_init 34 = .ok (.putfield 23, 3) := dk_181 (a := 0) (b := 23) (dkn dmcX6_init (by decide +kernel)) rfl
theorem dX6_init_37 : decode cX6_init 37 = .ok (.aload_n 0, 1) := dk_42 (dkn dmcX6_init (by decide +kernel))
theorem dX6_init_38 : decode cX6_init 38 = .ok (.aload_n 1, 1) := dk_43 (dkn dmcX6_init (by decide +kernel))
theorem dX6_init_39 : decode cX6_init 39 = .ok (.putfield 26, 3) := dk_181 (a := 0) (b := 26) (dkn dmcX6_init (by decide +kernel)) rfl
theorem dX6_init_42 : decode cX6_init 42 = .ok (.aload_n 0, 1) := dk_42 (dkn dmcX6_init (by decide +kernel))
theorem dX6_init_43 : decode cX6_init 43 = .ok (.aload_n 2, 1) := dk_44 (dkn dmcX6_init (by decide +kernel))
theorem dX6_init_44 : decode cX6_init 44 = .ok (.putfield 30, 3) := dk_181 (a := 0) (b := 30) (dkn dmcX6_init (by decide +kernel)) rfl
theorem dX6_init_47 : decode cX6_init 47 = .ok (.return_, 1) := dk_177 (dkn dmcX6_init (by decide +kernel))
theorem dX7_init_0 : decode cX7_init 0 = .ok (.aload_n 0, 1) := dk_42 (by decide +kernel)
theorem dX7_init_1 : decode cX7_init 1 = .ok (.iload_n 1, 1) := dk_27 (by decide +kernel)
theorem dX7_init_2 : decode cX7_init 2 = .ok (.invokespecial 1, 3) := dk_183 (a := 0) (b := 1) (by decide +kernel) rfl
theorem dX7_init_5 : decode cX7_init 5 = .ok (.return_, 1) := dk_177 (by decide +kernel)
theorem dX7_heft_0 : decode cX7_heft 0 = .ok (.iconst 2, 1) := dk_5 (by decide +kernel)
theorem dX7_heft_1 : decode cX7_heft 1 = .ok (.aload_n 0, 1) := dk_42 (by decide +kernel)
theorem dX7_heft_2 : decode cX7_heft 2 = .ok (.invokespecial 7, 3) := dk_183 (a := 0) (b := 7) (by decide +kernel) rfl
theorem dX7_heft_5 : decode cX7_heft 5 = .ok (.imul, 1) := dk_104 (by decide +kernel)
theorem dX7_heft_6 : decode cX7_heft 6 = .ok (.ireturn, 1) := dk_172 (by decide +kernel)
theorem dX8_init_0 : decode cX8_init 0 = .ok (.aload_n 0, 1) := dk_42 (by decide +kernel)
theorem dX8_init_1 : decode cX8_init 1 = .ok (.iload_n 1, 1) := dk_27 (by decide +kernel)
theorem dX8_init_2 : decode cX8_init 2 = .ok (.invokespecial 1, 3) := dk_183 (a := 0) (b := 1) (by decide +kernel) rfl
theorem dX8_init_5 : decode cX8_init 5 = .ok (.return_, 1) := dk_177 (by decide +kernel)
theorem dX8_isThing_0 : decode cX8_isThing 0 = .ok (.iconst 1, 1) := dk_4 (by decide +kernel)
theorem dX8_isThing_1 : decode cX8_isThing 1 = .ok (.ireturn, 1) := dk_172 (by decide +kernel)
theorem dX8_heft_0 : decode cX8_heft 0 = .ok (.aload_n 0, 1) := dk_42 (by decide +kernel)
theorem dX8_heft_1 : decode cX8_heft 1 = .ok (.invokespecial 7, 3) := dk_183 (a := 0) (b := 7) (by decide +kernel) rfl
theorem dX8_heft_4 : decode cX8_heft 4 = .ok (.bipush 100, 2) := dk_16 (a := 100) (by decide +kernel) rfl
theorem dX8_heft_6 : decode cX8_heft 6 = .ok (.iadd, 1) := dk_96 (by decide +kernel)
theorem dX8_heft_7 : decode cX8_heft 7 = .ok (.ireturn, 1) := dk_172 (by decide +kernel)
theorem dX8_fling_0 : decode cX8_fling 0 = .ok (.new 11, 3) := dk_187 (a := 0) (b := 11) (by decide +kernel) rfl
theorem dX8_fling_3 : decode cX8_fling 3 = .ok (.dup, 1) := dk_89 (by decide +kernel)
theorem dX8_fling_4 : decode cX8_fling 4 = .ok (.ldc 13, 2) := dk_18 (by decide +kernel)
theorem dX8_fling_6 : decode cX8_fling 6 = .ok (.invokespecial 15, 3) := dk_183 (a := 0) (b := 15) (by decide +kernel) rfl
theorem dX8_fling_9 : decode cX8_fling 9 = .ok (.athrow, 1) := dk_191 (by decide +kernel)
theorem dX9_init_0 : decode cX9_init 0 = .ok (.aload_n 0, 1) := dk_42 (by decide +kernel)
theorem dX9_init_1 : decode cX9_init 1 = .ok (.iload_n 1, 1) := dk_27 (by decide +kernel)
theorem dX9_init_2 : decode cX9_init 2 = .ok (.invokespecial 1, 3) := dk_183 (a := 0) (b := 1) (by decide +kernel) rfl
theorem dX9_init_5 : decode cX9_init 5 = .ok (.aload_n 0, 1) := dk_42 (by decide +kernel)
theorem dX9_init_6 : decode cX9_init 6 = .ok (.iload_n 2, 1) := dk_28 (by decide +kernel)
theorem dX9_init_7 : decode cX9_init 7 = .ok (.putfield 7, 3) := dk_181 (a := 0) (b := 7) (by decide +kernel) rfl
theorem dX9_init_10 : decode cX9_init 10 = .ok (.return_, 1) := dk_177 (by decide +kernel)
theorem dX9_isThing_0 : decode cX9_isThing 0 = .ok (.iconst 1, 1) := dk_4 (by decide +kernel)
theorem dX9_isThing_1 : decode cX9_isThing 1 = .ok (.ireturn, 1) := dk_172 (by decide +kernel)
theorem dX9_heft_0 : decode cX9_heft 0 = .ok (.aload_n 0, 1) := dk_42 (by decide +kernel)
theorem dX9_heft_1 : decode cX9_heft 1 = .ok (.invokespecial 13, 3) := dk_183 (a := 0) (b := 13) (by decide +kernel) rfl
theorem dX9_heft_4 : decode cX9_heft 4 = .ok (.bipush 10, 2) := dk_16 (a := 10) (by decide +kernel) rfl
theorem dX9_heft_6 : decode cX9_heft 6 = .ok (.aload_n 0, 1) := dk_42 (by decide +kernel)
theorem dX9_heft_7 : decode cX9_heft 7 = .ok (.getfield 7, 3) := dk_180 (a := 0) (b := 7) (by decide +kernel) rfl
theorem dX9_heft_10 : decode cX9_heft 10 = .ok (.imul, 1) := dk_104 (by decide +kernel)
theorem dX9_heft_11 : decode cX9_heft 11 = .ok (.iadd, 1) := dk_96 (by decide +kernel)
theorem dX9_heft_12 : decode cX9_heft 12 = .ok (.ireturn, 1) := dk_172 (by decide +kernel)
def dncX10_init : Nat := 0xb12a00b50abc2c01112a2700b50abc2c01112a2400b50abc2d01112a2100b50abc2d01112a1e00b50abc2d01112a1b00b50abc2d01112a1800b50abc2d01112a1500b50abc2d01112a1200b50abc2d01112a0f00b50abc2d01112a0900b50abc2d01112a0300b72a
theorem dmcX10_init : dkc dncX10_init 104 cX10_init.data.toList 0 = true := by decide +kernel
theorem dX10_init_0 : decode cX10_init 0 = .ok (.aload_n 0, 1) := dk_42 (dkn dmcX10_init (by decide +kernel))
theorem dX10_init_1 : decode cX10_init 1 = .ok (.invokespecial 3, 3) := dk_183 (a := 0) (b := 3) (dkn dmcX10_init (by decide +kernel)) rfl
theorem dX10_init_4 : decode cX10_init 4 = .ok (.aload_n 0, 1) := dk_42 (dkn dmcX10_init (by decide +kernel))
theorem dX10_init_5 : decode cX10_init 5 = .ok (.sipush 301, 3) := dk_17 (a := 1) (b := 45) (dkn dmcX10_init (by decide +kernel)) rfl
theorem dX10_init_8 : decode cX10_init 8 = .ok (.newarray .int, 2) := by decide +kernel
theorem dX10_init_10 : decode cX10_init 10 = .ok (.putfield 9, 3) := dk_181 (a := 0) (b := 9) (dkn dmcX10_init (by decide +kernel)) rfl
theorem dX10_init_13 : decode cX10_init 13 = .ok (.aload_n 0, 1) := dk_42 (dkn dmcX10_init (by decide +kernel))
theorem dX10_init_14 : decode cX10_init 14 = .ok (.sipush 301, 3) := dk_17 (a := 1) (b := 45) (dkn dmcX10_init (by decide +kernel)) rfl
theorem dX10_init_17 : decode cX10_init 17 = .ok (.newarray .int, 2) := by decide +kernel
theorem dX10_init_19 : decode cX10_init 19 = .ok (.putfield 15, 3) := dk_181 (a := 0) (b := 15) (dkn dmcX10_init (by decide +kernel)) rfl
theorem dX10_init_22 : decode cX10_init 22 = .ok (.aload_n 0, 1) := dk_42 (dkn dmcX10_init (by decide +kernel))
theorem dX10_init_23 : decode cX10_init 23 = .ok (.sipush 301, 3) := dk_17 (a := 1) (b := 45) (dkn dmcX10_init (by decide +kernel)) rfl
theorem dX10_init_26 : decode cX10_init 26 = .ok (.newarray .int, 2) := by decide +kernel
theorem dX10_init_28 : decode cX10_init 28 = .ok (.putfield 18, 3) := dk_181 (a := 0) (b := 18) (dkn dmcX10_init (by decide +kernel)) rfl
theorem dX10_init_31 : decode cX10_init 31 = .ok (.aload_n 0, 1) := dk_42 (dkn dmcX10_init (by decide +kernel))
theorem dX10_init_32 : decode cX10_init 32 = .ok (.sipush 301, 3) := dk_17 (a := 1) (b := 45) (dkn dmcX10_init (by decide +kernel)) rfl
theorem dX10_init_35 : decode cX10_init 35 = .ok (.newarray .int, 2) := by decide +kernel
theorem dX10_init_37 : decode cX10_init 37 = .ok (.putfield 21, 3) := dk_181 (a := 0) (b := 21) (dkn dmcX10_init (by decide +kernel)) rfl
theorem dX10_init_40 : decode cX10_init 40 = .ok (.aload_n 0, 1) := dk_42 (dkn dmcX10_init (by decide +kernel))
theorem dX10_init_41 : decode cX10_init 41 = .ok (.sipush 301, 3) := dk_17 (a := 1) (b := 45) (dkn dmcX10_init (by decide +kernel)) rfl
theorem dX10_init_44 : decode cX10_init 44 = .ok (.newarray .int, 2) := by decide +kernel
theorem dX10_init_46 : decode cX10_init 46 = .ok (.putfield 24, 3) := dk_181 (a := 0) (b := 24) (dkn dmcX10_init (by decide +kernel)) rfl
theorem dX10_init_49 : decode cX10_init 49 = .ok (.aload_n 0, 1) := dk_42 (dkn dmcX10_init (by decide +kernel))
theorem dX10_init_50 : decode cX10_init 50 = .ok (.sipush 301, 3) := dk_17 (a := 1) (b := 45) (dkn dmcX10_init (by decide +kernel)) rfl
theorem dX10_init_53 : decode cX10_init 53 = .ok (.newarray .int, 2) := by decide +kernel
theorem dX10_init_55 : decode cX10_init 55 = .ok (.putfield 27, 3) := dk_181 (a := 0) (b := 27) (dkn dmcX10_init (by decide +kernel)) rfl
theorem dX10_init_58 : decode cX10_init 58 = .ok (.aload_n 0, 1) := dk_42 (dkn dmcX10_init (by decide +kernel))
theorem dX10_init_59 : decode cX10_init 59 = .ok (.sipush 301, 3) := dk_17 (a := 1) (b := 45) (dkn dmcX10_init (by decide +kernel)) rfl
theorem dX10_init_62 : decode cX10_init 62 = .ok (.newarray .int, 2) := by decide +kernel
theorem dX10_init_64 : decode cX10_init 64 = .ok (.putfield 30, 3) := dk_181 (a := 0) (b := 30) (dkn dmcX10_init (by decide +kernel)) rfl
theorem dX10_init_67 : decode cX10_init 67 = .ok (.aload_n 0, 1) := dk_42 (dkn dmcX10_init (by decide +kernel))
theorem dX10_init_68 : decode cX10_init 68 = .ok (.sipush 301, 3) := dk_17 (a := 1) (b := 45) (dkn dmcX10_init (by decide +kernel)) rfl
theorem dX10_init_71 : decode cX10_init 71 = .ok (.newarray .int, 2) := by decide +kernel
theorem dX10_init_73 : decode cX10_init 73 = .ok (.putfield 33, 3) := dk_181 (a := 0) (b := 33) (dkn dmcX10_init (by decide +kernel)) rfl
theorem dX10_init_76 : decode cX10_init 76 = .ok (.aload_n 0, 1) := dk_42 (dkn dmcX10_init (by decide +kernel))
theorem dX10_init_77 : decode cX10_init 77 = .ok (.sipush 301, 3) := dk_17 (a := 1) (b := 45) (dkn dmcX10_init (by decide +kernel)) rfl
theorem dX10_init_80 : decode cX10_init 80 = .ok (.newarray .int, 2) := by decide +kernel
theorem dX10_init_82 : decode cX10_init 82 = .ok (.putfield 36, 3) := dk_181 (a := 0) (b := 36) (dkn dmcX10_init (by decide +kernel)) rfl
theorem dX10_init_85 : decode cX10_init 85 = .ok (.aload_n 0, 1) := dk_42 (dkn dmcX10_init (by decide +kernel))
theorem dX10_init_86 : decode cX10_init 86 = .ok (.sipush 300, 3) := dk_17 (a := 1) (b := 44) (dkn dmcX10_init (by decide +kernel)) rfl
theorem dX10_init_89 : decode cX10_init 89 = .ok (.newarray .int, 2) := by decide +kernel
theorem dX10_init_91 : decode cX10_init 91 = .ok (.putfield 39, 3) := dk_181 (a := 0) (b := 39) (dkn dmcX10_init (by decide +kernel)) rfl
theorem dX10_init_94 : decode cX10_init 94 = .ok (.aload_n 0, 1) := dk_42 (dkn dmcX10_init (by decide +kernel))
theorem dX10_init_95 : decode cX10_init 95 = .ok (.sipush 300, 3) := dk_17 (a := 1) (b := 44) (dkn dmcX10_init (by decide +kernel)) rfl
theorem dX10_init_98 : decode cX10_init 98 = .ok (.newarray .int, 2) := by decide +kernel
theorem dX10_init_100 : decode cX10_init 100 = .ok (.putfield 42, 3) := dk_181 (a := 0) (b := 42) (dkn dmcX10_init (by decide +kernel)) rfl
theorem dX10_init_103 : decode cX10_init 103 = .ok (.return_, 1) := dk_177 (dkn dmcX10_init (by decide +kernel))
def dncX11_init : Nat := 0xb13e00b5fe102a3a00b53800bd08102a3400b53100b71c00b42a0c00b42a592f00bb2a2b00b52800b72200b42a592600bb2a2200b52100b7591f00bb2a1c00b51500b70c00b42a591300bb2a1800b51500b71000b42a591300bb2a1000b50b00b7590900bb2a0c00b50b00b7590900bb2a0300b72a
theorem dmcX11_init : dkc dncX11_init 117 cX11_init.data.toList 0 = true := by decide +kernel
theorem dX11_init_0 : decode cX11_init 0 = .ok (.aload_n 0, 1) := dk_42 (dkn dmcX11_init (by decide +kernel))
theorem dX11_init_1 : decode cX11_init 1 = .ok (.invokespecial 3, 3) := dk_183 (a := 0) (b := 3) (dkn dmcX11_init (by decide +kernel)) rfl
theorem dX11_init_4 : decode cX11_init 4 = .ok (.aload_n 0, 1) := dk_42 (dkn dmcX11_init (by decide +kernel))
theorem dX11_init_5 : decode cX11_init 5 = .ok (.new 9, 3) := dk_187 (a := 0) (b := 9) (dkn dmcX11_init (by decide +kernel)) rfl
theorem dX11_init_8 : decode cX11_init 8 = .ok (.dup, 1) := dk_89 (dkn dmcX11_init (by decide +kernel))
theorem dX11_init_9 : decode cX11_init 9 = .ok (.invokespecial 11, 3) := dk_183 (a := 0) (b := 11) (dkn dmcX11_init (by decide +kernel)) rfl
theorem dX11_init_12 : decode cX11_init 12 = .ok (.putfield 12, 3) := dk_181 (a := 0) (b := 12) (dkn dmcX11_init (by decide +kernel)) rfl
theorem dX11_init_15 : decode cX11_init 15 = .ok (.aload_n 0, 1) := dk_42 (dkn dmcX11_init (by decide +kernel))
theorem dX11_init_16 : decode cX11_init 16 = .ok (.new 9, 3) := dk_187 (a := 0) (b := 9) (dkn dmcX11_init (by decide +kernel)) rfl
theorem dX11_init_19 : decode cX11_init 19 = .ok (.dup, 1) := dk_89 (dkn dmcX11_init (by decide +kernel))
theorem dX11_init_20 : decode cX11_init 20 = .ok (.invokespecial 11, 3) := dk_183 (a := 0) (b := 11) (dkn dmcX11_init (by decide +kernel)) rfl
theorem dX11_init_23 : decode cX11_init 23 = .ok (.putfield 16, 3) := dk_181 (a := 0) (b := 16) (dkn dmcX11_init (by decide +kernel)) rfl
theorem dX11_init_26 : decode cX11_init 26 = .ok (.aload_n 0, 1) := dk_42 (dkn dmcX11_init (by decide +kernel))
theorem dX11_init_27 : decode cX11_init 27 = .ok (.new 19, 3) := dk_187 (a := 0) (b := 19) (dkn dmcX11_init (by decide +kernel)) rfl
theorem dX11_init_30 : decode cX11_init 30 = .ok (.dup, 1) := dk_89 (dkn dmcX11_init (by decide +kernel))
theorem dX11_init_31 : decode cX11_init 31 = .ok (.aload_n 0, 1) := dk_42 (dkn dmcX11_init (by decide +kernel))
theorem dX11_init_32 : decode cX11_init 32 = .ok (.getfield 16, 3) := dk_180 (a := 0) (b := 16) (dkn dmcX11_init (by decide +kernel)) rfl
theorem dX11_init_35 : decode cX11_init 35 = .ok (.invokespecial 21, 3) := dk_183 (a := 0) (b := 21) (dkn dmcX11_init (by decide +kernel)) rfl
theorem dX11_init_38 : decode cX11_init 38 = .ok (.putfield 24, 3) := dk_181 (a := 0) (b := 24) (dkn dmcX11_init (by decide +kernel)) rfl
theorem dX11_init_41 : decode cX11_init 41 = .ok (.aload_n 0, 1) := dk_42 (dkn dmcX11_init (by decide +kernel))
theorem dX11_init_42 : decode cX11_init 42 = .ok (.new 19, 3) := dk_187 (a := 0) (b := 19) (dkn dmcX11_init (by decide +kernel)) rfl
theorem dX11_init_45 : decode cX11_init 45 = .ok (.dup, 1) := dk_89 (dkn dmcX11_init (by decide +kernel))
theorem dX11_init_46 : decode cX11_init 46 = .ok (.aload_n 0, 1) := dk_42 (dkn dmcX11_init (by decide +kernel))
theorem dX11_init_47 : decode cX11_init 47 = .ok (.getfield 12, 3) := dk_180 (a := 0) (b := 12) (dkn dmcX11_init (by decide +kernel)) rfl
theorem dX11_init_50 : decode cX11_init 50 = .ok (.invokespecial 21, 3) := dk_183 (a := 0) (b := 21) (dkn dmcX11_init (by decide +kernel)) rfl
theorem dX11_init_53 : decode cX11_init 53 = .ok (.putfield 28, 3) := dk_181 (a := 0) (b := 28) (dkn dmcX11_init (by decide +kernel)) rfl
theorem dX11_init_56 : decode cX11_init 56 = .ok (.aload_n 0, 1) := dk_42 (dkn dmcX11_init (by decide +kernel))
theorem dX11_init_57 : decode cX11_init 57 = .ok (.new 31, 3) := dk_187 (a := 0) (b := 31) (dkn dmcX11_init (by decide +kernel)) rfl
theorem dX11_init_60 : decode cX11_init 60 = .ok (.dup, 1) := dk_89 (dkn dmcX11_init (by decide +kernel))
theorem dX11_init_61 : decode cX11_init 61 = .ok (.invokespecial 33, 3) := dk_183 (a := 0) (b := 33) (dkn dmcX11_init (by decide +kernel)) rfl
theorem dX11_init_64 : decode cX11_init 64 = .ok (.putfield 34, 3) := dk_181 (a := 0) (b := 34) (dkn dmcX11_init (by decide +kernel)) rfl
theorem dX11_init_67 : decode cX11_init 67 = .ok (.aload_n 0, 1) := dk_42 (dkn dmcX11_init (by decide +kernel))
theorem dX11_init_68 : decode cX11_init 68 = .ok (.new 38, 3) := dk_187 (a := 0) (b := 38) (dkn dmcX11_init (by decide +kernel)) rfl
theorem dX11_init_71 : decode cX11_init 71 = .ok (.dup, 1) := dk_89 (dkn dmcX11_init (by decide +kernel))
theorem dX11_init_72 : decode cX11_init 72 = .ok (.aload_n 0, 1) := dk_42 (dkn dmcX11_init (by decide +kernel))
theorem dX11_init_73 : decode cX11_init 73 = .ok (.getfield 34, 3) := dk_180 (a := 0) (b := 34) (dkn dmcX11_init (by decide +kernel)) rfl
theorem dX11_init_76 : decode cX11_init 76 = .ok (.invokespecial 40, 3) := dk_183 (a := 0) (b := 40) (dkn dmcX11_init (by decide +kernel)) rfl
theorem dX11_init_79 : decode cX11_init 79 = .ok (.putfield 43, 3) := dk_181 (a := 0) (b := 43) (dkn dmcX11_init (by decide +kernel)) rfl
theorem dX11_init_82 : decode cX11_init 82 = .ok (.aload_n 0, 1) := dk_42 (dkn dmcX11_init (by decide +kernel))
theorem dX11_init_83 : decode cX11_init 83 = .ok (.new 47, 3) := dk_187 (a := 0) (b := 47) (dkn dmcX11_init (by decide +kernel)) rfl
theorem dX11_init_86 : decode cX11_init 86 = .ok (.dup, 1) := dk_89 (dkn dmcX11_init (by decide +kernel))
theorem dX11_init_87 : decode cX11_init 87 = .ok (.aload_n 0, 1) := dk_42 (dkn dmcX11_init (by decide +kernel))
theorem dX11_init_88 : decode cX11_init 88 = .ok (.getfield 12, 3) := dk_180 (a := 0) (b := 12) (dkn dmcX11_init (by decide +kernel)) rfl
theorem dX11_init_91 : decode cX11_init 91 = .ok (.aload_n 0, 1) := dk_42 (dkn dmcX11_init (by decide +kernel))
theorem dX11_init_92 : decode cX11_init 92 = .ok (.getfield 28, 3) := dk_180 (a := 0) (b := 28) (dkn dmcX11_init (by decide +kernel)) rfl
theorem dX11_init_95 : decode cX11_init 95 = .ok (.invokespecial 49, 3) := dk_183 (a := 0) (b := 49) (dkn dmcX11_init (by decide +kernel)) rfl
theorem dX11_init_98 : decode cX11_init 98 = .ok (.putfield 52, 3) := dk_181 (a := 0) (b := 52) (dkn dmcX11_init (by decide +kernel)) rfl
theorem dX11_init_101 : decode cX11_init 101 = .ok (.aload_n 0, 1) := dk_42 (dkn dmcX11_init (by decide +kernel))
theorem dX11_init_102 : decode cX11_init 102 = .ok (.bipush 8, 2) := dk_16 (a := 8) (dkn dmcX11_init (by decide +kernel)) rfl
theorem dX11_init_104 : decode cX11_init 104 = .ok (.anewarray 56, 3) := by decide +kernel
theorem dX11_init_107 : decode cX11_init 107 = .ok (.putfield 58, 3) := dk_181 (a := 0) (b := 58) (dkn dmcX11_init (by decide +kernel)) rfl
theorem dX11_init_110 : decode cX11_init 110 = .ok (.aload_n 0, 1) := dk_42 (dkn dmcX11_init (by decide +kernel))
theorem dX11_init_111 : decode cX11_init 111 = .ok (.bipush (-2), 2) := dk_16 (a := 254) (dkn dmcX11_init (by decide +kernel)) rfl
theorem dX11_init_113 : decode cX11_init 113 = .ok (.putfield 62, 3) := dk_181 (a := 0) (b := 62) (dkn dmcX11_init (by decide +kernel)) rfl
theorem dX11_init_116 : decode cX11_init 116 = .ok (.return_, 1) := dk_177 (dkn dmcX11_init (by decide +kernel))
def dncX11_value : Nat := 0xac2e0415cf00b405190b00a72e0415cc00b405190e009a1d053ac800b67e00b42a2abfc700b7c51259c300bb0d00a4041d08009b1d0c009b04150436c000b81c1b0800a7bd00b81c0a00a0021bbfba00b7b81259b600bb0d009a7400b42a
theorem dmcX11_value : dkc dncX11_value 94 cX11_value.data.toList 0 = true := by decide +kernel
theorem dX11_value_0 : decode cX11_value 0 = .ok (.aload_n 0, 1) := dk_42 (dkn dmcX11_value (by decide +kernel))
theorem dX11_value_1 : decode cX11_value 1 = .ok (.getfield 116, 3) := dk_180 (a := 0) (b := 116) (dkn dmcX11_value (by decide +kernel)) rfl
theorem dX11_value_4 : decode cX11_value 4 = .ok (.ifCond .ne 13, 3) := dk_154 (a := 0) (b := 13) (dkn dmcX11_value (by decide +kernel)) rfl
theorem dX11_value_7 : decode cX11_value 7 = .ok (.new 182, 3) := dk_187 (a := 0) (b := 182) (dkn dmcX11_value (by decide +kernel)) rfl
theorem dX11_value_10 : decode cX11_value 10 = .ok (.dup, 1) := dk_89 (dkn dmcX11_value (by decide +kernel))
theorem dX11_value_11 : decode cX11_value 11 = .ok (.ldc 184, 2) := dk_18 (dkn dmcX11_value (by decide +kernel))
theorem dX11_value_13 : decode cX11_value 13 = .ok (.invokespecial 186, 3) := dk_183 (a := 0) (b := 186) (dkn dmcX11_value (by decide +kernel)) rfl
theorem dX11_value_16 : decode cX11_value 16 = .ok (.athrow, 1) := dk_191 (dkn dmcX11_value (by decide +kernel))
theorem dX11_value_17 : decode cX11_value 17 = .ok (.iload_n 1, 1) := dk_27 (dkn dmcX11_value (by decide +kernel))
theorem dX11_value_18 : decode cX11_value 18 = .ok (.iconst (-1), 1) := dk_2 (dkn dmcX11_value (by decide +kernel))
theorem dX11_value_19 : decode cX11_value 19 = .ok (.if_icmp .ne 10, 3) := dk_160 (a := 0) (b := 10) (dkn dmcX11_value (by decide +kernel)) rfl
theorem dX11_value_22 : decode cX11_value 22 = .ok (.iload_n 2, 1) := dk_28 (dkn dmcX11_value (by decide +kernel))
theorem dX11_value_23 : decode cX11_value 23 = .ok (.invokestatic 189, 3) := dk_184 (a := 0) (b := 189) (dkn dmcX11_value (by decide +kernel)) rfl
theorem dX11_value_26 : decode cX11_value 26 = .ok (.goto 8, 3) := dk_167 (a := 0) (b := 8) (dkn dmcX11_value (by decide +kernel)) rfl
theorem dX11_value_29 : decode cX11_value 29 = .ok (.iload_n 1, 1) := dk_27 (dkn dmcX11_value (by decide +kernel))
theorem dX11_value_30 : decode cX11_value 30 = .ok (.iload_n 2, 1) := dk_28 (dkn dmcX11_value (by decide +kernel))
theorem dX11_value_31 : decode cX11_value 31 = .ok (.invokestatic 192, 3) := dk_184 (a := 0) (b := 192) (dkn dmcX11_value (by decide +kernel)) rfl
theorem dX11_value_34 : decode cX11_value 34 = .ok (.istore 4, 2) := dk_54 (dkn dmcX11_value (by decide +kernel))
theorem dX11_value_36 : decode cX11_value 36 = .ok (.iload 4, 2) := dk_21 (dkn dmcX11_value (by decide +kernel))
theorem dX11_value_38 : decode cX11_value 38 = .ok (.ifCond .lt 12, 3) := dk_155 (a := 0) (b := 12) (dkn dmcX11_value (by decide +kernel)) rfl
theorem dX11_value_41 : decode cX11_value 41 = .ok (.iload_n 3, 1) := dk_29 (dkn dmcX11_value (by decide +kernel))
theorem dX11_value_42 : decode cX11_value 42 = .ok (.ifCond .lt 8, 3) := dk_155 (a := 0) (b := 8) (dkn dmcX11_value (by decide +kernel)) rfl
theorem dX11_value_45 : decode cX11_value 45 = .ok (.iload_n 3, 1) := dk_29 (dkn dmcX11_value (by decide +kernel))
theorem dX11_value_46 : decode cX11_value 46 = .ok (.iconst 1, 1) := dk_4 (dkn dmcX11_value (by decide +kernel))
theorem dX11_value_47 : decode cX11_value 47 = .ok (.if_icmp .le 13, 3) := dk_164 (a := 0) (b := 13) (dkn dmcX11_value (by decide +kernel)) rfl
theorem dX11_value_50 : decode cX11_value 50 = .ok (.new 195, 3) := dk_187 (a := 0) (b := 195) (dkn dmcX11_value (by decide +kernel)) rfl
theorem dX11_value_53 : decode cX11_value 53 = .ok (.dup, 1) := dk_89 (dkn dmcX11_value (by decide +kernel))
theorem dX11_value_54 : decode cX11_value 54 = .ok (.ldc 197, 2) := dk_18 (dkn dmcX11_value (by decide +kernel))
theorem dX11_value_56 : decode cX11_value 56 = .ok (.invokespecial 199, 3) := dk_183 (a := 0) (b := 199) (dkn dmcX11_value (by decide +kernel)) rfl
theorem dX11_value_59 : decode cX11_value 59 = .ok (.athrow, 1) := dk_191 (dkn dmcX11_value (by decide +kernel))
theorem dX11_value_60 : decode cX11_value 60 = .ok (.aload_n 0, 1) := dk_42 (dkn dmcX11_value (by decide +kernel))
theorem dX11_value_61 : decode cX11_value 61 = .ok (.aload_n 0, 1) := dk_42 (dkn dmcX11_value (by decide +kernel))
theorem dX11_value_62 : decode cX11_value 62 = .ok (.getfield 126, 3) := dk_180 (a := 0) (b := 126) (dkn dmcX11_value (by decide +kernel)) rfl
theorem dX11_value_65 : decode cX11_value 65 = .ok (.invokevirtual 200, 3) := dk_182 (a := 0) (b := 200) (dkn dmcX11_value (by decide +kernel)) rfl
theorem dX11_value_68 : decode cX11_value 68 = .ok (.astore 5, 2) := dk_58 (dkn dmcX11_value (by decide +kernel))
theorem dX11_value_70 : decode cX11_value 70 = .ok (.iload_n 3, 1) := dk_29 (dkn dmcX11_value (by decide +kernel))
theorem dX11_value_71 : decode cX11_value 71 = .ok (.ifCond .ne 14, 3) := dk_154 (a := 0) (b := 14) (dkn dmcX11_value (by decide +kernel)) rfl
theorem dX11_value_74 : decode cX11_value 74 = .ok (.aload 5, 2) := dk_25 (dkn dmcX11_value (by decide +kernel))
theorem dX11_value_76 : decode cX11_value 76 = .ok (.getfield 204, 3) := dk_180 (a := 0) (b := 204) (dkn dmcX11_value (by decide +kernel)) rfl
theorem dX11_value_79 : decode cX11_value 79 = .ok (.iload 4, 2) := dk_21 (dkn dmcX11_value (by decide +kernel))
theorem dX11_value_81 : decode cX11_value 81 = .ok (.iaload, 1) := dk_46 (dkn dmcX11_value (by decide +kernel))
theorem dX11_value_82 : decode cX11_value 82 = .ok (.goto 11, 3) := dk_167 (a := 0) (b := 11) (dkn dmcX11_value (by decide +kernel)) rfl
theorem dX11_value_85 : decode cX11_value 85 = .ok (.aload 5, 2) := dk_25 (dkn dmcX11_value (by decide +kernel))
theorem dX11_value_87 : decode cX11_value 87 = .ok (.getfield 207, 3) := dk_180 (a := 0) (b := 207) (dkn dmcX11_value (by decide +kernel)) rfl
theorem dX11_value_90 : decode cX11_value 90 = .ok (.iload 4, 2) := dk_21 (dkn dmcX11_value (by decide +kernel))
theorem dX11_value_92 : decode cX11_value 92 = .ok (.iaload, 1) := dk_46 (dkn dmcX11_value (by decide +kernel))
theorem dX11_value_93 : decode cX11_value 93 = .ok (.ireturn, 1) := dk_172 (dkn dmcX11_value (by decide +kernel))
def dncX11_place : Nat := 0xac2e601c6810101be400b42dbfc700b7e21259c300bb0d009ade00b61c1b2d4ec800b67e00b42a2abfba00b7b81259b600bb0d009a7400b42a
theorem dmcX11_place : dkc dncX11_place 57 cX11_place.data.toList 0 = true := by decide +kernel
theorem dX11_place_0 : decode cX11_place 0 = .ok (.aload_n 0, 1) := dk_42 (dkn dmcX11_place (by decide +kernel))
theorem dX11_place_1 : decode cX11_place 1 = .ok (.getfield 116, 3) := dk_180 (a := 0) (b := 116) (dkn dmcX11_place (by decide +kernel)) rfl
theorem dX11_place_4 : decode cX11_place 4 = .ok (.ifCond .ne 13, 3) := dk_154 (a := 0) (b := 13) (dkn dmcX11_place (by decide +kernel)) rfl
theorem dX11_place_7 : decode cX11_place 7 = .ok (.new 182, 3) := dk_187 (a := 0) (b := 182) (dkn dmcX11_place (by decide +kernel)) rfl
theorem dX11_place_10 : decode cX11_place 10 = .ok (.dup, 1) := dk_89 (dkn dmcX11_place (by decide +kernel))
theorem dX11_place_11 : decode cX11_place 11 = .ok (.ldc 184, 2) := dk_18 (dkn dmcX11_place (by decide +kernel))
theorem dX11_place_13 : decode cX11_place 13 = .ok (.invokespecial 186, 3) := dk_183 (a := 0) (b := 186) (dkn dmcX11_place (by decide +kernel)) rfl
theorem dX11_place_16 : decode cX11_place 16 = .ok (.athrow, 1) := dk_191 (dkn dmcX11_place (by decide +kernel))
theorem dX11_place_17 : decode cX11_place 17 = .ok (.aload_n 0, 1) := dk_42 (dkn dmcX11_place (by decide +kernel))
theorem dX11_place_18 : decode cX11_place 18 = .ok (.aload_n 0, 1) := dk_42 (dkn dmcX11_place (by decide +kernel))
theorem dX11_place_19 : decode cX11_place 19 = .ok (.getfield 126, 3) := dk_180 (a := 0) (b := 126) (dkn dmcX11_place (by decide +kernel)) rfl
theorem dX11_place_22 : decode cX11_place 22 = .ok (.invokevirtual 200, 3) := dk_182 (a := 0) (b := 200) (dkn dmcX11_place (by decide +kernel)) rfl
theorem dX11_place_25 : decode cX11_place 25 = .ok (.astore_n 3, 1) := dk_78 (dkn dmcX11_place (by decide +kernel))
theorem dX11_place_26 : decode cX11_place 26 = .ok (.aload_n 3, 1) := dk_45 (dkn dmcX11_place (by decide +kernel))
theorem dX11_place_27 : decode cX11_place 27 = .ok (.iload_n 1, 1) := dk_27 (dkn dmcX11_place (by decide +kernel))
theorem dX11_place_28 : decode cX11_place 28 = .ok (.iload_n 2, 1) := dk_28 (dkn dmcX11_place (by decide +kernel))
theorem dX11_place_29 : decode cX11_place 29 = .ok (.invokevirtual 222, 3) := dk_182 (a := 0) (b := 222) (dkn dmcX11_place (by decide +kernel)) rfl
theorem dX11_place_32 : decode cX11_place 32 = .ok (.ifCond .ne 13, 3) := dk_154 (a := 0) (b := 13) (dkn dmcX11_place (by decide +kernel)) rfl
theorem dX11_place_35 : decode cX11_place 35 = .ok (.new 195, 3) := dk_187 (a := 0) (b := 195) (dkn dmcX11_place (by decide +kernel)) rfl
theorem dX11_place_38 : decode cX11_place 38 = .ok (.dup, 1) := dk_89 (dkn dmcX11_place (by decide +kernel))
theorem dX11_place_39 : decode cX11_place 39 = .ok (.ldc 226, 2) := dk_18 (dkn dmcX11_place (by decide +kernel))
theorem dX11_place_41 : decode cX11_place 41 = .ok (.invokespecial 199, 3) := dk_183 (a := 0) (b := 199) (dkn dmcX11_place (by decide +kernel)) rfl
theorem dX11_place_44 : decode cX11_place 44 = .ok (.athrow, 1) := dk_191 (dkn dmcX11_place (by decide +kernel))
theorem dX11_place_45 : decode cX11_place 45 = .ok (.aload_n 3, 1) := dk_45 (dkn dmcX11_place (by decide +kernel))
theorem dX11_place_46 : decode cX11_place 46 = .ok (.getfield 228, 3) := dk_180 (a := 0) (b := 228) (dkn dmcX11_place (by decide +kernel)) rfl
theorem dX11_place_49 : decode cX11_place 49 = .ok (.iload_n 1, 1) := dk_27 (dkn dmcX11_place (by decide +kernel))
theorem dX11_place_50 : decode cX11_place 50 = .ok (.bipush 16, 2) := dk_16 (a := 16) (dkn dmcX11_place (by decide +kernel)) rfl
theorem dX11_place_52 : decode cX11_place 52 = .ok (.imul, 1) := dk_104 (dkn dmcX11_place (by decide +kernel))
theorem dX11_place_53 : decode cX11_place 53 = .ok (.iload_n 2, 1) := dk_28 (dkn dmcX11_place (by decide +kernel))
theorem dX11_place_54 : decode cX11_place 54 = .ok (.iadd, 1) := dk_96 (dkn dmcX11_place (by decide +kernel))
theorem dX11_place_55 : decode cX11_place 55 = .ok (.iaload, 1) := dk_46 (dkn dmcX11_place (by decide +kernel))
theorem dX11_place_56 : decode cX11_place 56 = .ok (.ireturn, 1) := dk_172 (dkn dmcX11_place (by decide +kernel))
def dncX11_keep : Nat := 0xac03532d01b62a1b3a00b42a0d00a7532901b62a1b3a00b42a1000a0051c1f00a7532501b61dc800b67800b42200b42a2a1b3a00b42a1b00a0041c3c00a753011b3a00b42a0d009a1cac020500a18b00b42200b42a1d0e009b1d1400a0041cac020500a4061c08009b1c0c00992201b81b1300997400b42a
theorem dmcX11_keep : dkc dncX11_keep 120 cX11_keep.data.toList 0 = true := by decide +kernel
theorem dX11_keep_0 : decode cX11_keep 0 = .ok (.aload_n 0, 1) := dk_42 (dkn dmcX11_keep (by decide +kernel))
theorem dX11_keep_1 : decode cX11_keep 1 = .ok (.getfield 116, 3) := dk_180 (a := 0) (b := 116) (dkn dmcX11_keep (by decide +kernel)) rfl
theorem dX11_keep_4 : decode cX11_keep 4 = .ok (.ifCond .eq 19, 3) := dk_153 (a := 0) (b := 19) (dkn dmcX11_keep (by decide +kernel)) rfl
theorem dX11_keep_7 : decode cX11_keep 7 = .ok (.iload_n 1, 1) := dk_27 (dkn dmcX11_keep (by decide +kernel))
theorem dX11_keep_8 : decode cX11_keep 8 = .ok (.invokestatic 290, 3) := dk_184 (a := 1) (b := 34) (dkn dmcX11_keep (by decide +kernel)) rfl
theorem dX11_keep_11 : decode cX11_keep 11 = .ok (.ifCond .eq 12, 3) := dk_153 (a := 0) (b := 12) (dkn dmcX11_keep (by decide +kernel)) rfl
theorem dX11_keep_14 : decode cX11_keep 14 = .ok (.iload_n 2, 1) := dk_28 (dkn dmcX11_keep (by decide +kernel))
theorem dX11_keep_15 : decode cX11_keep 15 = .ok (.ifCond .lt 8, 3) := dk_155 (a := 0) (b := 8) (dkn dmcX11_keep (by decide +kernel)) rfl
theorem dX11_keep_18 : decode cX11_keep 18 = .ok (.iload_n 2, 1) := dk_28 (dkn dmcX11_keep (by decide +kernel))
theorem dX11_keep_19 : decode cX11_keep 19 = .ok (.iconst 3, 1) := dk_6 (dkn dmcX11_keep (by decide +kernel))
theorem dX11_keep_20 : decode cX11_keep 20 = .ok (.if_icmp .le 5, 3) := dk_164 (a := 0) (b := 5) (dkn dmcX11_keep (by decide +kernel)) rfl
theorem dX11_keep_23 : decode cX11_keep 23 = .ok (.iconst (-1), 1) := dk_2 (dkn dmcX11_keep (by decide +kernel))
theorem dX11_keep_24 : decode cX11_keep 24 = .ok (.ireturn, 1) := dk_172 (dkn dmcX11_keep (by decide +kernel))
theorem dX11_keep_25 : decode cX11_keep 25 = .ok (.iload_n 2, 1) := dk_28 (dkn dmcX11_keep (by decide +kernel))
theorem dX11_keep_26 : decode cX11_keep 26 = .ok (.iconst 1, 1) := dk_4 (dkn dmcX11_keep (by decide +kernel))
theorem dX11_keep_27 : decode cX11_keep 27 = .ok (.if_icmp .ne 20, 3) := dk_160 (a := 0) (b := 20) (dkn dmcX11_keep (by decide +kernel)) rfl
theorem dX11_keep_30 : decode cX11_keep 30 = .ok (.iload_n 3, 1) := dk_29 (dkn dmcX11_keep (by decide +kernel))
theorem dX11_keep_31 : decode cX11_keep 31 = .ok (.ifCond .lt 14, 3) := dk_155 (a := 0) (b := 14) (dkn dmcX11_keep (by decide +kernel)) rfl
theorem dX11_keep_34 : decode cX11_keep 34 = .ok (.iload_n 3, 1) := dk_29 (dkn dmcX11_keep (by decide +kernel))
theorem dX11_keep_35 : decode cX11_keep 35 = .ok (.aload_n 0, 1) := dk_42 (dkn dmcX11_keep (by decide +kernel))
theorem dX11_keep_36 : decode cX11_keep 36 = .ok (.getfield 34, 3) := dk_180 (a := 0) (b := 34) (dkn dmcX11_keep (by decide +kernel)) rfl
theorem dX11_keep_39 : decode cX11_keep 39 = .ok (.getfield 139, 3) := dk_180 (a := 0) (b := 139) (dkn dmcX11_keep (by decide +kernel)) rfl
theorem dX11_keep_42 : decode cX11_keep 42 = .ok (.if_icmp .lt 5, 3) := dk_161 (a := 0) (b := 5) (dkn dmcX11_keep (by decide +kernel)) rfl
theorem dX11_keep_45 : decode cX11_keep 45 = .ok (.iconst (-1), 1) := dk_2 (dkn dmcX11_keep (by decide +kernel))
theorem dX11_keep_46 : decode cX11_keep 46 = .ok (.ireturn, 1) := dk_172 (dkn dmcX11_keep (by decide +kernel))
theorem dX11_keep_47 : decode cX11_keep 47 = .ok (.iload_n 2, 1) := dk_28 (dkn dmcX11_keep (by decide +kernel))
theorem dX11_keep_48 : decode cX11_keep 48 = .ok (.ifCond .ne 13, 3) := dk_154 (a := 0) (b := 13) (dkn dmcX11_keep (by decide +kernel)) rfl
theorem dX11_keep_51 : decode cX11_keep 51 = .ok (.aload_n 0, 1) := dk_42 (dkn dmcX11_keep (by decide +kernel))
theorem dX11_keep_52 : decode cX11_keep 52 = .ok (.getfield 58, 3) := dk_180 (a := 0) (b := 58) (dkn dmcX11_keep (by decide +kernel)) rfl
theorem dX11_keep_55 : decode cX11_keep 55 = .ok (.iload_n 1, 1) := dk_27 (dkn dmcX11_keep (by decide +kernel))
theorem dX11_keep_56 : decode cX11_keep 56 = .ok (.aconst_null, 1) := dk_1 (dkn dmcX11_keep (by decide +kernel))
theorem dX11_keep_57 : decode cX11_keep 57 = .ok (.aastore, 1) := dk_83 (dkn dmcX11_keep (by decide +kernel))
theorem dX11_keep_58 : decode cX11_keep 58 = .ok (.goto 60, 3) := dk_167 (a := 0) (b := 60) (dkn dmcX11_keep (by decide +kernel)) rfl
theorem dX11_keep_61 : decode cX11_keep 61 = .ok (.iload_n 2, 1) := dk_28 (dkn dmcX11_keep (by decide +kernel))
theorem dX11_keep_62 : decode cX11_keep 62 = .ok (.iconst 1, 1) := dk_4 (dkn dmcX11_keep (by decide +kernel))
theorem dX11_keep_63 : decode cX11_keep 63 = .ok (.if_icmp .ne 27, 3) := dk_160 (a := 0) (b := 27) (dkn dmcX11_keep (by decide +kernel)) rfl
theorem dX11_keep_66 : decode cX11_keep 66 = .ok (.aload_n 0, 1) := dk_42 (dkn dmcX11_keep (by decide +kernel))
theorem dX11_keep_67 : decode cX11_keep 67 = .ok (.getfield 58, 3) := dk_180 (a := 0) (b := 58) (dkn dmcX11_keep (by decide +kernel)) rfl
theorem dX11_keep_70 : decode cX11_keep 70 = .ok (.iload_n 1, 1) := dk_27 (dkn dmcX11_keep (by decide +kernel))
theorem dX11_keep_71 : decode cX11_keep 71 = .ok (.aload_n 0, 1) := dk_42 (dkn dmcX11_keep (by decide +kernel))
theorem dX11_keep_72 : decode cX11_keep 72 = .ok (.aload_n 0, 1) := dk_42 (dkn dmcX11_keep (by decide +kernel))
theorem dX11_keep_73 : decode cX11_keep 73 = .ok (.getfield 34, 3) := dk_180 (a := 0) (b := 34) (dkn dmcX11_keep (by decide +kernel)) rfl
theorem dX11_keep_76 : decode cX11_keep 76 = .ok (.getfield 120, 3) := dk_180 (a := 0) (b := 120) (dkn dmcX11_keep (by decide +kernel)) rfl
theorem dX11_keep_79 : decode cX11_keep 79 = .ok (.invokevirtual 200, 3) := dk_182 (a := 0) (b := 200) (dkn dmcX11_keep (by decide +kernel)) rfl
theorem dX11_keep_82 : decode cX11_keep 82 = .ok (.iload_n 3, 1) := dk_29 (dkn dmcX11_keep (by decide +kernel))
theorem dX11_keep_83 : decode cX11_keep 83 = .ok (.invokevirtual 293, 3) := dk_182 (a := 1) (b := 37) (dkn dmcX11_keep (by decide +kernel)) rfl
theorem dX11_keep_86 : decode cX11_keep 86 = .ok (.aastore, 1) := dk_83 (dkn dmcX11_keep (by decide +kernel))
theorem dX11_keep_87 : decode cX11_keep 87 = .ok (.goto 31, 3) := dk_167 (a := 0) (b := 31) (dkn dmcX11_keep (by decide +kernel)) rfl
theorem dX11_keep_90 : decode cX11_keep 90 = .ok (.iload_n 2, 1) := dk_28 (dkn dmcX11_keep (by decide +kernel))
theorem dX11_keep_91 : decode cX11_keep 91 = .ok (.iconst 2, 1) := dk_5 (dkn dmcX11_keep (by decide +kernel))
theorem dX11_keep_92 : decode cX11_keep 92 = .ok (.if_icmp .ne 16, 3) := dk_160 (a := 0) (b := 16) (dkn dmcX11_keep (by decide +kernel)) rfl
theorem dX11_keep_95 : decode cX11_keep 95 = .ok (.aload_n 0, 1) := dk_42 (dkn dmcX11_keep (by decide +kernel))
theorem dX11_keep_96 : decode cX11_keep 96 = .ok (.getfield 58, 3) := dk_180 (a := 0) (b := 58) (dkn dmcX11_keep (by decide +kernel)) rfl
theorem dX11_keep_99 : decode cX11_keep 99 = .ok (.iload_n 1, 1) := dk_27 (dkn dmcX11_keep (by decide +kernel))
theorem dX11_keep_100 : decode cX11_keep 100 = .ok (.aload_n 0, 1) := dk_42 (dkn dmcX11_keep (by decide +kernel))
theorem dX11_keep_101 : decode cX11_keep 101 = .ok (.invokevirtual 297, 3) := dk_182 (a := 1) (b := 41) (dkn dmcX11_keep (by decide +kernel)) rfl
theorem dX11_keep_104 : decode cX11_keep 104 = .ok (.aastore, 1) := dk_83 (dkn dmcX11_keep (by decide +kernel))
theorem dX11_keep_105 : decode cX11_keep 105 = .ok (.goto 13, 3) := dk_167 (a := 0) (b := 13) (dkn dmcX11_keep (by decide +kernel)) rfl
theorem dX11_keep_108 : decode cX11_keep 108 = .ok (.aload_n 0, 1) := dk_42 (dkn dmcX11_keep (by decide +kernel))
theorem dX11_keep_109 : decode cX11_keep 109 = .ok (.getfield 58, 3) := dk_180 (a := 0) (b := 58) (dkn dmcX11_keep (by decide +kernel)) rfl
theorem dX11_keep_112 : decode cX11_keep 112 = .ok (.iload_n 1, 1) := dk_27 (dkn dmcX11_keep (by decide +kernel))
theorem dX11_keep_113 : decode cX11_keep 113 = .ok (.aload_n 0, 1) := dk_42 (dkn dmcX11_keep (by decide +kernel))
theorem dX11_keep_114 : decode cX11_keep 114 = .ok (.invokevirtual 301, 3) := dk_182 (a := 1) (b := 45) (dkn dmcX11_keep (by decide +kernel)) rfl
theorem dX11_keep_117 : decode cX11_keep 117 = .ok (.aastore, 1) := dk_83 (dkn dmcX11_keep (by decide +kernel))
theorem dX11_keep_118 : decode cX11_keep 118 = .ok (.iconst 0, 1) := dk_3 (dkn dmcX11_keep (by decide +kernel))
theorem dX11_keep_119 : decode cX11_keep 119 = .ok (.ireturn, 1) := dk_172 (dkn dmcX11_keep (by decide +kernel))
def dncX11_make : Nat := 0xac03533701b70abc1d593501bb1b3a00b42a1300a7533201b708bc1d593001bb1b3a00b42a1600a0051cacf21006009c1dac020500a43c101d0900a3061c0e00a1051c1300992201b81b
theorem dmcX11_make : dkc dncX11_make 74 cX11_make.data.toList 0 = true := by decide +kernel
theorem dX11_make_0 : decode cX11_make 0 = .ok (.iload_n 1, 1) := dk_27 (dkn dmcX11_make (by decide +kernel))
theorem dX11_make_1 : decode cX11_make 1 = .ok (.invokestatic 290, 3) := dk_184 (a := 1) (b := 34) (dkn dmcX11_make (by decide +kernel)) rfl
theorem dX11_make_4 : decode cX11_make 4 = .ok (.ifCond .eq 19, 3) := dk_153 (a := 0) (b := 19) (dkn dmcX11_make (by decide +kernel)) rfl
theorem dX11_make_7 : decode cX11_make 7 = .ok (.iload_n 2, 1) := dk_28 (dkn dmcX11_make (by decide +kernel))
theorem dX11_make_8 : decode cX11_make 8 = .ok (.iconst 2, 1) := dk_5 (dkn dmcX11_make (by decide +kernel))
theorem dX11_make_9 : decode cX11_make 9 = .ok (.if_icmp .lt 14, 3) := dk_161 (a := 0) (b := 14) (dkn dmcX11_make (by decide +kernel)) rfl
theorem dX11_make_12 : decode cX11_make 12 = .ok (.iload_n 2, 1) := dk_28 (dkn dmcX11_make (by decide +kernel))
theorem dX11_make_13 : decode cX11_make 13 = .ok (.iconst 3, 1) := dk_6 (dkn dmcX11_make (by decide +kernel))
theorem dX11_make_14 : decode cX11_make 14 = .ok (.if_icmp .gt 9, 3) := dk_163 (a := 0) (b := 9) (dkn dmcX11_make (by decide +kernel)) rfl
theorem dX11_make_17 : decode cX11_make 17 = .ok (.iload_n 3, 1) := dk_29 (dkn dmcX11_make (by decide +kernel))
theorem dX11_make_18 : decode cX11_make 18 = .ok (.bipush 60, 2) := dk_16 (a := 60) (dkn dmcX11_make (by decide +kernel)) rfl
theorem dX11_make_20 : decode cX11_make 20 = .ok (.if_icmp .le 5, 3) := dk_164 (a := 0) (b := 5) (dkn dmcX11_make (by decide +kernel)) rfl
theorem dX11_make_23 : decode cX11_make 23 = .ok (.iconst (-1), 1) := dk_2 (dkn dmcX11_make (by decide +kernel))
theorem dX11_make_24 : decode cX11_make 24 = .ok (.ireturn, 1) := dk_172 (dkn dmcX11_make (by decide +kernel))
theorem dX11_make_25 : decode cX11_make 25 = .ok (.iload_n 3, 1) := dk_29 (dkn dmcX11_make (by decide +kernel))
theorem dX11_make_26 : decode cX11_make 26 = .ok (.ifCond .ge 6, 3) := dk_156 (a := 0) (b := 6) (dkn dmcX11_make (by decide +kernel)) rfl
theorem dX11_make_29 : decode cX11_make 29 = .ok (.bipush (-14), 2) := dk_16 (a := 242) (dkn dmcX11_make (by decide +kernel)) rfl
theorem dX11_make_31 : decode cX11_make 31 = .ok (.ireturn, 1) := dk_172 (dkn dmcX11_make (by decide +kernel))
theorem dX11_make_32 : decode cX11_make 32 = .ok (.iload_n 2, 1) := dk_28 (dkn dmcX11_make (by decide +kernel))
theorem dX11_make_33 : decode cX11_make 33 = .ok (.iconst 2, 1) := dk_5 (dkn dmcX11_make (by decide +kernel))
theorem dX11_make_34 : decode cX11_make 34 = .ok (.if_icmp .ne 22, 3) := dk_160 (a := 0) (b := 22) (dkn dmcX11_make (by decide +kernel)) rfl
theorem dX11_make_37 : decode cX11_make 37 = .ok (.aload_n 0, 1) := dk_42 (dkn dmcX11_make (by decide +kernel))
theorem dX11_make_38 : decode cX11_make 38 = .ok (.getfield 58, 3) := dk_180 (a := 0) (b := 58) (dkn dmcX11_make (by decide +kernel)) rfl
theorem dX11_make_41 : decode cX11_make 41 = .ok (.iload_n 1, 1) := dk_27 (dkn dmcX11_make (by decide +kernel))
theorem dX11_make_42 : decode cX11_make 42 = .ok (.new 304, 3) := dk_187 (a := 1) (b := 48) (dkn dmcX11_make (by decide +kernel)) rfl
theorem dX11_make_45 : decode cX11_make 45 = .ok (.dup, 1) := dk_89 (dkn dmcX11_make (by decide +kernel))
theorem dX11_make_46 : decode cX11_make 46 = .ok (.iload_n 3, 1) := dk_29 (dkn dmcX11_make (by decide +kernel))
theorem dX11_make_47 : decode cX11_make 47 = .ok (.newarray .byte, 2) := by decide +kernel
theorem dX11_make_49 : decode cX11_make 49 = .ok (.invokespecial 306, 3) := dk_183 (a := 1) (b := 50) (dkn dmcX11_make (by decide +kernel)) rfl
theorem dX11_make_52 : decode cX11_make 52 = .ok (.aastore, 1) := dk_83 (dkn dmcX11_make (by decide +kernel))
theorem dX11_make_53 : decode cX11_make 53 = .ok (.goto 19, 3) := dk_167 (a := 0) (b := 19) (dkn dmcX11_make (by decide +kernel)) rfl
theorem dX11_make_56 : decode cX11_make 56 = .ok (.aload_n 0, 1) := dk_42 (dkn dmcX11_make (by decide +kernel))
theorem dX11_make_57 : decode cX11_make 57 = .ok (.getfield 58, 3) := dk_180 (a := 0) (b := 58) (dkn dmcX11_make (by decide +kernel)) rfl
theorem dX11_make_60 : decode cX11_make 60 = .ok (.iload_n 1, 1) := dk_27 (dkn dmcX11_make (by decide +kernel))
theorem dX11_make_61 : decode cX11_make 61 = .ok (.new 309, 3) := dk_187 (a := 1) (b := 53) (dkn dmcX11_make (by decide +kernel)) rfl
theorem dX11_make_64 : decode cX11_make 64 = .ok (.dup, 1) := dk_89 (dkn dmcX11_make (by decide +kernel))
theorem dX11_make_65 : decode cX11_make 65 = .ok (.iload_n 3, 1) := dk_29 (dkn dmcX11_make (by decide +kernel))
theorem dX11_make_66 : decode cX11_make 66 = .ok (.newarray .int, 2) := by decide +kernel
theorem dX11_make_68 : decode cX11_make 68 = .ok (.invokespecial 311, 3) := dk_183 (a := 1) (b := 55) (dkn dmcX11_make (by decide +kernel)) rfl
theorem dX11_make_71 : decode cX11_make 71 = .ok (.aastore, 1) := dk_83 (dkn dmcX11_make (by decide +kernel))
theorem dX11_make_72 : decode cX11_make 72 = .ok (.iconst 0, 1) := dk_3 (dkn dmcX11_make (by decide +kernel))
theorem dX11_make_73 : decode cX11_make 73 = .ok (.ireturn, 1) := dk_172 (dkn dmcX11_make (by decide +kernel))
def dncX11_element : Nat := 0xac4101b61c2dbfba00b73f011359b600bb0e00a13c01b62d1c0b009b1c0f00c62d4e321b3a00b42abfc700b73a011359c300bb0e009a2201b81b
theorem dmcX11_element : dkc dncX11_element 58 cX11_element.data.toList 0 = true := by decide +kernel
theorem dX11_element_0 : decode cX11_element 0 = .ok (.iload_n 1, 1) := dk_27 (dkn dmcX11_element (by decide +kernel))
theorem dX11_element_1 : decode cX11_element 1 = .ok (.invokestatic 290, 3) := dk_184 (a := 1) (b := 34) (dkn dmcX11_element (by decide +kernel)) rfl
theorem dX11_element_4 : decode cX11_element 4 = .ok (.ifCond .ne 14, 3) := dk_154 (a := 0) (b := 14) (dkn dmcX11_element (by decide +kernel)) rfl
theorem dX11_element_7 : decode cX11_element 7 = .ok (.new 195, 3) := dk_187 (a := 0) (b := 195) (dkn dmcX11_element (by decide +kernel)) rfl
theorem dX11_element_10 : decode cX11_element 10 = .ok (.dup, 1) := dk_89 (dkn dmcX11_element (by decide +kernel))
theorem dX11_element_11 : decode cX11_element 11 = .ok (.ldc_w 314, 3) := by decide +kernel
theorem dX11_element_14 : decode cX11_element 14 = .ok (.invokespecial 199, 3) := dk_183 (a := 0) (b := 199) (dkn dmcX11_element (by decide +kernel)) rfl
theorem dX11_element_17 : decode cX11_element 17 = .ok (.athrow, 1) := dk_191 (dkn dmcX11_element (by decide +kernel))
theorem dX11_element_18 : decode cX11_element 18 = .ok (.aload_n 0, 1) := dk_42 (dkn dmcX11_element (by decide +kernel))
theorem dX11_element_19 : decode cX11_element 19 = .ok (.getfield 58, 3) := dk_180 (a := 0) (b := 58) (dkn dmcX11_element (by decide +kernel)) rfl
theorem dX11_element_22 : decode cX11_element 22 = .ok (.iload_n 1, 1) := dk_27 (dkn dmcX11_element (by decide +kernel))
theorem dX11_element_23 : decode cX11_element 23 = .ok (.aaload, 1) := dk_50 (dkn dmcX11_element (by decide +kernel))
theorem dX11_element_24 : decode cX11_element 24 = .ok (.astore_n 3, 1) := dk_78 (dkn dmcX11_element (by decide +kernel))
theorem dX11_element_25 : decode cX11_element 25 = .ok (.aload_n 3, 1) := dk_45 (dkn dmcX11_element (by decide +kernel))
theorem dX11_element_26 : decode cX11_element 26 = .ok (.ifnull 15, 3) := dk_198 (a := 0) (b := 15) (dkn dmcX11_element (by decide +kernel)) rfl
theorem dX11_element_29 : decode cX11_element 29 = .ok (.iload_n 2, 1) := dk_28 (dkn dmcX11_element (by decide +kernel))
theorem dX11_element_30 : decode cX11_element 30 = .ok (.ifCond .lt 11, 3) := dk_155 (a := 0) (b := 11) (dkn dmcX11_element (by decide +kernel)) rfl
theorem dX11_element_33 : decode cX11_element 33 = .ok (.iload_n 2, 1) := dk_28 (dkn dmcX11_element (by decide +kernel))
theorem dX11_element_34 : decode cX11_element 34 = .ok (.aload_n 3, 1) := dk_45 (dkn dmcX11_element (by decide +kernel))
theorem dX11_element_35 : decode cX11_element 35 = .ok (.invokevirtual 316, 3) := dk_182 (a := 1) (b := 60) (dkn dmcX11_element (by decide +kernel)) rfl
theorem dX11_element_38 : decode cX11_element 38 = .ok (.if_icmp .lt 14, 3) := dk_161 (a := 0) (b := 14) (dkn dmcX11_element (by decide +kernel)) rfl
theorem dX11_element_41 : decode cX11_element 41 = .ok (.new 182, 3) := dk_187 (a := 0) (b := 182) (dkn dmcX11_element (by decide +kernel)) rfl
theorem dX11_element_44 : decode cX11_element 44 = .ok (.dup, 1) := dk_89 (dkn dmcX11_element (by decide +kernel))
theorem dX11_element_45 : decode cX11_element 45 = .ok (.ldc_w 319, 3) := by decide +kernel
theorem dX11_element_48 : decode cX11_element 48 = .ok (.invokespecial 186, 3) := dk_183 (a := 0) (b := 186) (dkn dmcX11_element (by decide +kernel)) rfl
theorem dX11_element_51 : decode cX11_element 51 = .ok (.athrow, 1) := dk_191 (dkn dmcX11_element (by decide +kernel))
theorem dX11_element_52 : decode cX11_element 52 = .ok (.aload_n 3, 1) := dk_45 (dkn dmcX11_element (by decide +kernel))
theorem dX11_element_53 : decode cX11_element 53 = .ok (.iload_n 2, 1) := dk_28 (dkn dmcX11_element (by decide +kernel))
theorem dX11_element_54 : decode cX11_element 54 = .ok (.invokevirtual 321, 3) := dk_182 (a := 1) (b := 65) (dkn dmcX11_element (by decide +kernel)) rfl
theorem dX11_element_57 : decode cX11_element 57 = .ok (.ireturn, 1) := dk_172 (dkn dmcX11_element (by decide +kernel))
def dncX11_copy : Nat := 0xac05154c01b605151c061904150719acf31006009a4801b83c01b60719051504151200994801b83c01b6061905151cacf41006009a4401b606190719acf5100600c707190800c60619073a321d3a00b42a063a321b3a00b42aac0205009a2201b81d0a00992201b81b
theorem dmcX11_copy : dkc dncX11_copy 105 cX11_copy.data.toList 0 = true := by decide +kernel
theorem dX11_copy_0 : decode cX11_copy 0 = .ok (.iload_n 1, 1) := dk_27 (dkn dmcX11_copy (by decide +kernel))
theorem dX11_copy_1 : decode cX11_copy 1 = .ok (.invokestatic 290, 3) := dk_184 (a := 1) (b := 34) (dkn dmcX11_copy (by decide +kernel)) rfl
theorem dX11_copy_4 : decode cX11_copy 4 = .ok (.ifCond .eq 10, 3) := dk_153 (a := 0) (b := 10) (dkn dmcX11_copy (by decide +kernel)) rfl
theorem dX11_copy_7 : decode cX11_copy 7 = .ok (.iload_n 3, 1) := dk_29 (dkn dmcX11_copy (by decide +kernel))
theorem dX11_copy_8 : decode cX11_copy 8 = .ok (.invokestatic 290, 3) := dk_184 (a := 1) (b := 34) (dkn dmcX11_copy (by decide +kernel)) rfl
theorem dX11_copy_11 : decode cX11_copy 11 = .ok (.ifCond .ne 5, 3) := dk_154 (a := 0) (b := 5) (dkn dmcX11_copy (by decide +kernel)) rfl
theorem dX11_copy_14 : decode cX11_copy 14 = .ok (.iconst (-1), 1) := dk_2 (dkn dmcX11_copy (by decide +kernel))
theorem dX11_copy_15 : decode cX11_copy 15 = .ok (.ireturn, 1) := dk_172 (dkn dmcX11_copy (by decide +kernel))
theorem dX11_copy_16 : decode cX11_copy 16 = .ok (.aload_n 0, 1) := dk_42 (dkn dmcX11_copy (by decide +kernel))
theorem dX11_copy_17 : decode cX11_copy 17 = .ok (.getfield 58, 3) := dk_180 (a := 0) (b := 58) (dkn dmcX11_copy (by decide +kernel)) rfl
theorem dX11_copy_20 : decode cX11_copy 20 = .ok (.iload_n 1, 1) := dk_27 (dkn dmcX11_copy (by decide +kernel))
theorem dX11_copy_21 : decode cX11_copy 21 = .ok (.aaload, 1) := dk_50 (dkn dmcX11_copy (by decide +kernel))
theorem dX11_copy_22 : decode cX11_copy 22 = .ok (.astore 6, 2) := dk_58 (dkn dmcX11_copy (by decide +kernel))
theorem dX11_copy_24 : decode cX11_copy 24 = .ok (.aload_n 0, 1) := dk_42 (dkn dmcX11_copy (by decide +kernel))
theorem dX11_copy_25 : decode cX11_copy 25 = .ok (.getfield 58, 3) := dk_180 (a := 0) (b := 58) (dkn dmcX11_copy (by decide +kernel)) rfl
theorem dX11_copy_28 : decode cX11_copy 28 = .ok (.iload_n 3, 1) := dk_29 (dkn dmcX11_copy (by decide +kernel))
theorem dX11_copy_29 : decode cX11_copy 29 = .ok (.aaload, 1) := dk_50 (dkn dmcX11_copy (by decide +kernel))
theorem dX11_copy_30 : decode cX11_copy 30 = .ok (.astore 7, 2) := dk_58 (dkn dmcX11_copy (by decide +kernel))
theorem dX11_copy_32 : decode cX11_copy 32 = .ok (.aload 6, 2) := dk_25 (dkn dmcX11_copy (by decide +kernel))
theorem dX11_copy_34 : decode cX11_copy 34 = .ok (.ifnull 8, 3) := dk_198 (a := 0) (b := 8) (dkn dmcX11_copy (by decide +kernel)) rfl
theorem dX11_copy_37 : decode cX11_copy 37 = .ok (.aload 7, 2) := dk_25 (dkn dmcX11_copy (by decide +kernel))
theorem dX11_copy_39 : decode cX11_copy 39 = .ok (.ifnonnull 6, 3) := dk_199 (a := 0) (b := 6) (dkn dmcX11_copy (by decide +kernel)) rfl
theorem dX11_copy_42 : decode cX11_copy 42 = .ok (.bipush (-11), 2) := dk_16 (a := 245) (dkn dmcX11_copy (by decide +kernel)) rfl
theorem dX11_copy_44 : decode cX11_copy 44 = .ok (.ireturn, 1) := dk_172 (dkn dmcX11_copy (by decide +kernel))
theorem dX11_copy_45 : decode cX11_copy 45 = .ok (.aload 7, 2) := dk_25 (dkn dmcX11_copy (by decide +kernel))
theorem dX11_copy_47 : decode cX11_copy 47 = .ok (.aload 6, 2) := dk_25 (dkn dmcX11_copy (by decide +kernel))
theorem dX11_copy_49 : decode cX11_copy 49 = .ok (.invokevirtual 324, 3) := dk_182 (a := 1) (b := 68) (dkn dmcX11_copy (by decide +kernel)) rfl
theorem dX11_copy_52 : decode cX11_copy 52 = .ok (.ifCond .ne 6, 3) := dk_154 (a := 0) (b := 6) (dkn dmcX11_copy (by decide +kernel)) rfl
theorem dX11_copy_55 : decode cX11_copy 55 = .ok (.bipush (-12), 2) := dk_16 (a := 244) (dkn dmcX11_copy (by decide +kernel)) rfl
theorem dX11_copy_57 : decode cX11_copy 57 = .ok (.ireturn, 1) := dk_172 (dkn dmcX11_copy (by decide +kernel))
theorem dX11_copy_58 : decode cX11_copy 58 = .ok (.iload_n 2, 1) := dk_28 (dkn dmcX11_copy (by decide +kernel))
theorem dX11_copy_59 : decode cX11_copy 59 = .ok (.iload 5, 2) := dk_21 (dkn dmcX11_copy (by decide +kernel))
theorem dX11_copy_61 : decode cX11_copy 61 = .ok (.aload 6, 2) := dk_25 (dkn dmcX11_copy (by decide +kernel))
theorem dX11_copy_63 : decode cX11_copy 63 = .ok (.invokevirtual 316, 3) := dk_182 (a := 1) (b := 60) (dkn dmcX11_copy (by decide +kernel)) rfl
theorem dX11_copy_66 : decode cX11_copy 66 = .ok (.invokestatic 328, 3) := dk_184 (a := 1) (b := 72) (dkn dmcX11_copy (by decide +kernel)) rfl
theorem dX11_copy_69 : decode cX11_copy 69 = .ok (.ifCond .eq 18, 3) := dk_153 (a := 0) (b := 18) (dkn dmcX11_copy (by decide +kernel)) rfl
theorem dX11_copy_72 : decode cX11_copy 72 = .ok (.iload 4, 2) := dk_21 (dkn dmcX11_copy (by decide +kernel))
theorem dX11_copy_74 : decode cX11_copy 74 = .ok (.iload 5, 2) := dk_21 (dkn dmcX11_copy (by decide +kernel))
theorem dX11_copy_76 : decode cX11_copy 76 = .ok (.aload 7, 2) := dk_25 (dkn dmcX11_copy (by decide +kernel))
theorem dX11_copy_78 : decode cX11_copy 78 = .ok (.invokevirtual 316, 3) := dk_182 (a := 1) (b := 60) (dkn dmcX11_copy (by decide +kernel)) rfl
theorem dX11_copy_81 : decode cX11_copy 81 = .ok (.invokestatic 328, 3) := dk_184 (a := 1) (b := 72) (dkn dmcX11_copy (by decide +kernel)) rfl
theorem dX11_copy_84 : decode cX11_copy 84 = .ok (.ifCond .ne 6, 3) := dk_154 (a := 0) (b := 6) (dkn dmcX11_copy (by decide +kernel)) rfl
theorem dX11_copy_87 : decode cX11_copy 87 = .ok (.bipush (-13), 2) := dk_16 (a := 243) (dkn dmcX11_copy (by decide +kernel)) rfl
theorem dX11_copy_89 : decode cX11_copy 89 = .ok (.ireturn, 1) := dk_172 (dkn dmcX11_copy (by decide +kernel))
theorem dX11_copy_90 : decode cX11_copy 90 = .ok (.aload 7, 2) := dk_25 (dkn dmcX11_copy (by decide +kernel))
theorem dX11_copy_92 : decode cX11_copy 92 = .ok (.iload 4, 2) := dk_21 (dkn dmcX11_copy (by decide +kernel))
theorem dX11_copy_94 : decode cX11_copy 94 = .ok (.aload 6, 2) := dk_25 (dkn dmcX11_copy (by decide +kernel))
theorem dX11_copy_96 : decode cX11_copy 96 = .ok (.iload_n 2, 1) := dk_28 (dkn dmcX11_copy (by decide +kernel))
theorem dX11_copy_97 : decode cX11_copy 97 = .ok (.iload 5, 2) := dk_21 (dkn dmcX11_copy (by decide +kernel))
theorem dX11_copy_99 : decode cX11_copy 99 = .ok (.invokevirtual 332, 3) := dk_182 (a := 1) (b := 76) (dkn dmcX11_copy (by decide +kernel)) rfl
theorem dX11_copy_102 : decode cX11_copy 102 = .ok (.iload 5, 2) := dk_21 (dkn dmcX11_copy (by decide +kernel))
theorem dX11_copy_104 : decode cX11_copy 104 = .ok (.ireturn, 1) := dk_172 (dkn dmcX11_copy (by decide +kernel))
def dncX11_weight : Nat := 0xacf4100500a75401b62c0a00995001b62cacf5100600c72c4d321b3a00b42aac0205009a2201b81b
theorem dmcX11_weight : dkc dncX11_weight 40 cX11_weight.data.toList 0 = true := by decide +kernel
theorem dX11_weight_0 : decode cX11_weight 0 = .ok (.iload_n 1, 1) := dk_27 (dkn dmcX11_weight (by decide +kernel))
theorem dX11_weight_1 : decode cX11_weight 1 = .ok (.invokestatic 290, 3) := dk_184 (a := 1) (b := 34) (dkn dmcX11_weight (by decide +kernel)) rfl
theorem dX11_weight_4 : decode cX11_weight 4 = .ok (.ifCond .ne 5, 3) := dk_154 (a := 0) (b := 5) (dkn dmcX11_weight (by decide +kernel)) rfl
theorem dX11_weight_7 : decode cX11_weight 7 = .ok (.iconst (-1), 1) := dk_2 (dkn dmcX11_weight (by decide +kernel))
theorem dX11_weight_8 : decode cX11_weight 8 = .ok (.ireturn, 1) := dk_172 (dkn dmcX11_weight (by decide +kernel))
theorem dX11_weight_9 : decode cX11_weight 9 = .ok (.aload_n 0, 1) := dk_42 (dkn dmcX11_weight (by decide +kernel))
theorem dX11_weight_10 : decode cX11_weight 10 = .ok (.getfield 58, 3) := dk_180 (a := 0) (b := 58) (dkn dmcX11_weight (by decide +kernel)) rfl
theorem dX11_weight_13 : decode cX11_weight 13 = .ok (.iload_n 1, 1) := dk_27 (dkn dmcX11_weight (by decide +kernel))
theorem dX11_weight_14 : decode cX11_weight 14 = .ok (.aaload, 1) := dk_50 (dkn dmcX11_weight (by decide +kernel))
theorem dX11_weight_15 : decode cX11_weight 15 = .ok (.astore_n 2, 1) := dk_77 (dkn dmcX11_weight (by decide +kernel))
theorem dX11_weight_16 : decode cX11_weight 16 = .ok (.aload_n 2, 1) := dk_44 (dkn dmcX11_weight (by decide +kernel))
theorem dX11_weight_17 : decode cX11_weight 17 = .ok (.ifnonnull 6, 3) := dk_199 (a := 0) (b := 6) (dkn dmcX11_weight (by decide +kernel)) rfl
theorem dX11_weight_20 : decode cX11_weight 20 = .ok (.bipush (-11), 2) := dk_16 (a := 245) (dkn dmcX11_weight (by decide +kernel)) rfl
theorem dX11_weight_22 : decode cX11_weight 22 = .ok (.ireturn, 1) := dk_172 (dkn dmcX11_weight (by decide +kernel))
theorem dX11_weight_23 : decode cX11_weight 23 = .ok (.aload_n 2, 1) := dk_44 (dkn dmcX11_weight (by decide +kernel))
theorem dX11_weight_24 : decode cX11_weight 24 = .ok (.invokevirtual 336, 3) := dk_182 (a := 1) (b := 80) (dkn dmcX11_weight (by decide +kernel)) rfl
theorem dX11_weight_27 : decode cX11_weight 27 = .ok (.ifCond .eq 10, 3) := dk_153 (a := 0) (b := 10) (dkn dmcX11_weight (by decide +kernel)) rfl
theorem dX11_weight_30 : decode cX11_weight 30 = .ok (.aload_n 2, 1) := dk_44 (dkn dmcX11_weight (by decide +kernel))
theorem dX11_weight_31 : decode cX11_weight 31 = .ok (.invokevirtual 340, 3) := dk_182 (a := 1) (b := 84) (dkn dmcX11_weight (by decide +kernel)) rfl
theorem dX11_weight_34 : decode cX11_weight 34 = .ok (.goto 5, 3) := dk_167 (a := 0) (b := 5) (dkn dmcX11_weight (by decide +kernel)) rfl
theorem dX11_weight_37 : decode cX11_weight 37 = .ok (.bipush (-12), 2) := dk_16 (a := 244) (dkn dmcX11_weight (by decide +kernel)) rfl
theorem dX11_weight_39 : decode cX11_weight 39 = .ok (.ireturn, 1) := dk_172 (dkn dmcX11_weight (by decide +kernel))
def dncX11_toss : Nat := 0xacf4100500a75701b82c0a00995001b62cacf5100600c72c4d321b3a00b42aac0205009a2201b81b
theorem dmcX11_toss : dkc dncX11_toss 40 cX11_toss.data.toList 0 = true := by decide +kernel
theorem dX11_toss_0 : decode cX11_toss 0 = .ok (.iload_n 1, 1) := dk_27 (dkn dmcX11_toss (by decide +kernel))
theorem dX11_toss_1 : decode cX11_toss 1 = .ok (.invokestatic 290, 3) := dk_184 (a := 1) (b := 34) (dkn dmcX11_toss (by decide +kernel)) rfl
theorem dX11_toss_4 : decode cX11_toss 4 = .ok (.ifCond .ne 5, 3) := dk_154 (a := 0) (b := 5) (dkn dmcX11_toss (by decide +kernel)) rfl
theorem dX11_toss_7 : decode cX11_toss 7 = .ok (.iconst (-1), 1) := dk_2 (dkn dmcX11_toss (by decide +kernel))
theorem dX11_toss_8 : decode cX11_toss 8 = .ok (.ireturn, 1) := dk_172 (dkn dmcX11_toss (by decide +kernel))
theorem dX11_toss_9 : decode cX11_toss 9 = .ok (.aload_n 0, 1) := dk_42 (dkn dmcX11_toss (by decide +kernel))
theorem dX11_toss_10 : decode cX11_toss 10 = .ok (.getfield 58, 3) := dk_180 (a := 0) (b := 58) (dkn dmcX11_toss (by decide +kernel)) rfl
theorem dX11_toss_13 : decode cX11_toss 13 = .ok (.iload_n 1, 1) := dk_27 (dkn dmcX11_toss (by decide +kernel))
theorem dX11_toss_14 : decode cX11_toss 14 = .ok (.aaload, 1) := dk_50 (dkn dmcX11_toss (by decide +kernel))
theorem dX11_toss_15 : decode cX11_toss 15 = .ok (.astore_n 2, 1) := dk_77 (dkn dmcX11_toss (by decide +kernel))
theorem dX11_toss_16 : decode cX11_toss 16 = .ok (.aload_n 2, 1) := dk_44 (dkn dmcX11_toss (by decide +kernel))
theorem dX11_toss_17 : decode cX11_toss 17 = .ok (.ifnonnull 6, 3) := dk_199 (a := 0) (b := 6) (dkn dmcX11_toss (by decide +kernel)) rfl
theorem dX11_toss_20 : decode cX11_toss 20 = .ok (.bipush (-11), 2) := dk_16 (a := 245) (dkn dmcX11_toss (by decide +kernel)) rfl
theorem dX11_toss_22 : decode cX11_toss 22 = .ok (.ireturn, 1) := dk_172 (dkn dmcX11_toss (by decide +kernel))
theorem dX11_toss_23 : decode cX11_toss 23 = .ok (.aload_n 2, 1) := dk_44 (dkn dmcX11_toss (by decide +kernel))
theorem dX11_toss_24 : decode cX11_toss 24 = .ok (.invokevirtual 336, 3) := dk_182 (a := 1) (b := 80) (dkn dmcX11_toss (by decide +kernel)) rfl
theorem dX11_toss_27 : decode cX11_toss 27 = .ok (.ifCond .eq 10, 3) := dk_153 (a := 0) (b := 10) (dkn dmcX11_toss (by decide +kernel)) rfl
theorem dX11_toss_30 : decode cX11_toss 30 = .ok (.aload_n 2, 1) := dk_44 (dkn dmcX11_toss (by decide +kernel))
theorem dX11_toss_31 : decode cX11_toss 31 = .ok (.invokestatic 343, 3) := dk_184 (a := 1) (b := 87) (dkn dmcX11_toss (by decide +kernel)) rfl
theorem dX11_toss_34 : decode cX11_toss 34 = .ok (.goto 5, 3) := dk_167 (a := 0) (b := 5) (dkn dmcX11_toss (by decide +kernel)) rfl
theorem dX11_toss_37 : decode cX11_toss 37 = .ok (.bipush (-12), 2) := dk_16 (a := 244) (dkn dmcX11_toss (by decide +kernel)) rfl
theorem dX11_toss_39 : decode cX11_toss 39 = .ok (.ireturn, 1) := dk_172 (dkn dmcX11_toss (by decide +kernel))
theorem dX11_caughtFrom_0 : decode cX11_caughtFrom 0 = .ok (.aload_n 0, 1) := dk_42 (by decide +kernel)
theorem dX11_caughtFrom_1 : decode cX11_caughtFrom 1 = .ok (.invokevirtual 347, 3) := dk_182 (a := 1) (b := 91) (by decide +kernel) rfl
theorem dX11_caughtFrom_4 : decode cX11_caughtFrom 4 = .ok (.goto 13, 3) := dk_167 (a := 0) (b := 13) (by decide +kernel) rfl
theorem dX11_caughtFrom_7 : decode cX11_caughtFrom 7 = .ok (.astore_n 1, 1) := dk_76 (by decide +kernel)
theorem dX11_caughtFrom_8 : decode cX11_caughtFrom 8 = .ok (.bipush (-15), 2) := dk_16 (a := 241) (by decide +kernel) rfl
theorem dX11_caughtFrom_10 : decode cX11_caughtFrom 10 = .ok (.ireturn, 1) := dk_172 (by decide +kernel)
theorem dX11_caughtFrom_11 : decode cX11_caughtFrom 11 = .ok (.astore_n 1, 1) := dk_76 (by decide +kernel)
theorem dX11_caughtFrom_12 : decode cX11_caughtFrom 12 = .ok (.aload_n 0, 1) := dk_42 (by decide +kernel)
theorem dX11_caughtFrom_13 : decode cX11_caughtFrom 13 = .ok (.getfield 352, 3) := dk_180 (a := 1) (b := 96) (by decide +kernel) rfl
theorem dX11_caughtFrom_16 : decode cX11_caughtFrom 16 = .ok (.ireturn, 1) := dk_172 (by decide +kernel)
theorem dX11_caughtFrom_17 : decode cX11_caughtFrom 17 = .ok (.bipush (-15), 2) := dk_16 (a := 241) (by decide +kernel) rfl
theorem dX11_caughtFrom_19 : decode cX11_caughtFrom 19 = .ok (.ireturn, 1) := dk_172 (by decide +kernel)
def dncX11_threadsOfFirstSteps : Nat := 0xb03201b72c593001bbe8ffa701038454912e60041d9a00b42200b42a1d2c1800a2be2c1d3e034d08bc6e01b8031b3c6901b83c107800b42200b42a
theorem dmcX11_threadsOfFirstSteps : dkc dncX11_threadsOfFirstSteps 59 cX11_threadsOfFirstSteps.data.toList 0 = true := by decide +kernel
theorem dX11_threadsOfFirstSteps_0 : decode cX11_threadsOfFirstSteps 0 = .ok (.aload_n 0, 1) := dk_42 (dkn dmcX11_threadsOfFirstSteps (by decide +kernel))
theorem dX11_threadsOfFirstSteps_1 : decode cX11_threadsOfFirstSteps 1 = .ok (.getfield 34, 3) := dk_180 (a := 0) (b := 34) (dkn dmcX11_threadsOfFirstSteps (by decide +kernel)) rfl
theorem dX11_threadsOfFirstSteps_4 : decode cX11_threadsOfFirstSteps 4 = .ok (.getfield 120, 3) := dk_180 (a := 0) (b := 120) (dkn dmcX11_threadsOfFirstSteps (by decide +kernel)) rfl
theorem dX11_threadsOfFirstSteps_7 : decode cX11_threadsOfFirstSteps 7 = .ok (.bipush 60, 2) := dk_16 (a := 60) (dkn dmcX11_threadsOfFirstSteps (by decide +kernel)) rfl
theorem dX11_threadsOfFirstSteps_9 : decode cX11_threadsOfFirstSteps 9 = .ok (.invokestatic 361, 3) := dk_184 (a := 1) (b := 105) (dkn dmcX11_threadsOfFirstSteps (by decide +kernel)) rfl
theorem dX11_threadsOfFirstSteps_12 : decode cX11_threadsOfFirstSteps 12 = .ok (.istore_n 1, 1) := dk_60 (dkn dmcX11_threadsOfFirstSteps (by decide +kernel))
theorem dX11_threadsOfFirstSteps_13 : decode cX11_threadsOfFirstSteps 13 = .ok (.iload_n 1, 1) := dk_27 (dkn dmcX11_threadsOfFirstSteps (by decide +kernel))
theorem dX11_threadsOfFirstSteps_14 : decode cX11_threadsOfFirstSteps 14 = .ok (.iconst 0, 1) := dk_3 (dkn dmcX11_threadsOfFirstSteps (by decide +kernel))
theorem dX11_threadsOfFirstSteps_15 : decode cX11_threadsOfFirstSteps 15 = .ok (.invokestatic 366, 3) := dk_184 (a := 1) (b := 110) (dkn dmcX11_threadsOfFirstSteps (by decide +kernel)) rfl
theorem dX11_threadsOfFirstSteps_18 : decode cX11_threadsOfFirstSteps 18 = .ok (.newarray .byte, 2) := by decide +kernel
theorem dX11_threadsOfFirstSteps_20 : decode cX11_threadsOfFirstSteps 20 = .ok (.astore_n 2, 1) := dk_77 (dkn dmcX11_threadsOfFirstSteps (by decide +kernel))
theorem dX11_threadsOfFirstSteps_21 : decode cX11_threadsOfFirstSteps 21 = .ok (.iconst 0, 1) := dk_3 (dkn dmcX11_threadsOfFirstSteps (by decide +kernel))
theorem dX11_threadsOfFirstSteps_22 : decode cX11_threadsOfFirstSteps 22 = .ok (.istore_n 3, 1) := dk_62 (dkn dmcX11_threadsOfFirstSteps (by decide +kernel))
theorem dX11_threadsOfFirstSteps_23 : decode cX11_threadsOfFirstSteps 23 = .ok (.iload_n 3, 1) := dk_29 (dkn dmcX11_threadsOfFirstSteps (by decide +kernel))
theorem dX11_threadsOfFirstSteps_24 : decode cX11_threadsOfFirstSteps 24 = .ok (.aload_n 2, 1) := dk_44 (dkn dmcX11_threadsOfFirstSteps (by decide +kernel))
theorem dX11_threadsOfFirstSteps_25 : decode cX11_threadsOfFirstSteps 25 = .ok (.arraylength, 1) := dk_190 (dkn dmcX11_threadsOfFirstSteps (by decide +kernel))
theorem dX11_threadsOfFirstSteps_26 : decode cX11_threadsOfFirstSteps 26 = .ok (.if_icmp .ge 24, 3) := dk_162 (a := 0) (b := 24) (dkn dmcX11_threadsOfFirstSteps (by decide +kernel)) rfl
theorem dX11_threadsOfFirstSteps_29 : decode cX11_threadsOfFirstSteps 29 = .ok (.aload_n 2, 1) := dk_44 (dkn dmcX11_threadsOfFirstSteps (by decide +kernel))
theorem dX11_threadsOfFirstSteps_30 : decode cX11_threadsOfFirstSteps 30 = .ok (.iload_n 3, 1) := dk_29 (dkn dmcX11_threadsOfFirstSteps (by decide +kernel))
theorem dX11_threadsOfFirstSteps_31 : decode cX11_threadsOfFirstSteps 31 = .ok (.aload_n 0, 1) := dk_42 (dkn dmcX11_threadsOfFirstSteps (by decide +kernel))
theorem dX11_threadsOfFirstSteps_32 : decode cX11_threadsOfFirstSteps 32 = .ok (.getfield 34, 3) := dk_180 (a := 0) (b := 34) (dkn dmcX11_threadsOfFirstSteps (by decide +kernel)) rfl
theorem dX11_threadsOfFirstSteps_35 : decode cX11_threadsOfFirstSteps 35 = .ok (.getfield 154, 3) := dk_180 (a := 0) (b := 154) (dkn dmcX11_threadsOfFirstSteps (by decide +kernel)) rfl
theorem dX11_threadsOfFirstSteps_38 : decode cX11_threadsOfFirstSteps 38 = .ok (.iload_n 3, 1) := dk_29 (dkn dmcX11_threadsOfFirstSteps (by decide +kernel))
theorem dX11_threadsOfFirstSteps_39 : decode cX11_threadsOfFirstSteps 39 = .ok (.iconst 1, 1) := dk_4 (dkn dmcX11_threadsOfFirstSteps (by decide +kernel))
theorem dX11_threadsOfFirstSteps_40 : decode cX11_threadsOfFirstSteps 40 = .ok (.iadd, 1) := dk_96 (dkn dmcX11_threadsOfFirstSteps (by decide +kernel))
theorem dX11_threadsOfFirstSteps_41 : decode cX11_threadsOfFirstSteps 41 = .ok (.iaload, 1) := dk_46 (dkn dmcX11_threadsOfFirstSteps (by decide +kernel))
theorem dX11_threadsOfFirstSteps_42 : decode cX11_threadsOfFirstSteps 42 = .ok (.i2b, 1) := by decide +kernel
theorem dX11_threadsOfFirstSteps_43 : decode cX11_threadsOfFirstSteps 43 = .ok (.bastore, 1) := dk_84 (dkn dmcX11_threadsOfFirstSteps (by decide +kernel))
theorem dX11_threadsOfFirstSteps_44 : decode cX11_threadsOfFirstSteps 44 = .ok (.iinc 3 1, 3) := dk_132 (b := 1) (dkn dmcX11_threadsOfFirstSteps (by decide +kernel)) rfl
theorem dX11_threadsOfFirstSteps_47 : decode cX11_threadsOfFirstSteps 47 = .ok (.goto (-24), 3) := dk_167 (a := 255) (b := 232) (dkn dmcX11_threadsOfFirstSteps (by decide +kernel)) rfl
theorem dX11_threadsOfFirstSteps_50 : decode cX11_threadsOfFirstSteps 50 = .ok (.new 304, 3) := dk_187 (a := 1) (b := 48) (dkn dmcX11_threadsOfFirstSteps (by decide +kernel)) rfl
theorem dX11_threadsOfFirstSteps_53 : decode cX11_threadsOfFirstSteps 53 = .ok (.dup, 1) := dk_89 (dkn dmcX11_threadsOfFirstSteps (by decide +kernel))
theorem dX11_threadsOfFirstSteps_54 : decode cX11_threadsOfFirstSteps 54 = .ok (.aload_n 2, 1) := dk_44 (dkn dmcX11_threadsOfFirstSteps (by decide +kernel))
theorem dX11_threadsOfFirstSteps_55 : decode cX11_threadsOfFirstSteps 55 = .ok (.invokespecial 306, 3) := dk_183 (a := 1) (b := 50) (dkn dmcX11_threadsOfFirstSteps (by decide +kernel)) rfl
theorem dX11_threadsOfFirstSteps_58 : decode cX11_threadsOfFirstSteps 58 = .ok (.areturn, 1) := dk_176 (dkn dmcX11_threadsOfFirstSteps (by decide +kernel))
def dncX11_numbersOfCells : Nat := 0xb03701b72c593501bbe1ffa70103844f030400a72e1dcf00b42b0c009a2e1dcc00b42b1d2c1f00a20c101d3e034d0abc0c104cc800b67800b42200b42a2a
theorem dmcX11_numbersOfCells : dkc dncX11_numbersOfCells 62 cX11_numbersOfCells.data.toList 0 = true := by decide +kernel
theorem dX11_numbersOfCells_0 : decode cX11_numbersOfCells 0 = .ok (.aload_n 0, 1) := dk_42 (dkn dmcX11_numbersOfCells (by decide +kernel))
theorem dX11_numbersOfCells_1 : decode cX11_numbersOfCells 1 = .ok (.aload_n 0, 1) := dk_42 (dkn dmcX11_numbersOfCells (by decide +kernel))
theorem dX11_numbersOfCells_2 : decode cX11_numbersOfCells 2 = .ok (.getfield 34, 3) := dk_180 (a := 0) (b := 34) (dkn dmcX11_numbersOfCells (by decide +kernel)) rfl
theorem dX11_numbersOfCells_5 : decode cX11_numbersOfCells 5 = .ok (.getfield 120, 3) := dk_180 (a := 0) (b := 120) (dkn dmcX11_numbersOfCells (by decide +kernel)) rfl
theorem dX11_numbersOfCells_8 : decode cX11_numbersOfCells 8 = .ok (.invokevirtual 200, 3) := dk_182 (a := 0) (b := 200) (dkn dmcX11_numbersOfCells (by decide +kernel)) rfl
theorem dX11_numbersOfCells_11 : decode cX11_numbersOfCells 11 = .ok (.astore_n 1, 1) := dk_76 (dkn dmcX11_numbersOfCells (by decide +kernel))
theorem dX11_numbersOfCells_12 : decode cX11_numbersOfCells 12 = .ok (.bipush 12, 2) := dk_16 (a := 12) (dkn dmcX11_numbersOfCells (by decide +kernel)) rfl
theorem dX11_numbersOfCells_14 : decode cX11_numbersOfCells 14 = .ok (.newarray .int, 2) := by decide +kernel
theorem dX11_numbersOfCells_16 : decode cX11_numbersOfCells 16 = .ok (.astore_n 2, 1) := dk_77 (dkn dmcX11_numbersOfCells (by decide +kernel))
theorem dX11_numbersOfCells_17 : decode cX11_numbersOfCells 17 = .ok (.iconst 0, 1) := dk_3 (dkn dmcX11_numbersOfCells (by decide +kernel))
theorem dX11_numbersOfCells_18 : decode cX11_numbersOfCells 18 = .ok (.istore_n 3, 1) := dk_62 (dkn dmcX11_numbersOfCells (by decide +kernel))
theorem dX11_numbersOfCells_19 : decode cX11_numbersOfCells 19 = .ok (.iload_n 3, 1) := dk_29 (dkn dmcX11_numbersOfCells (by decide +kernel))
theorem dX11_numbersOfCells_20 : decode cX11_numbersOfCells 20 = .ok (.bipush 12, 2) := dk_16 (a := 12) (dkn dmcX11_numbersOfCells (by decide +kernel)) rfl
theorem dX11_numbersOfCells_22 : decode cX11_numbersOfCells 22 = .ok (.if_icmp .ge 31, 3) := dk_162 (a := 0) (b := 31) (dkn dmcX11_numbersOfCells (by decide +kernel)) rfl
theorem dX11_numbersOfCells_25 : decode cX11_numbersOfCells 25 = .ok (.aload_n 2, 1) := dk_44 (dkn dmcX11_numbersOfCells (by decide +kernel))
theorem dX11_numbersOfCells_26 : decode cX11_numbersOfCells 26 = .ok (.iload_n 3, 1) := dk_29 (dkn dmcX11_numbersOfCells (by decide +kernel))
theorem dX11_numbersOfCells_27 : decode cX11_numbersOfCells 27 = .ok (.aload_n 1, 1) := dk_43 (dkn dmcX11_numbersOfCells (by decide +kernel))
theorem dX11_numbersOfCells_28 : decode cX11_numbersOfCells 28 = .ok (.getfield 204, 3) := dk_180 (a := 0) (b := 204) (dkn dmcX11_numbersOfCells (by decide +kernel)) rfl
theorem dX11_numbersOfCells_31 : decode cX11_numbersOfCells 31 = .ok (.iload_n 3, 1) := dk_29 (dkn dmcX11_numbersOfCells (by decide +kernel))
theorem dX11_numbersOfCells_32 : decode cX11_numbersOfCells 32 = .ok (.iaload, 1) := dk_46 (dkn dmcX11_numbersOfCells (by decide +kernel))
theorem dX11_numbersOfCells_33 : decode cX11_numbersOfCells 33 = .ok (.ifCond .ne 12, 3) := dk_154 (a := 0) (b := 12) (dkn dmcX11_numbersOfCells (by decide +kernel)) rfl
theorem dX11_numbersOfCells_36 : decode cX11_numbersOfCells 36 = .ok (.aload_n 1, 1) := dk_43 (dkn dmcX11_numbersOfCells (by decide +kernel))
theorem dX11_numbersOfCells_37 : decode cX11_numbersOfCells 37 = .ok (.getfield 207, 3) := dk_180 (a := 0) (b := 207) (dkn dmcX11_numbersOfCells (by decide +kernel)) rfl
theorem dX11_numbersOfCells_40 : decode cX11_numbersOfCells 40 = .ok (.iload_n 3, 1) := dk_29 (dkn dmcX11_numbersOfCells (by decide +kernel))
theorem dX11_numbersOfCells_41 : decode cX11_numbersOfCells 41 = .ok (.iaload, 1) := dk_46 (dkn dmcX11_numbersOfCells (by decide +kernel))
theorem dX11_numbersOfCells_42 : decode cX11_numbersOfCells 42 = .ok (.goto 4, 3) := dk_167 (a := 0) (b := 4) (dkn dmcX11_numbersOfCells (by decide +kernel)) rfl
theorem dX11_numbersOfCells_45 : decode cX11_numbersOfCells 45 = .ok (.iconst 0, 1) := dk_3 (dkn dmcX11_numbersOfCells (by decide +kernel))
theorem dX11_numbersOfCells_46 : decode cX11_numbersOfCells 46 = .ok (.iastore, 1) := dk_79 (dkn dmcX11_numbersOfCells (by decide +kernel))
theorem dX11_numbersOfCells_47 : decode cX11_numbersOfCells 47 = .ok (.iinc 3 1, 3) := dk_132 (b := 1) (dkn dmcX11_numbersOfCells (by decide +kernel)) rfl
theorem dX11_numbersOfCells_50 : decode cX11_numbersOfCells 50 = .ok (.goto (-31), 3) := dk_167 (a := 255) (b := 225) (dkn dmcX11_numbersOfCells (by decide +kernel)) rfl
theorem dX11_numbersOfCells_53 : decode cX11_numbersOfCells 53 = .ok (.new 309, 3) := dk_187 (a := 1) (b := 53) (dkn dmcX11_numbersOfCells (by decide +kernel)) rfl
theorem dX11_numbersOfCells_56 : decode cX11_numbersOfCells 56 = .ok (.dup, 1) := dk_89 (dkn dmcX11_numbersOfCells (by decide +kernel))
theorem dX11_numbersOfCells_57 : decode cX11_numbersOfCells 57 = .ok (.aload_n 2, 1) := dk_44 (dkn dmcX11_numbersOfCells (by decide +kernel))
theorem dX11_numbersOfCells_58 : decode cX11_numbersOfCells 58 = .ok (.invokespecial 311, 3) := dk_183 (a := 1) (b := 55) (dkn dmcX11_numbersOfCells (by decide +kernel)) rfl
theorem dX11_numbersOfCells_61 : decode cX11_numbersOfCells 61 = .ok (.areturn, 1) := dk_176 (dkn dmcX11_numbersOfCells (by decide +kernel))
def dncX12_init : Nat := 0xb1a100b50abc3c102a9e00b50abce001112a9b00b50abc08102a9800b50abc08102a9500b50abc08102a9200b50abc08102a8f00b50abc052a8c00b50abc052a8900b50abc052a8600b50abc052a8200b5fe102a7f00b504bc7e122a7b00b50abc2d01112a7800b50abc2d01112a7500b50abc1e102a7200b50abc2d01112a6f00b50abc2d01112a6c00b50abc2d01112a6900b50abc2d01112a6600b50abc2d01112a6300b50abc2d01112a6000b50abc2d01112a5d00b50abc5c122a5900b50abc1c0e112a5600b50abc1c0e112a5300b50abc1c0e112a5000b50abc2d01112a4d00b50abcb404112a4a00b50abcb404112a4700b50abcec20112a4400b50abcec20112a4100b50abcc000112a3e00b50abc0c102a3b00b50abc0c102a3800b50abc0c102a3500b50abc072a3200b50abc072a2e00b504bc072a2b00b50abc072a2800b50abc1c102a2500b50abc1c102a2200b50abc28102a1f00b50abc28102a1c00b50abc1e102a1900b50abc0c102a1600b50abc60102a1300b50abc60102a1000b50abc60102a0d00b50abc60102a0700b50abc072a0100b72a
theorem dmcX12_init : dkc dncX12_init 413 cX12_init.data.toList 0 = true := by decide +kernel
theorem dX12_init_0 : decode cX12_init 0 = .ok (.aload_n 0, 1) := dk_42 (dkn dmcX12_init (by decide +kernel))
theorem dX12_init_1 : decode cX12_init 1 = .ok (.invokespecial 1, 3) := dk_183 (a := 0) (b := 1) (dkn dmcX12_init (by decide +kernel)) rfl
theorem dX12_init_4 : decode cX12_init 4 = .ok (.aload_n 0, 1) := dk_42 (dkn dmcX12_init (by decide +kernel))
theorem dX12_init_5 : decode cX12_init 5 = .ok (.iconst 4, 1) := dk_7 (dkn dmcX12_init (by decide +kernel))
theorem dX12_init_6 : decode cX12_init 6 = .ok (.newarray .int, 2) := by decide +kernel
theorem dX12_init_8 : decode cX12_init 8 = .ok (.putfield 7, 3) := dk_181 (a := 0) (b := 7) (dkn dmcX12_init (by decide +kernel)) rfl
theorem dX12_init_11 : decode cX12_init 11 = .ok (.aload_n 0, 1) := dk_42 (dkn dmcX12_init (by decide +kernel))
theorem dX12_init_12 : decode cX12_init 12 = .ok (.bipush 96, 2) := dk_16 (a := 96) (dkn dmcX12_init (by decide +kernel)) rfl
theorem dX12_init_14 : decode cX12_init 14 = .ok (.newarray .int, 2) := by decide +kernel
theorem dX12_init_16 : decode cX12_init 16 = .ok (.putfield 13, 3) := dk_181 (a := 0) (b := 13) (dkn dmcX12_init (by decide +kernel)) rfl
theorem dX12_init_19 : decode cX12_init 19 = .ok (.aload_n 0, 1) := dk_42 (dkn dmcX12_init (by decide +kernel))
theorem dX12_init_20 : decode cX12_init 20 = .ok (.bipush 96, 2) := dk_16 (a := 96) (dkn dmcX12_init (by decide +kernel)) rfl
theorem dX12_init_22 : decode cX12_init 22 = .ok (.newarray .int, 2) := by decide +kernel
theorem dX12_init_24 : decode cX12_init 24 = .ok (.putfield 16, 3) := dk_181 (a := 0) (b := 16) (dkn dmcX12_init (by decide +kernel)) rfl
theorem dX12_init_27 : decode cX12_init 27 = .ok (.aload_n 0, 1) := dk_42 (dkn dmcX12_init (by decide +kernel))
theorem dX12_init_28 : decode cX12_init 28 = .ok (.bipush 96, 2) := dk_16 (a := 96) (dkn dmcX12_init (by decide +kernel)) rfl
theorem dX12_init_30 : decode cX12_init 30 = .ok (.newarray .int, 2) := by decide +kernel
theorem dX12_init_32 : decode cX12_init 32 = .ok (.putfield 19, 3) := dk_181 (a := 0) (b := 19) (dkn dmcX12_init (by decide +kernel)) rfl
theorem dX12_init_35 : decode cX12_init 35 = .ok (.aload_n 0, 1) := dk_42 (dkn dmcX12_init (by decide +kernel))
theorem dX12_init_36 : decode cX12_init 36 = .ok (.bipush 96, 2) := dk_16 (a := 96) (dkn dmcX12_init (by decide +kernel)) rfl
theorem dX12_init_38 : decode cX12_init 38 = .ok (.newarray .int, 2) := by decide +kernel
theorem dX12_init_40 : decode cX12_init 40 = .ok (.putfield 22, 3) := dk_181 (a := 0) (b := 22) (dkn dmcX12_init (by decide +kernel)) rfl
theorem dX12_init_43 : decode cX12_init 43 = .ok (.aload_n 0, 1) := dk_42 (dkn dmcX12_init (by decide +kernel))
theorem dX12_init_44 : decode cX12_init 44 = .ok (.bipush 12, 2) := dk_16 (a := 12) (dkn dmcX12_init (by decide +kernel)) rfl
theorem dX12_init_46 : decode cX12_init 46 = .ok (.newarray .int, 2) := by decide +kernel
theorem dX12_init_48 : decode cX12_init 48 = .ok (.putfield 25, 3) := dk_181 (a := 0) (b := 25) (dkn dmcX12_init (by decide +kernel)) rfl
theorem dX12_init_51 : decode cX12_init 51 = .ok (.aload_n 0, 1) := dk_42 (dkn dmcX12_init (by decide +kernel))
theorem dX12_init_52 : decode cX12_init 52 = .ok (.bipush 30, 2) := dk_16 (a := 30) (dkn dmcX12_init (by decide +kernel)) rfl
theorem dX12_init_54 : decode cX12_init 54 = .ok (.newarray .int, 2) := by decide +kernel
theorem dX12_init_56 : decode cX12_init 56 = .ok (.putfield 28, 3) := dk_181 (a := 0) (b := 28) (dkn dmcX12_init (by decide +kernel)) rfl
theorem dX12_init_59 : decode cX12_init 59 = .ok (.aload_n 0, 1) := dk_42 (dkn dmcX12_init (by decide +kernel))
theorem dX12_init_60 : decode cX12_init 60 = .ok (.bipush 40, 2) := dk_16 (a := 40) (dkn dmcX12_init (by decide +kernel)) rfl
theorem dX12_init_62 : decode cX12_init 62 = .ok (.newarray .int, 2) := by decide +kernel
theorem dX12_init_64 : decode cX12_init 64 = .ok (.putfield 31, 3) := dk_181 (a := 0) (b := 31) (dkn dmcX12_init (by decide +kernel)) rfl
theorem dX12_init_67 : decode cX12_init 67 = .ok (.aload_n 0, 1) := dk_42 (dkn dmcX12_init (by decide +kernel))
theorem dX12_init_68 : decode cX12_init 68 = .ok (.bipush 40, 2) := dk_16 (a := 40) (dkn dmcX12_init (by decide +kernel)) rfl
theorem dX12_init_70 : decode cX12_init 70 = .ok (.newarray .int, 2) := by decide +kernel
theorem dX12_init_72 : decode cX12_init 72 = .ok (.putfield 34, 3) := dk_181 (a := 0) (b := 34) (dkn dmcX12_init (by decide +kernel)) rfl
theorem dX12_init_75 : decode cX12_init 75 = .ok (.aload_n 0, 1) := dk_42 (dkn dmcX12_init (by decide +kernel))
theorem dX12_init_76 : decode cX12_init 76 = .ok (.bipush 28, 2) := dk_16 (a := 28) (dkn dmcX12_init (by decide +kernel)) rfl
theorem dX12_init_78 : decode cX12_init 78 = .ok (.newarray .int, 2) := by decide +kernel
theorem dX12_init_80 : decode cX12_init 80 = .ok (.putfield 37, 3) := dk_181 (a := 0) (b := 37) (dkn dmcX12_init (by decide +kernel)) rfl
theorem dX12_init_83 : decode cX12_init 83 = .ok (.aload_n 0, 1) := dk_42 (dkn dmcX12_init (by decide +kernel))
theorem dX12_init_84 : decode cX12_init 84 = .ok (.bipush 28, 2) := dk_16 (a := 28) (dkn dmcX12_init (by decide +kernel)) rfl
theorem dX12_init_86 : decode cX12_init 86 = .ok (.newarray .int, 2) := by decide +kernel
theorem dX12_init_88 : decode cX12_init 88 = .ok (.putfield 40, 3) := dk_181 (a := 0) (b := 40) (dkn dmcX12_init (by decide +kernel)) rfl
theorem dX12_init_91 : decode cX12_init 91 = .ok (.aload_n 0, 1) := dk_42 (dkn dmcX12_init (by decide +kernel))
theorem dX12_init_92 : decode cX12_init 92 = .ok (.iconst 4, 1) := dk_7 (dkn dmcX12_init (by decide +kernel))
theorem dX12_init_93 : decode cX12_init 93 = .ok (.newarray .int, 2) := by decide +kernel
theorem dX12_init_95 : decode cX12_init 95 = .ok (.putfield 43, 3) := dk_181 (a := 0) (b := 43) (dkn dmcX12_init (by decide +kernel)) rfl
theorem dX12_init_98 : decode cX12_init 98 = .ok (.aload_n 0, 1) := dk_42 (dkn dmcX12_init (by decide +kernel))
theorem dX12_init_99 : decode cX12_init 99 = .ok (.iconst 4, 1) := dk_7 (dkn dmcX12_init (by decide +kernel))
theorem dX12_init_100 : decode cX12_init 100 = .ok (.newarray .boolean, 2) := by decide +kernel
theorem dX12_init_102 : decode cX12_init 102 = .ok (.putfield 46, 3) := dk_181 (a := 0) (b := 46) (dkn dmcX12_init (by decide +kernel)) rfl
theorem dX12_init_105 : decode cX12_init 105 = .ok (.aload_n 0, 1) := dk_42 (dkn dmcX12_init (by decide +kernel))
theorem dX12_init_106 : decode cX12_init 106 = .ok (.iconst 4, 1) := dk_7 (dkn dmcX12_init (by decide +kernel))
theorem dX12_init_107 : decode cX12_init 107 = .ok (.newarray .int, 2) := by decide +kernel
theorem dX12_init_109 : decode cX12_init 109 = .ok (.putfield 50, 3) := dk_181 (a := 0) (b := 50) (dkn dmcX12_init (by decide +kernel)) rfl
theorem dX12_init_112 : decode cX12_init 112 = .ok (.aload_n 0, 1) := dk_42 (dkn dmcX12_init (by decide +kernel))
theorem dX12_init_113 : decode cX12_init 113 = .ok (.iconst 4, 1) := dk_7 (dkn dmcX12_init (by decide +kernel))
theorem dX12_init_114 : decode cX12_init 114 = .ok (.newarray .int, 2) := by decide +kernel
theorem dX12_init_116 : decode cX12_init 116 = .ok (.putfield 53, 3) := dk_181 (a := 0) (b := 53) (dkn dmcX12_init (by decide +kernel)) rfl
theorem dX12_init_119 : decode cX12_init 119 = .ok (.aload_n 0, 1) := dk_42 (dkn dmcX12_init (by decide +kernel))
theorem dX12_init_120 : decode cX12_init 120 = .ok (.bipush 12, 2) := dk_16 (a := 12) (dkn dmcX12_init (by decide +kernel)) rfl
theorem dX12_init_122 : decode cX12_init 122 = .ok (.newarray .int, 2) := by decide +kernel
theorem dX12_init_124 : decode cX12_init 124 = .ok (.putfield 56, 3) := dk_181 (a := 0) (b := 56) (dkn dmcX12_init (by decide +kernel)) rfl
theorem dX12_init_127 : decode cX12_init 127 = .ok (.aload_n 0, 1) := dk_42 (dkn dmcX12_init (by decide +kernel))
theorem dX12_init_128 : decode cX12_init 128 = .ok (.bipush 12, 2) := dk_16 (a := 12) (dkn dmcX12_init (by decide +kernel)) rfl
theorem dX12_init_130 : decode cX12_init 130 = .ok (.newarray .int, 2) := by decide +kernel
theorem dX12_init_132 : decode cX12_init 132 = .ok (.putfield 59, 3) := dk_181 (a := 0) (b := 59) (dkn dmcX12_init (by decide +kernel)) rfl
theorem dX12_init_135 : decode cX12_init 135 = .ok (.aload_n 0, 1) := dk_42 (dkn dmcX12_init (by decide +kernel))
theorem dX12_init_136 : decode cX12_init 136 = .ok (.bipush 12, 2) := dk_16 (a := 12) (dkn dmcX12_init (by decide +kernel)) rfl
theorem dX12_init_138 : decode cX12_init 138 = .ok (.newarray .int, 2) := by decide +kernel
theorem dX12_init_140 : decode cX12_init 140 = .ok (.putfield 62, 3) := dk_181 (a := 0) (b := 62) (dkn dmcX12_init (by decide +kernel)) rfl
theorem dX12_init_143 : decode cX12_init 143 = .ok (.aload_n 0, 1) := dk_42 (dkn dmcX12_init (by decide +kernel))
theorem dX12_init_144 : decode cX12_init 144 = .ok (.sipush 192, 3) := dk_17 (a := 0) (b := 192) (dkn dmcX12_init (by decide +kernel)) rfl
theorem dX12_init_147 : decode cX12_init 147 = .ok (.newarray .int, 2) := by decide +kernel
theorem dX12_init_149 : decode cX12_init 149 = .ok (.putfield 65, 3) := dk_181 (a := 0) (b := 65) (dkn dmcX12_init (by decide +kernel)) rfl
theorem dX12_init_152 : decode cX12_init 152 = .ok (.aload_n 0, 1) := dk_42 (dkn dmcX12_init (by decide +kernel))
theorem dX12_init_153 : decode cX12_init 153 = .ok (.sipush 8428, 3) := dk_17 (a := 32) (b := 236) (dkn dmcX12_init (by decide +kernel)) rfl
theorem dX12_init_156 : decode cX12_init 156 = .ok (.newarray .int, 2) := by decide +kernel
theorem dX12_init_158 : decode cX12_init 158 = .ok (.putfield 68, 3) := dk_181 (a := 0) (b := 68) (dkn dmcX12_init (by decide +kernel)) rfl
theorem dX12_init_161 : decode cX12_init 161 = .ok (.aload_n 0, 1) := dk_42 (dkn dmcX12_init (by decide +kernel))
theorem dX12_init_162 : decode cX12_init 162 = .ok (.sipush 8428, 3) := dk_17 (a := 32) (b := 236) (dkn dmcX12_init (by decide +kernel)) rfl
theorem dX12_init_165 : decode cX12_init 165 = .ok (.newarray .int, 2) := by decide +kernel
theorem dX12_init_167 : decode cX12_init 167 = .ok (.putfield 71, 3) := dk_181 (a := 0) (b := 71) (dkn dmcX12_init (by decide +kernel)) rfl
theorem dX12_init_170 : decode cX12_init 170 = .ok (.aload_n 0, 1) := dk_42 (dkn dmcX12_init (by decide +kernel))
theorem dX12_init_171 : decode cX12_init 171 = .ok (.sipush 1204, 3) := dk_17 (a := 4) (b := 180) (dkn dmcX12_init (by decide +kernel)) rfl
theorem dX12_init_174 : decode cX12_init 174 = .ok (.newarray .int, 2) := by decide +kernel
theorem dX12_init_176 : decode cX12_init 176 = .ok (.putfield 74, 3) := dk_181 (a := 0) (b := 74) (dkn dmcX12_init (by decide +kernel)) rfl
theorem dX12_init_179 : decode cX12_init 179 = .ok (.aload_n 0, 1) := dk_42 (dkn dmcX12_init (by decide +kernel))
theorem dX12_init_180 : decode cX12_init 180 = .ok (.sipush 1204, 3) := dk_17 (a := 4) (b := 180) (dkn dmcX12_init (by decide +kernel)) rfl
theorem dX12_init_183 : decode cX12_init 183 = .ok (.newarray .int, 2) := by decide +kernel
theorem dX12_init_185 : decode cX12_init 185 = .ok (.putfield 77, 3) := dk_181 (a := 0) (b := 77) (dkn dmcX12_init (by decide +kernel)) rfl
theorem dX12_init_188 : decode cX12_init 188 = .ok (.aload_n 0, 1) := dk_42 (dkn dmcX12_init (by decide +kernel))
theorem dX12_init_189 : decode cX12_init 189 = .ok (.sipush 301, 3) := dk_17 (a := 1) (b := 45) (dkn dmcX12_init (by decide +kernel)) rfl
theorem dX12_init_192 : decode cX12_init 192 = .ok (.newarray .int, 2) := by decide +kernel
theorem dX12_init_194 : decode cX12_init 194 = .ok (.putfield 80, 3) := dk_181 (a := 0) (b := 80) (dkn dmcX12_init (by decide +kernel)) rfl
theorem dX12_init_197 : decode cX12_init 197 = .ok (.aload_n 0, 1) := dk_42 (dkn dmcX12_init (by decide +kernel))
theorem dX12_init_198 : decode cX12_init 198 = .ok (.sipush 3612, 3) := dk_17 (a := 14) (b := 28) (dkn dmcX12_init (by decide +kernel)) rfl
theorem dX12_init_201 : decode cX12_init 201 = .ok (.newarray .int, 2) := by decide +kernel
theorem dX12_init_203 : decode cX12_init 203 = .ok (.putfield 83, 3) := dk_181 (a := 0) (b := 83) (dkn dmcX12_init (by decide +kernel)) rfl
theorem dX12_init_206 : decode cX12_init 206 = .ok (.aload_n 0, 1) := dk_42 (dkn dmcX12_init (by decide +kernel))
theorem dX12_init_207 : decode cX12_init 207 = .ok (.sipush 3612, 3) := dk_17 (a := 14) (b := 28) (dkn dmcX12_init (by decide +kernel)) rfl
theorem dX12_init_210 : decode cX12_init 210 = .ok (.newarray .int, 2) := by decide +kernel
theorem dX12_init_212 : decode cX12_init 212 = .ok (.putfield 86, 3) := dk_181 (a := 0) (b := 86) (dkn dmcX12_init (by decide +kernel)) rfl
theorem dX12_init_215 : decode cX12_init 215 = .ok (.aload_n 0, 1) := dk_42 (dkn dmcX12_init (by decide +kernel))
theorem dX12_init_216 : decode cX12_init 216 = .ok (.sipush 3612, 3) := dk_17 (a := 14) (b := 28) (dkn dmcX12_init (by decide +kernel)) rfl
theorem dX12_init_219 : decode cX12_init 219 = .ok (.newarray .int, 2) := by decide +kernel
theorem dX12_init_221 : decode cX12_init 221 = .ok (.putfield 89, 3) := dk_181 (a := 0) (b := 89) (dkn dmcX12_init (by decide +kernel)) rfl
theorem dX12_init_224 : decode cX12_init 224 = .ok (.aload_n 0, 1) := dk_42 (dkn dmcX12_init (by decide +kernel))
theorem dX12_init_225 : decode cX12_init 225 = .ok (.ldc 92, 2) := dk_18 (dkn dmcX12_init (by decide +kernel))
theorem dX12_init_227 : decode cX12_init 227 = .ok (.newarray .int, 2) := by decide +kernel
theorem dX12_init_229 : decode cX12_init 229 = .ok (.putfield 93, 3) := dk_181 (a := 0) (b := 93) (dkn dmcX12_init (by decide +kernel)) rfl
theorem dX12_init_232 : decode cX12_init 232 = .ok (.aload_n 0, 1) := dk_42 (dkn dmcX12_init (by decide +kernel))
theorem dX12_init_233 : decode cX12_init 233 = .ok (.sipush 301, 3) := dk_17 (a := 1) (b := 45) (dkn dmcX12_init (by decide +kernel)) rfl
theorem dX12_init_236 : decode cX12_init 236 = .ok (.newarray .int, 2) := by decide +kernel
theorem dX12_init_238 : decode cX12_init 238 = .ok (.putfield 96, 3) := dk_181 (a := 0) (b := 96) (dkn dmcX12_init (by decide +kernel)) rfl
theorem dX12_init_241 : decode cX12_init 241 = .ok (.aload_n 0, 1) := dk_42 (dkn dmcX12_init (by decide +kernel))
theorem dX12_init_242 : decode cX12_init 242 = .ok (.sipush 301, 3) := dk_17 (a := 1) (b := 45) (dkn dmcX12_init (by decide +kernel)) rfl
theorem dX12_init_245 : decode cX12_init 245 = .ok (.newarray .int, 2) := by decide +kernel
theorem dX12_init_247 : decode cX12_init 247 = .ok (.putfield 99, 3) := dk_181 (a := 0) (b := 99) (dkn dmcX12_init (by decide +kernel)) rfl
theorem dX12_init_250 : decode cX12_init 250 = .ok (.aload_n 0, 1) := dk_42 (dkn dmcX12_init (by decide +kernel))
theorem dX12_init_251 : decode cX12_init 251 = .ok (.sipush 301, 3) := dk_17 (a := 1) (b := 45) (dkn dmcX12_init (by decide +kernel)) rfl
theorem dX12_init_254 : decode cX12_init 254 = .ok (.newarray .int, 2) := by decide +kernel
theorem dX12_init_256 : decode cX12_init 256 = .ok (.putfield 102, 3) := dk_181 (a := 0) (b := 102) (dkn dmcX12_init (by decide +kernel)) rfl
theorem dX12_init_259 : decode cX12_init 259 = .ok (.aload_n 0, 1) := dk_42 (dkn dmcX12_init (by decide +kernel))
theorem dX12_init_260 : decode cX12_init 260 = .ok (.sipush 301, 3) := dk_17 (a := 1) (b := 45) (dkn dmcX12_init (by decide +kernel)) rfl
theorem dX12_init_263 : decode cX12_init 263 = .ok (.newarray .int, 2) := by decide +kernel
theorem dX12_init_265 : decode cX12_init 265 = .ok (.putfield 105, 3) := dk_181 (a := 0) (b := 105) (dkn dmcX12_init (by decide +kernel)) rfl
theorem dX12_init_268 : decode cX12_init 268 = .ok (.aload_n 0, 1) := dk_42 (dkn dmcX12_init (by decide +kernel))
theorem dX12_init_269 : decode cX12_init 269 = .ok (.sipush 301, 3) := dk_17 (a := 1) (b := 45) (dkn dmcX12_init (by decide +kernel)) rfl
theorem dX12_init_272 : decode cX12_init 272 = .ok (.newarray .int, 2) := by decide +kernel
theorem dX12_init_274 : decode cX12_init 274 = .ok (.putfield 108, 3) := dk_181 (a := 0) (b := 108) (dkn dmcX12_init (by decide +kernel)) rfl
theorem dX12_init_277 : decode cX12_init 277 = .ok (.aload_n 0, 1) := dk_42 (dkn dmcX12_init (by decide +kernel))
theorem dX12_init_278 : decode cX12_init 278 = .ok (.sipush 301, 3) := dk_17 (a := 1) (b := 45) (dkn dmcX12_init (by decide +kernel)) rfl
theorem dX12_init_281 : decode cX12_init 281 = .ok (.newarray .int, 2) := by decide +kernel
theorem dX12_init_283 : decode cX12_init 283 = .ok (.putfield 111, 3) := dk_181 (a := 0) (b := 111) (dkn dmcX12_init (by decide +kernel)) rfl
theorem dX12_init_286 : decode cX12_init 286 = .ok (.aload_n 0, 1) := dk_42 (dkn dmcX12_init (by decide +kernel))
theorem dX12_init_287 : decode cX12_init 287 = .ok (.sipush 301, 3) := dk_17 (a := 1) (b := 45) (dkn dmcX12_init (by decide +kernel)) rfl
theorem dX12_init_290 : decode cX12_init 290 = .ok (.newarray .int, 2) := by decide +kernel
theorem dX12_init_292 : decode cX12_init 292 = .ok (.putfield 114, 3) := dk_181 (a := 0) (b := 114) (dkn dmcX12_init (by decide +kernel)) rfl
theorem dX12_init_295 : decode cX12_init 295 = .ok (.aload_n 0, 1) := dk_42 (dkn dmcX12_init (by decide +kernel))
theorem dX12_init_296 : decode cX12_init 296 = .ok (.bipush 30, 2) := dk_16 (a := 30) (dkn dmcX12_init (by decide +kernel)) rfl
theorem dX12_init_298 : decode cX12_init 298 = .ok (.newarray .int, 2) := by decide +kernel
theorem dX12_init_300 : decode cX12_init 300 = .ok (.putfield 117, 3) := dk_181 (a := 0) (b := 117) (dkn dmcX12_init (by decide +kernel)) rfl
theorem dX12_init_303 : decode cX12_init 303 = .ok (.aload_n 0, 1) := dk_42 (dkn dmcX12_init (by decide +kernel))
theorem dX12_init_304 : decode cX12_init 304 = .ok (.sipush 301, 3) := dk_17 (a := 1) (b := 45) (dkn dmcX12_init (by decide +kernel)) rfl
theorem dX12_init_307 : decode cX12_init 307 = .ok (.newarray .int, 2) := by decide +kernel
theorem dX12_init_309 : decode cX12_init 309 = .ok (.putfield 120, 3) := dk_181 (a := 0) (b := 120) (dkn dmcX12_init (by decide +kernel)) rfl
theorem dX12_init_312 : decode cX12_init 312 = .ok (.aload_n 0, 1) := dk_42 (dkn dmcX12_init (by decide +kernel))
theorem dX12_init_313 : decode cX12_init 313 = .ok (.sipush 301, 3) := dk_17 (a := 1) (b := 45) (dkn dmcX12_init (by decide +kernel)) rfl
theorem dX12_init_316 : decode cX12_init 316 = .ok (.newarray .int, 2) := by decide +kernel
theorem dX12_init_318 : decode cX12_init 318 = .ok (.putfield 123, 3) := dk_181 (a := 0) (b := 123) (dkn dmcX12_init (by decide +kernel)) rfl
theorem dX12_init_321 : decode cX12_init 321 = .ok (.aload_n 0, 1) := dk_42 (dkn dmcX12_init (by decide +kernel))
theorem dX12_init_322 : decode cX12_init 322 = .ok (.ldc 126, 2) := dk_18 (dkn dmcX12_init (by decide +kernel))
theorem dX12_init_324 : decode cX12_init 324 = .ok (.newarray .boolean, 2) := by decide +kernel
theorem dX12_init_326 : decode cX12_init 326 = .ok (.putfield 127, 3) := dk_181 (a := 0) (b := 127) (dkn dmcX12_init (by decide +kernel)) rfl
theorem dX12_init_329 : decode cX12_init 329 = .ok (.aload_n 0, 1) := dk_42 (dkn dmcX12_init (by decide +kernel))
theorem dX12_init_330 : decode cX12_init 330 = .ok (.bipush (-2), 2) := dk_16 (a := 254) (dkn dmcX12_init (by decide +kernel)) rfl
theorem dX12_init_332 : decode cX12_init 332 = .ok (.putfield 130, 3) := dk_181 (a := 0) (b := 130) (dkn dmcX12_init (by decide +kernel)) rfl
theorem dX12_init_335 : decode cX12_init 335 = .ok (.aload_n 0, 1) := dk_42 (dkn dmcX12_init (by decide +kernel))
theorem dX12_init_336 : decode cX12_init 336 = .ok (.iconst 2, 1) := dk_5 (dkn dmcX12_init (by decide +kernel))
theorem dX12_init_337 : decode cX12_init 337 = .ok (.newarray .int, 2) := by decide +kernel
theorem dX12_init_339 : decode cX12_init 339 = .ok (.putfield 134, 3) := dk_181 (a := 0) (b := 134) (dkn dmcX12_init (by decide +kernel)) rfl
theorem dX12_init_342 : decode cX12_init 342 = .ok (.aload_n 0, 1) := dk_42 (dkn dmcX12_init (by decide +kernel))
theorem dX12_init_343 : decode cX12_init 343 = .ok (.iconst 2, 1) := dk_5 (dkn dmcX12_init (by decide +kernel))
theorem dX12_init_344 : decode cX12_init 344 = .ok (.newarray .int, 2) := by decide +kernel
theorem dX12_init_346 : decode cX12_init 346 = .ok (.putfield 137, 3) := dk_181 (a := 0) (b := 137) (dkn dmcX12_init (by decide +kernel)) rfl
theorem dX12_init_349 : decode cX12_init 349 = .ok (.aload_n 0, 1) := dk_42 (dkn dmcX12_init (by decide +kernel))
theorem dX12_init_350 : decode cX12_init 350 = .ok (.iconst 2, 1) := dk_5 (dkn dmcX12_init (by decide +kernel))
theorem dX12_init_351 : decode cX12_init 351 = .ok (.newarray .int, 2) := by decide +kernel
theorem dX12_init_353 : decode cX12_init 353 = .ok (.putfield 140, 3) := dk_181 (a := 0) (b := 140) (dkn dmcX12_init (by decide +kernel)) rfl
theorem dX12_init_356 : decode cX12_init 356 = .ok (.aload_n 0, 1) := dk_42 (dkn dmcX12_init (by decide +kernel))
theorem dX12_init_357 : decode cX12_init 357 = .ok (.iconst 2, 1) := dk_5 (dkn dmcX12_init (by decide +kernel))
theorem dX12_init_358 : decode cX12_init 358 = .ok (.newarray .int, 2) := by decide +kernel
theorem dX12_init_360 : decode cX12_init 360 = .ok (.putfield 143, 3) := dk_181 (a := 0) (b := 143) (dkn dmcX12_init (by decide +kernel)) rfl
theorem dX12_init_363 : decode cX12_init 363 = .ok (.aload_n 0, 1) := dk_42 (dkn dmcX12_init (by decide +kernel))
theorem dX12_init_364 : decode cX12_init 364 = .ok (.bipush 8, 2) := dk_16 (a := 8) (dkn dmcX12_init (by decide +kernel)) rfl
theorem dX12_init_366 : decode cX12_init 366 = .ok (.newarray .int, 2) := by decide +kernel
theorem dX12_init_368 : decode cX12_init 368 = .ok (.putfield 146, 3) := dk_181 (a := 0) (b := 146) (dkn dmcX12_init (by decide +kernel)) rfl
theorem dX12_init_371 : decode cX12_init 371 = .ok (.aload_n 0, 1) := dk_42 (dkn dmcX12_init (by decide +kernel))
theorem dX12_init_372 : decode cX12_init 372 = .ok (.bipush 8, 2) := dk_16 (a := 8) (dkn dmcX12_init (by decide +kernel)) rfl
theorem dX12_init_374 : decode cX12_init 374 = .ok (.newarray .int, 2) := by decide +kernel
theorem dX12_init_376 : decode cX12_init 376 = .ok (.putfield 149, 3) := dk_181 (a := 0) (b := 149) (dkn dmcX12_init (by decide +kernel)) rfl
theorem dX12_init_379 : decode cX12_init 379 = .ok (.aload_n 0, 1) := dk_42 (dkn dmcX12_init (by decide +kernel))
theorem dX12_init_380 : decode cX12_init 380 = .ok (.bipush 8, 2) := dk_16 (a := 8) (dkn dmcX12_init (by decide +kernel)) rfl
theorem dX12_init_382 : decode cX12_init 382 = .ok (.newarray .int, 2) := by decide +kernel
theorem dX12_init_384 : decode cX12_init 384 = .ok (.putfield 152, 3) := dk_181 (a := 0) (b := 152) (dkn dmcX12_init (by decide +kernel)) rfl
theorem dX12_init_387 : decode cX12_init 387 = .ok (.aload_n 0, 1) := dk_42 (dkn dmcX12_init (by decide +kernel))
theorem dX12_init_388 : decode cX12_init 388 = .ok (.bipush 8, 2) := dk_16 (a := 8) (dkn dmcX12_init (by decide +kernel)) rfl
theorem dX12_init_390 : decode cX12_init 390 = .ok (.newarray .int, 2) := by decide +kernel
theorem dX12_init_392 : decode cX12_init 392 = .ok (.putfield 155, 3) := dk_181 (a := 0) (b := 155) (dkn dmcX12_init (by decide +kernel)) rfl
theorem dX12_init_395 : decode cX12_init 395 = .ok (.aload_n 0, 1) := dk_42 (dkn dmcX12_init (by decide +kernel))
theorem dX12_init_396 : decode cX12_init 396 = .ok (.sipush 480, 3) := dk_17 (a := 1) (b := 224) (dkn dmcX12_init (by decide +kernel)) rfl
theorem dX12_init_399 : decode cX12_init 399 = .ok (.newarray .int, 2) := by decide +kernel
theorem dX12_init_401 : decode cX12_init 401 = .ok (.putfield 158, 3) := dk_181 (a := 0) (b := 158) (dkn dmcX12_init (by decide +kernel)) rfl
theorem dX12_init_404 : decode cX12_init 404 = .ok (.aload_n 0, 1) := dk_42 (dkn dmcX12_init (by decide +kernel))
theorem dX12_init_405 : decode cX12_init 405 = .ok (.bipush 60, 2) := dk_16 (a := 60) (dkn dmcX12_init (by decide +kernel)) rfl
theorem dX12_init_407 : decode cX12_init 407 = .ok (.newarray .int, 2) := by decide +kernel
theorem dX12_init_409 : decode cX12_init 409 = .ok (.putfield 161, 3) := dk_181 (a := 0) (b := 161) (dkn dmcX12_init (by decide +kernel)) rfl
theorem dX12_init_412 : decode cX12_init 412 = .ok (.return_, 1) := dk_177 (dkn dmcX12_init (by decide +kernel))
set_option maxRecDepth 100000 in
theorem inX0 : ∀ w ∈ u_ws RX0 TX0 2, w ∈ TW := TW_lays [836, 834] (by decide +kernel)
set_option maxRecDepth 100000 in
theorem inX2 : ∀ w ∈ u_ws RX2 TX2 2, w ∈ TW := TW_lays [852, 850] (by decide +kernel)
set_option maxRecDepth 100000 in
theorem inX7 : ∀ w ∈ u_ws RX7 TX7 1, w ∈ TW := TW_lays [817] (by decide +kernel)
set_option maxRecDepth 100000 in
theorem inX8 : ∀ w ∈ u_ws RX8 TX8 1, w ∈ TW := TW_lays [809] (by decide +kernel)
set_option maxRecDepth 100000 in
theorem inX9 : ∀ w ∈ u_ws RX9 TX9 2, w ∈ TW := TW_lays [800, 798] (by decide +kernel)
theorem fl_RX0_7 : Cond.fieldLink RX0 7 "ReplayBox$Bytes" "bytes" "[B" ∈ TW := (TWt 833 (by decide +kernel) (by decide +kernel))
theorem fl_RX1_7 : Cond.fieldLink RX1 7 "ReplayBox$Held" "number" "I" ∈ TW := (TWt 796 (by decide +kernel) (by decide +kernel))
theorem fl_RX11_352 : Cond.fieldLink RX11 352 "ReplayBox$Held" "number" "I" ∈ TW := (TWt 797 (by decide +kernel) (by decide +kernel))
theorem fl_RX2_7 : Cond.fieldLink RX2 7 "ReplayBox$Ints" "ints" "[I" ∈ TW := (TWt 849 (by decide +kernel) (by decide +kernel))
theorem fl_RX9_7 : Cond.fieldLink RX9 7 "ReplayBox$ShelvedRow" "places" "I" ∈ TW := (TWt 795 (by decide +kernel) (by decide +kernel))
theorem cl_RX11_182 : Cond.classLink RX11 182 "java/lang/IllegalStateException" ∈ TW := (TWt 953 (by decide +kernel) (by decide +kernel))
theorem lk_RX11_189 : Cond.methodLink RX11 189 yX11_cellSlot ∈ TW := (TWt 1059 (by decide +kernel) (by decide +kernel))
theorem lk_RX11_192 : Cond.methodLink RX11 192 yX11_localSlot ∈ TW := (TWt 1062 (by decide +kernel) (by decide +kernel))
theorem cl_RX11_195 : Cond.classLink RX11 195 "java/lang/IllegalArgumentException" ∈ TW := (TWt 1065 (by decide +kernel) (by decide +kernel))
theorem lk_RX11_222 : Cond.methodLink RX11 222 yX3_hasRowPlace ∈ TW := (TWt 1088 (by decide +kernel) (by decide +kernel))
theorem lk_RX11_290 : Cond.methodLink RX11 290 yX11_isShelf ∈ TW := (TWt 778 (by decide +kernel) (by decide +kernel))
theorem lk_RX11_293 : Cond.methodLink RX11 293 yX3_shelved ∈ TW := (TWt 781 (by decide +kernel) (by decide +kernel))
theorem lk_RX11_297 : Cond.methodLink RX11 297 yX11_threadsOfFirstSteps ∈ TW := (TWt 819 (by decide +kernel) (by decide +kernel))
theorem lk_RX11_301 : Cond.methodLink RX11 301 yX11_numbersOfCells ∈ TW := (TWt 839 (by decide +kernel) (by decide +kernel))
theorem cl_RX11_304 : Cond.classLink RX11 304 "ReplayBox$Bytes" ∈ TW := (TWt 827 (by decide +kernel) (by decide +kernel))
theorem lk_RX11_306 : Cond.methodLink RX11 306 yX0_init ∈ TW := (TWt 829 (by decide +kernel) (by decide +kernel))
theorem cl_RX11_309 : Cond.classLink RX11 309 "ReplayBox$Ints" ∈ TW := (TWt 843 (by decide +kernel) (by decide +kernel))
theorem lk_RX11_311 : Cond.methodLink RX11 311 yX2_init ∈ TW := (TWt 845 (by decide +kernel) (by decide +kernel))
theorem lk_RX11_328 : Cond.methodLink RX11 328 yX11_fits ∈ TW := (TWt 890 (by decide +kernel) (by decide +kernel))
theorem lk_RX11_343 : Cond.methodLink RX11 343 yX11_caughtFrom ∈ TW := (TWt 949 (by decide +kernel) (by decide +kernel))
theorem lk_RX3_95 : Cond.methodLink RX3 95 yX3_hasThing ∈ TW := (TWt 785 (by decide +kernel) (by decide +kernel))
theorem cl_RX3_98 : Cond.classLink RX3 98 "ReplayBox$ShelvedRow" ∈ TW := (TWt 786 (by decide +kernel) (by decide +kernel))
theorem lk_RX3_100 : Cond.methodLink RX3 100 yX9_init ∈ TW := (TWt 788 (by decide +kernel) (by decide +kernel))
theorem cl_RX3_103 : Cond.classLink RX3 103 "ReplayBox$ShelvedLock" ∈ TW := (TWt 803 (by decide +kernel) (by decide +kernel))
theorem lk_RX3_105 : Cond.methodLink RX3 105 yX8_init ∈ TW := (TWt 805 (by decide +kernel) (by decide +kernel))
theorem cl_RX3_108 : Cond.classLink RX3 108 "ReplayBox$ShelvedGate" ∈ TW := (TWt 811 (by decide +kernel) (by decide +kernel))
theorem lk_RX3_110 : Cond.methodLink RX3 110 yX7_init ∈ TW := (TWt 813 (by decide +kernel) (by decide +kernel))
theorem lk_RX0_1 : Cond.methodLink RX0 1 yX1_init ∈ TW := (TWt 832 (by decide +kernel) (by decide +kernel))
theorem cl_RX0_8 : Cond.classLink RX0 8 "ReplayBox$Bytes" ∈ TW := (TWt 868 (by decide +kernel) (by decide +kernel))
theorem cl_RX1_13 : Cond.classLink RX1 13 "java/lang/UnsupportedOperationException" ∈ TW := (TWt 1032 (by decide +kernel) (by decide +kernel))
theorem lk_RX2_1 : Cond.methodLink RX2 1 yX1_init ∈ TW := (TWt 848 (by decide +kernel) (by decide +kernel))
theorem cl_RX2_8 : Cond.classLink RX2 8 "ReplayBox$Ints" ∈ TW := (TWt 872 (by decide +kernel) (by decide +kernel))
theorem lk_RX7_1 : Cond.methodLink RX7 1 yX8_init ∈ TW := (TWt 816 (by decide +kernel) (by decide +kernel))
theorem lk_RX7_7 : Cond.methodLink RX7 7 yX8_heft ∈ TW := (TWt 935 (by decide +kernel) (by decide +kernel))
theorem lk_RX8_1 : Cond.methodLink RX8 1 yX1_init ∈ TW := (TWt 808 (by decide +kernel) (by decide +kernel))
theorem lk_RX8_7 : Cond.methodLink RX8 7 yX1_heft ∈ TW := (TWt 938 (by decide +kernel) (by decide +kernel))
theorem cl_RX8_11 : Cond.classLink RX8 11 "java/lang/IllegalStateException" ∈ TW := (TWt 962 (by decide +kernel) (by decide +kernel))
theorem lk_RX9_1 : Cond.methodLink RX9 1 yX1_init ∈ TW := (TWt 791 (by decide +kernel) (by decide +kernel))
theorem lk_RX9_13 : Cond.methodLink RX9 13 yX1_heft ∈ TW := (TWt 943 (by decide +kernel) (by decide +kernel))
theorem cl_RX6_9 : Cond.classLink RX6 9 "[[I" ∈ TW := (TWt 266 (by decide +kernel) (by decide +kernel))
theorem cl_RX11_9 : Cond.classLink RX11 9 "ReplayBox$Program" ∈ TW := (TWt 31 (by decide +kernel) (by decide +kernel))
theorem cl_RX11_19 : Cond.classLink RX11 19 "ReplayBox$Machine" ∈ TW := (TWt 78 (by decide +kernel) (by decide +kernel))
theorem lk_RX11_21 : Cond.methodLink RX11 21 yX3_init ∈ TW := (TWt 80 (by decide +kernel) (by decide +kernel))
theorem cl_RX11_31 : Cond.classLink RX11 31 "ReplayBox$Trace" ∈ TW := (TWt 154 (by decide +kernel) (by decide +kernel))
theorem cl_RX11_38 : Cond.classLink RX11 38 "ReplayBox$Order" ∈ TW := (TWt 231 (by decide +kernel) (by decide +kernel))
theorem lk_RX11_40 : Cond.methodLink RX11 40 yX4_init ∈ TW := (TWt 233 (by decide +kernel) (by decide +kernel))
theorem cl_RX11_47 : Cond.classLink RX11 47 "ReplayBox$Search" ∈ TW := (TWt 260 (by decide +kernel) (by decide +kernel))
theorem lk_RX11_49 : Cond.methodLink RX11 49 yX6_init ∈ TW := (TWt 262 (by decide +kernel) (by decide +kernel))
theorem cl_RX11_56 : Cond.classLink RX11 56 "ReplayBox$Held" ∈ TW := (TWt 308 (by decide +kernel) (by decide +kernel))
theorem in_X11_value : Cond.instanceMethod yX11_value ∈ TW := (TWt 1054 (by decide +kernel) (by decide +kernel))
theorem se_X11_value : Cond.selects yX11_value.cls yX11_value yX11_value ∈ TW := (TWt 1055 (by decide +kernel) (by decide +kernel))
set_option maxRecDepth 16384 in
theorem CKX11_value {rm rm2 : Room} (q : rm2.frames + 1 ≤ rm.frames ∧ 8 + (6 + 11) + rm2.locals ≤ rm.locals) : CK rm yX11_value cX11_value 6 (some .int) rm2 3 := ⟨(TWt 1056 rfl (by decide +kernel)), (TWt 1 (by decide +kernel) (by decide +kernel)), ⟨by decide, by decide⟩, by decide +kernel, q.1, q.2⟩
theorem in_X11_place : Cond.instanceMethod yX11_place ∈ TW := (TWt 1085 (by decide +kernel) (by decide +kernel))
theorem se_X11_place : Cond.selects yX11_place.cls yX11_place yX11_place ∈ TW := (TWt 1086 (by decide +kernel) (by decide +kernel))
set_option maxRecDepth 16384 in
theorem CKX11_place {rm rm2 : Room} (q : rm2.frames + 1 ≤ rm.frames ∧ 8 + (4 + 11) + rm2.locals ≤ rm.locals) : CK rm yX11_place cX11_place 4 (some .int) rm2 2 := ⟨(TWt 1087 rfl (by decide +kernel)), (TWt 1 (by decide +kernel) (by decide +kernel)), ⟨by decide, by decide⟩, by decide +kernel, q.1, q.2⟩
theorem in_X11_element : Cond.instanceMethod yX11_element ∈ TW := (TWt 1094 (by decide +kernel) (by decide +kernel))
theorem se_X11_element : Cond.selects yX11_element.cls yX11_element yX11_element ∈ TW := (TWt 1095 (by decide +kernel) (by decide +kernel))
set_option maxRecDepth 16384 in
theorem CKX11_element {rm rm2 : Room} (q : rm2.frames + 1 ≤ rm.frames ∧ 8 + (4 + 11) + rm2.locals ≤ rm.locals) : CK rm yX11_element cX11_element 4 (some .int) rm2 2 := ⟨(TWt 1096 rfl (by decide +kernel)), (TWt 1 (by decide +kernel) (by decide +kernel)), ⟨by decide, by decide⟩, by decide +kernel, q.1, q.2⟩
theorem in_X11_keep : Cond.instanceMethod yX11_keep ∈ TW := (TWt 775 (by decide +kernel) (by decide +kernel))
theorem se_X11_keep : Cond.selects yX11_keep.cls yX11_keep yX11_keep ∈ TW := (TWt 776 (by decide +kernel) (by decide +kernel))
set_option maxRecDepth 16384 in
theorem CKX11_keep {rm rm2 : Room} (q : rm2.frames + 1 ≤ rm.frames ∧ 8 + (4 + 11) + rm2.locals ≤ rm.locals) : CK rm yX11_keep cX11_keep 4 (some .int) rm2 3 := ⟨(TWt 777 rfl (by decide +kernel)), (TWt 1 (by decide +kernel) (by decide +kernel)), ⟨by decide, by decide⟩, by decide +kernel, q.1, q.2⟩
theorem in_X11_make : Cond.instanceMethod yX11_make ∈ TW := (TWt 855 (by decide +kernel) (by decide +kernel))
theorem se_X11_make : Cond.selects yX11_make.cls yX11_make yX11_make ∈ TW := (TWt 856 (by decide +kernel) (by decide +kernel))
set_option maxRecDepth 16384 in
theorem CKX11_make {rm rm2 : Room} (q : rm2.frames + 1 ≤ rm.frames ∧ 8 + (4 + 11) + rm2.locals ≤ rm.locals) : CK rm yX11_make cX11_make 4 (some .int) rm2 3 := ⟨(TWt 857 rfl (by decide +kernel)), (TWt 1 (by decide +kernel) (by decide +kernel)), ⟨by decide, by decide⟩, by decide +kernel, q.1, q.2⟩
theorem in_X11_copy : Cond.instanceMethod yX11_copy ∈ TW := (TWt 859 (by decide +kernel) (by decide +kernel))
theorem se_X11_copy : Cond.selects yX11_copy.cls yX11_copy yX11_copy ∈ TW := (TWt 860 (by decide +kernel) (by decide +kernel))
set_option maxRecDepth 16384 in
theorem CKX11_copy {rm rm2 : Room} (q : rm2.frames + 1 ≤ rm.frames ∧ 8 + (8 + 11) + rm2.locals ≤ rm.locals) : CK rm yX11_copy cX11_copy 8 (some .int) rm2 5 := ⟨(TWt 861 rfl (by decide +kernel)), (TWt 1 (by decide +kernel) (by decide +kernel)), ⟨by decide, by decide⟩, by decide +kernel, q.1, q.2⟩
theorem in_X11_weight : Cond.instanceMethod yX11_weight ∈ TW := (TWt 911 (by decide +kernel) (by decide +kernel))
theorem se_X11_weight : Cond.selects yX11_weight.cls yX11_weight yX11_weight ∈ TW := (TWt 912 (by decide +kernel) (by decide +kernel))
set_option maxRecDepth 16384 in
theorem CKX11_weight {rm rm2 : Room} (q : rm2.frames + 1 ≤ rm.frames ∧ 8 + (3 + 11) + rm2.locals ≤ rm.locals) : CK rm yX11_weight cX11_weight 3 (some .int) rm2 1 := ⟨(TWt 913 rfl (by decide +kernel)), (TWt 1 (by decide +kernel) (by decide +kernel)), ⟨by decide, by decide⟩, by decide +kernel, q.1, q.2⟩
theorem in_X11_toss : Cond.instanceMethod yX11_toss ∈ TW := (TWt 946 (by decide +kernel) (by decide +kernel))
theorem se_X11_toss : Cond.selects yX11_toss.cls yX11_toss yX11_toss ∈ TW := (TWt 947 (by decide +kernel) (by decide +kernel))
set_option maxRecDepth 16384 in
theorem CKX11_toss {rm rm2 : Room} (q : rm2.frames + 1 ≤ rm.frames ∧ 8 + (3 + 11) + rm2.locals ≤ rm.locals) : CK rm yX11_toss cX11_toss 3 (some .int) rm2 1 := ⟨(TWt 948 rfl (by decide +kernel)), (TWt 1 (by decide +kernel) (by decide +kernel)), ⟨by decide, by decide⟩, by decide +kernel, q.1, q.2⟩
theorem st_X11_caughtFrom : Cond.static yX11_caughtFrom ∈ TW := (TWt 950 (by decide +kernel) (by decide +kernel))
set_option maxRecDepth 16384 in
theorem cw_X11_caughtFrom : Cond.codeWith yX11_caughtFrom cX11_caughtFrom 2 (some .int) [(0, 4, 7, 350), (0, 4, 11, 182)] ∈ TW := (TWt 951 rfl (by decide +kernel))
theorem in_X11_threadsOfFirstSteps : Cond.instanceMethod yX11_threadsOfFirstSteps ∈ TW := (TWt 821 (by decide +kernel) (by decide +kernel))
theorem se_X11_threadsOfFirstSteps : Cond.selects yX11_threadsOfFirstSteps.cls yX11_threadsOfFirstSteps yX11_threadsOfFirstSteps ∈ TW := (TWp 43 (by decide +kernel) (by decide +kernel))
set_option maxRecDepth 16384 in
theorem CKX11_threadsOfFirstSteps {rm rm2 : Room} (q : rm2.frames + 1 ≤ rm.frames ∧ 8 + (4 + 11) + rm2.locals ≤ rm.locals) : CK rm yX11_threadsOfFirstSteps cX11_threadsOfFirstSteps 4 (some (.object "ReplayBox$Held")) rm2 0 := ⟨(TWt 822 rfl (by decide +kernel)), (TWt 1 (by decide +kernel) (by decide +kernel)), ⟨by decide, by decide⟩, by decide +kernel, q.1, q.2⟩
theorem in_X11_numbersOfCells : Cond.instanceMethod yX11_numbersOfCells ∈ TW := (TWt 841 (by decide +kernel) (by decide +kernel))
theorem se_X11_numbersOfCells : Cond.selects yX11_numbersOfCells.cls yX11_numbersOfCells yX11_numbersOfCells ∈ TW := (TWp 44 (by decide +kernel) (by decide +kernel))
set_option maxRecDepth 16384 in
theorem CKX11_numbersOfCells {rm rm2 : Room} (q : rm2.frames + 1 ≤ rm.frames ∧ 8 + (4 + 11) + rm2.locals ≤ rm.locals) : CK rm yX11_numbersOfCells cX11_numbersOfCells 4 (some (.object "ReplayBox$Held")) rm2 0 := ⟨(TWt 842 rfl (by decide +kernel)), (TWt 1 (by decide +kernel) (by decide +kernel)), ⟨by decide, by decide⟩, by decide +kernel, q.1, q.2⟩
theorem in_X3_shelved : Cond.instanceMethod yX3_shelved ∈ TW := (TWt 782 (by decide +kernel) (by decide +kernel))
theorem se_X3_shelved : Cond.selects yX3_shelved.cls yX3_shelved yX3_shelved ∈ TW := (TWt 783 (by decide +kernel) (by decide +kernel))
set_option maxRecDepth 16384 in
theorem CKX3_shelved {rm rm2 : Room} (q : rm2.frames + 1 ≤ rm.frames ∧ 8 + (2 + 11) + rm2.locals ≤ rm.locals) : CK rm yX3_shelved cX3_shelved 2 (some (.object "ReplayBox$Held")) rm2 1 := ⟨(TWt 784 rfl (by decide +kernel)), (TWt 3 (by decide +kernel) (by decide +kernel)), ⟨by decide, by decide⟩, by decide +kernel, q.1, q.2⟩
theorem in_X0_init : Cond.instanceMethod yX0_init ∈ TW := (TWt 830 (by decide +kernel) (by decide +kernel))
set_option maxRecDepth 16384 in
theorem CKX0_init {rm rm2 : Room} (q : rm2.frames + 1 ≤ rm.frames ∧ 8 + (2 + 11) + rm2.locals ≤ rm.locals) : CK rm yX0_init cX0_init 2 none rm2 1 := ⟨(TWt 831 rfl (by decide +kernel)), (TWt 20 (by decide +kernel) (by decide +kernel)), ⟨by decide, by decide⟩, by decide +kernel, q.1, q.2⟩
theorem in_X0_length : Cond.instanceMethod yX0_length ∈ TW := (TWt 881 (by decide +kernel) (by decide +kernel))
set_option maxRecDepth 16384 in
theorem CKX0_length {rm rm2 : Room} (q : rm2.frames + 1 ≤ rm.frames ∧ 8 + (1 + 11) + rm2.locals ≤ rm.locals) : CK rm yX0_length cX0_length 1 (some .int) rm2 0 := ⟨(TWt 882 rfl (by decide +kernel)), (TWt 20 (by decide +kernel) (by decide +kernel)), ⟨by decide, by decide⟩, by decide +kernel, q.1, q.2⟩
theorem in_X0_elementAt : Cond.instanceMethod yX0_elementAt ∈ TW := (TWt 1103 (by decide +kernel) (by decide +kernel))
set_option maxRecDepth 16384 in
theorem CKX0_elementAt {rm rm2 : Room} (q : rm2.frames + 1 ≤ rm.frames ∧ 8 + (2 + 11) + rm2.locals ≤ rm.locals) : CK rm yX0_elementAt cX0_elementAt 2 (some .int) rm2 1 := ⟨(TWt 1104 rfl (by decide +kernel)), (TWt 20 (by decide +kernel) (by decide +kernel)), ⟨by decide, by decide⟩, by decide +kernel, q.1, q.2⟩
theorem in_X0_takesFrom : Cond.instanceMethod yX0_takesFrom ∈ TW := (TWt 866 (by decide +kernel) (by decide +kernel))
set_option maxRecDepth 16384 in
theorem CKX0_takesFrom {rm rm2 : Room} (q : rm2.frames + 1 ≤ rm.frames ∧ 8 + (2 + 11) + rm2.locals ≤ rm.locals) : CK rm yX0_takesFrom cX0_takesFrom 2 (some .boolean) rm2 1 := ⟨(TWt 867 rfl (by decide +kernel)), (TWt 20 (by decide +kernel) (by decide +kernel)), ⟨by decide, by decide⟩, by decide +kernel, q.1, q.2⟩
theorem in_X0_fill : Cond.instanceMethod yX0_fill ∈ TW := (TWt 897 (by decide +kernel) (by decide +kernel))
set_option maxRecDepth 16384 in
theorem CKX0_fill {rm rm2 : Room} (q : rm2.frames + 1 ≤ rm.frames ∧ 8 + (6 + 11) + rm2.locals ≤ rm.locals) : CK rm yX0_fill cX0_fill 6 none rm2 4 := ⟨(TWt 898 rfl (by decide +kernel)), (TWt 20 (by decide +kernel) (by decide +kernel)), ⟨by decide, by decide⟩, by decide +kernel, q.1, q.2⟩
theorem in_X1_init : Cond.instanceMethod yX1_init ∈ TW := (TWt 792 (by decide +kernel) (by decide +kernel))
set_option maxRecDepth 16384 in
theorem CKX1_init {rm rm2 : Room} (q : rm2.frames + 1 ≤ rm.frames ∧ 8 + (2 + 11) + rm2.locals ≤ rm.locals) : CK rm yX1_init cX1_init 2 none rm2 1 := ⟨(TWt 793 rfl (by decide +kernel)), (TWt 16 (by decide +kernel) (by decide +kernel)), ⟨by decide, by decide⟩, by decide +kernel, q.1, q.2⟩
theorem in_X1_isThing : Cond.instanceMethod yX1_isThing ∈ TW := (TWt 915 (by decide +kernel) (by decide +kernel))
set_option maxRecDepth 16384 in
theorem CKX1_isThing {rm rm2 : Room} (q : rm2.frames + 1 ≤ rm.frames ∧ 8 + (1 + 11) + rm2.locals ≤ rm.locals) : CK rm yX1_isThing cX1_isThing 1 (some .boolean) rm2 0 := ⟨(TWt 926 rfl (by decide +kernel)), (TWt 16 (by decide +kernel) (by decide +kernel)), ⟨by decide, by decide⟩, by decide +kernel, q.1, q.2⟩
theorem in_X1_length : Cond.instanceMethod yX1_length ∈ TW := (TWt 878 (by decide +kernel) (by decide +kernel))
set_option maxRecDepth 16384 in
theorem CKX1_length {rm rm2 : Room} (q : rm2.frames + 1 ≤ rm.frames ∧ 8 + (1 + 11) + rm2.locals ≤ rm.locals) : CK rm yX1_length cX1_length 1 (some .int) rm2 0 := ⟨(TWt 889 rfl (by decide +kernel)), (TWt 16 (by decide +kernel) (by decide +kernel)), ⟨by decide, by decide⟩, by decide +kernel, q.1, q.2⟩
theorem in_X1_elementAt : Cond.instanceMethod yX1_elementAt ∈ TW := (TWt 1100 (by decide +kernel) (by decide +kernel))
set_option maxRecDepth 16384 in
theorem CKX1_elementAt {rm rm2 : Room} (q : rm2.frames + 1 ≤ rm.frames ∧ 8 + (2 + 11) + rm2.locals ≤ rm.locals) : CK rm yX1_elementAt cX1_elementAt 2 (some .int) rm2 1 := ⟨(TWt 1111 rfl (by decide +kernel)), (TWt 16 (by decide +kernel) (by decide +kernel)), ⟨by decide, by decide⟩, by decide +kernel, q.1, q.2⟩
theorem in_X1_takesFrom : Cond.instanceMethod yX1_takesFrom ∈ TW := (TWt 863 (by decide +kernel) (by decide +kernel))
set_option maxRecDepth 16384 in
theorem CKX1_takesFrom {rm rm2 : Room} (q : rm2.frames + 1 ≤ rm.frames ∧ 8 + (2 + 11) + rm2.locals ≤ rm.locals) : CK rm yX1_takesFrom cX1_takesFrom 2 (some .boolean) rm2 1 := ⟨(TWt 876 rfl (by decide +kernel)), (TWt 16 (by decide +kernel) (by decide +kernel)), ⟨by decide, by decide⟩, by decide +kernel, q.1, q.2⟩
theorem in_X1_fill : Cond.instanceMethod yX1_fill ∈ TW := (TWt 894 (by decide +kernel) (by decide +kernel))
set_option maxRecDepth 16384 in
theorem CKX1_fill {rm rm2 : Room} (q : rm2.frames + 1 ≤ rm.frames ∧ 8 + (5 + 11) + rm2.locals ≤ rm.locals) : CK rm yX1_fill cX1_fill 5 none rm2 4 := ⟨(TWt 909 rfl (by decide +kernel)), (TWt 16 (by decide +kernel) (by decide +kernel)), ⟨by decide, by decide⟩, by decide +kernel, q.1, q.2⟩
theorem in_X1_heft : Cond.instanceMethod yX1_heft ∈ TW := (TWt 928 (by decide +kernel) (by decide +kernel))
set_option maxRecDepth 16384 in
theorem CKX1_heft {rm rm2 : Room} (q : rm2.frames + 1 ≤ rm.frames ∧ 8 + (1 + 11) + rm2.locals ≤ rm.locals) : CK rm yX1_heft cX1_heft 1 (some .int) rm2 0 := ⟨(TWt 944 rfl (by decide +kernel)), (TWt 16 (by decide +kernel) (by decide +kernel)), ⟨by decide, by decide⟩, by decide +kernel, q.1, q.2⟩
theorem in_X1_fling : Cond.instanceMethod yX1_fling ∈ TW := (TWt 955 (by decide +kernel) (by decide +kernel))
set_option maxRecDepth 16384 in
theorem CKX1_fling {rm rm2 : Room} (q : rm2.frames + 1 ≤ rm.frames ∧ 8 + (1 + 11) + rm2.locals ≤ rm.locals) : CK rm yX1_fling cX1_fling 1 none rm2 0 := ⟨(TWt 1031 rfl (by decide +kernel)), (TWt 16 (by decide +kernel) (by decide +kernel)), ⟨by decide, by decide⟩, by decide +kernel, q.1, q.2⟩
theorem in_X2_init : Cond.instanceMethod yX2_init ∈ TW := (TWt 846 (by decide +kernel) (by decide +kernel))
set_option maxRecDepth 16384 in
theorem CKX2_init {rm rm2 : Room} (q : rm2.frames + 1 ≤ rm.frames ∧ 8 + (2 + 11) + rm2.locals ≤ rm.locals) : CK rm yX2_init cX2_init 2 none rm2 1 := ⟨(TWt 847 rfl (by decide +kernel)), (TWt 21 (by decide +kernel) (by decide +kernel)), ⟨by decide, by decide⟩, by decide +kernel, q.1, q.2⟩
theorem in_X2_length : Cond.instanceMethod yX2_length ∈ TW := (TWt 884 (by decide +kernel) (by decide +kernel))
set_option maxRecDepth 16384 in
theorem CKX2_length {rm rm2 : Room} (q : rm2.frames + 1 ≤ rm.frames ∧ 8 + (1 + 11) + rm2.locals ≤ rm.locals) : CK rm yX2_length cX2_length 1 (some .int) rm2 0 := ⟨(TWt 885 rfl (by decide +kernel)), (TWt 21 (by decide +kernel) (by decide +kernel)), ⟨by decide, by decide⟩, by decide +kernel, q.1, q.2⟩
theorem in_X2_elementAt : Cond.instanceMethod yX2_elementAt ∈ TW := (TWt 1106 (by decide +kernel) (by decide +kernel))
set_option maxRecDepth 16384 in
theorem CKX2_elementAt {rm rm2 : Room} (q : rm2.frames + 1 ≤ rm.frames ∧ 8 + (2 + 11) + rm2.locals ≤ rm.locals) : CK rm yX2_elementAt cX2_elementAt 2 (some .int) rm2 1 := ⟨(TWt 1107 rfl (by decide +kernel)), (TWt 21 (by decide +kernel) (by decide +kernel)), ⟨by decide, by decide⟩, by decide +kernel, q.1, q.2⟩
theorem in_X2_takesFrom : Cond.instanceMethod yX2_takesFrom ∈ TW := (TWt 870 (by decide +kernel) (by decide +kernel))
set_option maxRecDepth 16384 in
theorem CKX2_takesFrom {rm rm2 : Room} (q : rm2.frames + 1 ≤ rm.frames ∧ 8 + (2 + 11) + rm2.locals ≤ rm.locals) : CK rm yX2_takesFrom cX2_takesFrom 2 (some .boolean) rm2 1 := ⟨(TWt 871 rfl (by decide +kernel)), (TWt 21 (by decide +kernel) (by decide +kernel)), ⟨by decide, by decide⟩, by decide +kernel, q.1, q.2⟩
theorem in_X2_fill : Cond.instanceMethod yX2_fill ∈ TW := (TWt 902 (by decide +kernel) (by decide +kernel))
set_option maxRecDepth 16384 in
theorem CKX2_fill {rm rm2 : Room} (q : rm2.frames + 1 ≤ rm.frames ∧ 8 + (6 + 11) + rm2.locals ≤ rm.locals) : CK rm yX2_fill cX2_fill 6 none rm2 4 := ⟨(TWt 903 rfl (by decide +kernel)), (TWt 21 (by decide +kernel) (by decide +kernel)), ⟨by decide, by decide⟩, by decide +kernel, q.1, q.2⟩
theorem in_X7_init : Cond.instanceMethod yX7_init ∈ TW := (TWt 814 (by decide +kernel) (by decide +kernel))
set_option maxRecDepth 16384 in
theorem CKX7_init {rm rm2 : Room} (q : rm2.frames + 1 ≤ rm.frames ∧ 8 + (2 + 11) + rm2.locals ≤ rm.locals) : CK rm yX7_init cX7_init 2 none rm2 1 := ⟨(TWt 815 rfl (by decide +kernel)), (TWt 19 (by decide +kernel) (by decide +kernel)), ⟨by decide, by decide⟩, by decide +kernel, q.1, q.2⟩
theorem in_X7_heft : Cond.instanceMethod yX7_heft ∈ TW := (TWt 933 (by decide +kernel) (by decide +kernel))
set_option maxRecDepth 16384 in
theorem CKX7_heft {rm rm2 : Room} (q : rm2.frames + 1 ≤ rm.frames ∧ 8 + (1 + 11) + rm2.locals ≤ rm.locals) : CK rm yX7_heft cX7_heft 1 (some .int) rm2 0 := ⟨(TWt 934 rfl (by decide +kernel)), (TWt 19 (by decide +kernel) (by decide +kernel)), ⟨by decide, by decide⟩, by decide +kernel, q.1, q.2⟩
theorem in_X8_init : Cond.instanceMethod yX8_init ∈ TW := (TWt 806 (by decide +kernel) (by decide +kernel))
set_option maxRecDepth 16384 in
theorem CKX8_init {rm rm2 : Room} (q : rm2.frames + 1 ≤ rm.frames ∧ 8 + (2 + 11) + rm2.locals ≤ rm.locals) : CK rm yX8_init cX8_init 2 none rm2 1 := ⟨(TWt 807 rfl (by decide +kernel)), (TWt 18 (by decide +kernel) (by decide +kernel)), ⟨by decide, by decide⟩, by decide +kernel, q.1, q.2⟩
theorem in_X8_isThing : Cond.instanceMethod yX8_isThing ∈ TW := (TWt 920 (by decide +kernel) (by decide +kernel))
set_option maxRecDepth 16384 in
theorem CKX8_isThing {rm rm2 : Room} (q : rm2.frames + 1 ≤ rm.frames ∧ 8 + (1 + 11) + rm2.locals ≤ rm.locals) : CK rm yX8_isThing cX8_isThing 1 (some .boolean) rm2 0 := ⟨(TWt 921 rfl (by decide +kernel)), (TWt 18 (by decide +kernel) (by decide +kernel)), ⟨by decide, by decide⟩, by decide +kernel, q.1, q.2⟩
theorem in_X8_heft : Cond.instanceMethod yX8_heft ∈ TW := (TWt 936 (by decide +kernel) (by decide +kernel))
set_option maxRecDepth 16384 in
theorem CKX8_heft {rm rm2 : Room} (q : rm2.frames + 1 ≤ rm.frames ∧ 8 + (1 + 11) + rm2.locals ≤ rm.locals) : CK rm yX8_heft cX8_heft 1 (some .int) rm2 0 := ⟨(TWt 937 rfl (by decide +kernel)), (TWt 18 (by decide +kernel) (by decide +kernel)), ⟨by decide, by decide⟩, by decide +kernel, q.1, q.2⟩
theorem in_X8_fling : Cond.instanceMethod yX8_fling ∈ TW := (TWt 960 (by decide +kernel) (by decide +kernel))
set_option maxRecDepth 16384 in
theorem CKX8_fling {rm rm2 : Room} (q : rm2.frames + 1 ≤ rm.frames ∧ 8 + (1 + 11) + rm2.locals ≤ rm.locals) : CK rm yX8_fling cX8_fling 1 none rm2 0 := ⟨(TWt 961 rfl (by decide +kernel)), (TWt 18 (by decide +kernel) (by decide +kernel)), ⟨by decide, by decide⟩, by decide +kernel, q.1, q.2⟩
theorem in_X9_init : Cond.instanceMethod yX9_init ∈ TW := (TWt 789 (by decide +kernel) (by decide +kernel))
set_option maxRecDepth 16384 in
theorem CKX9_init {rm rm2 : Room} (q : rm2.frames + 1 ≤ rm.frames ∧ 8 + (3 + 11) + rm2.locals ≤ rm.locals) : CK rm yX9_init cX9_init 3 none rm2 2 := ⟨(TWt 790 rfl (by decide +kernel)), (TWt 17 (by decide +kernel) (by decide +kernel)), ⟨by decide, by decide⟩, by decide +kernel, q.1, q.2⟩
theorem in_X9_isThing : Cond.instanceMethod yX9_isThing ∈ TW := (TWt 924 (by decide +kernel) (by decide +kernel))
set_option maxRecDepth 16384 in
theorem CKX9_isThing {rm rm2 : Room} (q : rm2.frames + 1 ≤ rm.frames ∧ 8 + (1 + 11) + rm2.locals ≤ rm.locals) : CK rm yX9_isThing cX9_isThing 1 (some .boolean) rm2 0 := ⟨(TWt 925 rfl (by decide +kernel)), (TWt 17 (by decide +kernel) (by decide +kernel)), ⟨by decide, by decide⟩, by decide +kernel, q.1, q.2⟩
theorem in_X9_heft : Cond.instanceMethod yX9_heft ∈ TW := (TWt 941 (by decide +kernel) (by decide +kernel))
set_option maxRecDepth 16384 in
theorem CKX9_heft {rm rm2 : Room} (q : rm2.frames + 1 ≤ rm.frames ∧ 8 + (1 + 11) + rm2.locals ≤ rm.locals) : CK rm yX9_heft cX9_heft 1 (some .int) rm2 0 := ⟨(TWt 942 rfl (by decide +kernel)), (TWt 17 (by decide +kernel) (by decide +kernel)), ⟨by decide, by decide⟩, by decide +kernel, q.1, q.2⟩
theorem in_X3_init : Cond.instanceMethod yX3_init ∈ TW := (TWt 81 (by decide +kernel) (by decide +kernel))
set_option maxRecDepth 16384 in
theorem CKX3_init {rm rm2 : Room} (q : rm2.frames + 1 ≤ rm.frames ∧ 8 + (2 + 11) + rm2.locals ≤ rm.locals) : CK rm yX3_init cX3_init 2 none rm2 1 := ⟨(TWt 82 rfl (by decide +kernel)), (TWt 3 (by decide +kernel) (by decide +kernel)), ⟨by decide, by decide⟩, by decide +kernel, q.1, q.2⟩
theorem in_X4_init : Cond.instanceMethod yX4_init ∈ TW := (TWt 234 (by decide +kernel) (by decide +kernel))
set_option maxRecDepth 16384 in
theorem CKX4_init {rm rm2 : Room} (q : rm2.frames + 1 ≤ rm.frames ∧ 8 + (2 + 11) + rm2.locals ≤ rm.locals) : CK rm yX4_init cX4_init 2 none rm2 1 := ⟨(TWt 235 rfl (by decide +kernel)), (TWt 5 (by decide +kernel) (by decide +kernel)), ⟨by decide, by decide⟩, by decide +kernel, q.1, q.2⟩
theorem in_X5_init : Cond.instanceMethod yX5_init ∈ TW := (TWt 34 (by decide +kernel) (by decide +kernel))
set_option maxRecDepth 16384 in
theorem CKX5_init {rm rm2 : Room} (q : rm2.frames + 1 ≤ rm.frames ∧ 8 + (1 + 11) + rm2.locals ≤ rm.locals) : CK rm yX5_init cX5_init 1 none rm2 0 := ⟨(TWt 35 rfl (by decide +kernel)), (TWt 2 (by decide +kernel) (by decide +kernel)), ⟨by decide, by decide⟩, by decide +kernel, q.1, q.2⟩
theorem in_X6_init : Cond.instanceMethod yX6_init ∈ TW := (TWt 263 (by decide +kernel) (by decide +kernel))
set_option maxRecDepth 16384 in
theorem CKX6_init {rm rm2 : Room} (q : rm2.frames + 1 ≤ rm.frames ∧ 8 + (3 + 11) + rm2.locals ≤ rm.locals) : CK rm yX6_init cX6_init 3 none rm2 2 := ⟨(TWt 264 rfl (by decide +kernel)), (TWt 6 (by decide +kernel) (by decide +kernel)), ⟨by decide, by decide⟩, by decide +kernel, q.1, q.2⟩
theorem in_X10_init : Cond.instanceMethod yX10_init ∈ TW := (TWt 157 (by decide +kernel) (by decide +kernel))
set_option maxRecDepth 16384 in
theorem CKX10_init {rm rm2 : Room} (q : rm2.frames + 1 ≤ rm.frames ∧ 8 + (1 + 11) + rm2.locals ≤ rm.locals) : CK rm yX10_init cX10_init 1 none rm2 0 := ⟨(TWt 158 rfl (by decide +kernel)), (TWt 4 (by decide +kernel) (by decide +kernel)), ⟨by decide, by decide⟩, by decide +kernel, q.1, q.2⟩
theorem in_X11_init : Cond.instanceMethod yX11_init ∈ TW := (TWt 26 (by decide +kernel) (by decide +kernel))
set_option maxRecDepth 16384 in
theorem CKX11_init {rm rm2 : Room} (q : rm2.frames + 1 ≤ rm.frames ∧ 8 + (1 + 11) + rm2.locals ≤ rm.locals) : CK rm yX11_init cX11_init 1 none rm2 0 := ⟨(TWt 27 rfl (by decide +kernel)), (TWt 1 (by decide +kernel) (by decide +kernel)), ⟨by decide, by decide⟩, by decide +kernel, q.1, q.2⟩
theorem in_X12_init : Cond.instanceMethod yX12_init ∈ TW := (TWt 1115 (by decide +kernel) (by decide +kernel))
set_option maxRecDepth 16384 in
theorem CKX12_init {rm rm2 : Room} (q : rm2.frames + 1 ≤ rm.frames ∧ 8 + (1 + 11) + rm2.locals ≤ rm.locals) : CK rm yX12_init cX12_init 1 none rm2 0 := ⟨(TWt 1116 rfl (by decide +kernel)), (TWt 7 (by decide +kernel) (by decide +kernel)), ⟨by decide, by decide⟩, by decide +kernel, q.1, q.2⟩
theorem lk_RX11_321 : Cond.methodLink RX11 321 yX1_elementAt ∈ TW := (TWt 1099 (by decide +kernel) (by decide +kernel))
theorem sm_X1_elementAt : Cond.sameMethod yX1_elementAt.cls yX1_elementAt.cls yX1_elementAt.name yX1_elementAt.desc ∈ TW := (TWt 1101 (by decide +kernel) (by decide +kernel))
theorem cu_elementAt_X0 : CU RX11 321 yX1_elementAt yX0_elementAt RX0 := ⟨lk_RX11_321, sm_X1_elementAt, in_X1_elementAt, ⟨cX1_elementAt, 2, (some .int), (TWt 1111 (by decide +kernel) (by decide +kernel))⟩, (TWt 1102 (by decide +kernel) (by decide +kernel)), in_X0_elementAt, ⟨by decide, by decide⟩, rfl⟩
theorem cu_elementAt_X2 : CU RX11 321 yX1_elementAt yX2_elementAt RX2 := ⟨lk_RX11_321, sm_X1_elementAt, in_X1_elementAt, ⟨cX1_elementAt, 2, (some .int), (TWt 1111 (by decide +kernel) (by decide +kernel))⟩, (TWt 1105 (by decide +kernel) (by decide +kernel)), in_X2_elementAt, ⟨by decide, by decide⟩, rfl⟩
theorem cu_elementAt_X7 : CU RX11 321 yX1_elementAt yX1_elementAt RX7 := ⟨lk_RX11_321, sm_X1_elementAt, in_X1_elementAt, ⟨cX1_elementAt, 2, (some .int), (TWt 1111 (by decide +kernel) (by decide +kernel))⟩, (TWt 1108 (by decide +kernel) (by decide +kernel)), in_X1_elementAt, ⟨by decide, by decide⟩, rfl⟩
theorem cu_elementAt_X8 : CU RX11 321 yX1_elementAt yX1_elementAt RX8 := ⟨lk_RX11_321, sm_X1_elementAt, in_X1_elementAt, ⟨cX1_elementAt, 2, (some .int), (TWt 1111 (by decide +kernel) (by decide +kernel))⟩, (TWt 1109 (by decide +kernel) (by decide +kernel)), in_X1_elementAt, ⟨by decide, by decide⟩, rfl⟩
theorem cu_elementAt_X9 : CU RX11 321 yX1_elementAt yX1_elementAt RX9 := ⟨lk_RX11_321, sm_X1_elementAt, in_X1_elementAt, ⟨cX1_elementAt, 2, (some .int), (TWt 1111 (by decide +kernel) (by decide +kernel))⟩, (TWt 1110 (by decide +kernel) (by decide +kernel)), in_X1_elementAt, ⟨by decide, by decide⟩, rfl⟩
theorem lk_RX11_332 : Cond.methodLink RX11 332 yX1_fill ∈ TW := (TWt 893 (by decide +kernel) (by decide +kernel))
theorem sm_X1_fill : Cond.sameMethod yX1_fill.cls yX1_fill.cls yX1_fill.name yX1_fill.desc ∈ TW := (TWt 895 (by decide +kernel) (by decide +kernel))
theorem cu_fill_X0 : CU RX11 332 yX1_fill yX0_fill RX0 := ⟨lk_RX11_332, sm_X1_fill, in_X1_fill, ⟨cX1_fill, 5, none, (TWt 909 (by decide +kernel) (by decide +kernel))⟩, (TWt 896 (by decide +kernel) (by decide +kernel)), in_X0_fill, ⟨by decide, by decide⟩, rfl⟩
theorem cu_fill_X2 : CU RX11 332 yX1_fill yX2_fill RX2 := ⟨lk_RX11_332, sm_X1_fill, in_X1_fill, ⟨cX1_fill, 5, none, (TWt 909 (by decide +kernel) (by decide +kernel))⟩, (TWt 901 (by decide +kernel) (by decide +kernel)), in_X2_fill, ⟨by decide, by decide⟩, rfl⟩
theorem cu_fill_X7 : CU RX11 332 yX1_fill yX1_fill RX7 := ⟨lk_RX11_332, sm_X1_fill, in_X1_fill, ⟨cX1_fill, 5, none, (TWt 909 (by decide +kernel) (by decide +kernel))⟩, (TWt 906 (by decide +kernel) (by decide +kernel)), in_X1_fill, ⟨by decide, by decide⟩, rfl⟩
theorem cu_fill_X8 : CU RX11 332 yX1_fill yX1_fill RX8 := ⟨lk_RX11_332, sm_X1_fill, in_X1_fill, ⟨cX1_fill, 5, none, (TWt 909 (by decide +kernel) (by decide +kernel))⟩, (TWt 907 (by decide +kernel) (by decide +kernel)), in_X1_fill, ⟨by decide, by decide⟩, rfl⟩
theorem cu_fill_X9 : CU RX11 332 yX1_fill yX1_fill RX9 := ⟨lk_RX11_332, sm_X1_fill, in_X1_fill, ⟨cX1_fill, 5, none, (TWt 909 (by decide +kernel) (by decide +kernel))⟩, (TWt 908 (by decide +kernel) (by decide +kernel)), in_X1_fill, ⟨by decide, by decide⟩, rfl⟩
theorem lk_RX11_347 : Cond.methodLink RX11 347 yX1_fling ∈ TW := (TWt 954 (by decide +kernel) (by decide +kernel))
theorem sm_X1_fling : Cond.sameMethod yX1_fling.cls yX1_fling.cls yX1_fling.name yX1_fling.desc ∈ TW := (TWt 956 (by decide +kernel) (by decide +kernel))
theorem cu_fling_X0 : CU RX11 347 yX1_fling yX1_fling RX0 := ⟨lk_RX11_347, sm_X1_fling, in_X1_fling, ⟨cX1_fling, 1, none, (TWt 1031 (by decide +kernel) (by decide +kernel))⟩, (TWt 957 (by decide +kernel) (by decide +kernel)), in_X1_fling, ⟨by decide, by decide⟩, rfl⟩
theorem cu_fling_X2 : CU RX11 347 yX1_fling yX1_fling RX2 := ⟨lk_RX11_347, sm_X1_fling, in_X1_fling, ⟨cX1_fling, 1, none, (TWt 1031 (by decide +kernel) (by decide +kernel))⟩, (TWt 958 (by decide +kernel) (by decide +kernel)), in_X1_fling, ⟨by decide, by decide⟩, rfl⟩
theorem cu_fling_X7 : CU RX11 347 yX1_fling yX8_fling RX7 := ⟨lk_RX11_347, sm_X1_fling, in_X1_fling, ⟨cX1_fling, 1, none, (TWt 1031 (by decide +kernel) (by decide +kernel))⟩, (TWt 959 (by decide +kernel) (by decide +kernel)), in_X8_fling, ⟨by decide, by decide⟩, rfl⟩
theorem cu_fling_X8 : CU RX11 347 yX1_fling yX8_fling RX8 := ⟨lk_RX11_347, sm_X1_fling, in_X1_fling, ⟨cX1_fling, 1, none, (TWt 1031 (by decide +kernel) (by decide +kernel))⟩, (TWt 1029 (by decide +kernel) (by decide +kernel)), in_X8_fling, ⟨by decide, by decide⟩, rfl⟩
theorem cu_fling_X9 : CU RX11 347 yX1_fling yX1_fling RX9 := ⟨lk_RX11_347, sm_X1_fling, in_X1_fling, ⟨cX1_fling, 1, none, (TWt 1031 (by decide +kernel) (by decide +kernel))⟩, (TWt 1030 (by decide +kernel) (by decide +kernel)), in_X1_fling, ⟨by decide, by decide⟩, rfl⟩
theorem lk_RX11_340 : Cond.methodLink RX11 340 yX1_heft ∈ TW := (TWt 927 (by decide +kernel) (by decide +kernel))
theorem sm_X1_heft : Cond.sameMethod yX1_heft.cls yX1_heft.cls yX1_heft.name yX1_heft.desc ∈ TW := (TWt 929 (by decide +kernel) (by decide +kernel))
theorem cu_heft_X0 : CU RX11 340 yX1_heft yX1_heft RX0 := ⟨lk_RX11_340, sm_X1_heft, in_X1_heft, ⟨cX1_heft, 1, (some .int), (TWt 944 (by decide +kernel) (by decide +kernel))⟩, (TWt 930 (by decide +kernel) (by decide +kernel)), in_X1_heft, ⟨by decide, by decide⟩, rfl⟩
theorem cu_heft_X2 : CU RX11 340 yX1_heft yX1_heft RX2 := ⟨lk_RX11_340, sm_X1_heft, in_X1_heft, ⟨cX1_heft, 1, (some .int), (TWt 944 (by decide +kernel) (by decide +kernel))⟩, (TWt 931 (by decide +kernel) (by decide +kernel)), in_X1_heft, ⟨by decide, by decide⟩, rfl⟩
theorem cu_heft_X7 : CU RX11 340 yX1_heft yX7_heft RX7 := ⟨lk_RX11_340, sm_X1_heft, in_X1_heft, ⟨cX1_heft, 1, (some .int), (TWt 944 (by decide +kernel) (by decide +kernel))⟩, (TWt 932 (by decide +kernel) (by decide +kernel)), in_X7_heft, ⟨by decide, by decide⟩, rfl⟩
theorem cu_heft_X8 : CU RX11 340 yX1_heft yX8_heft RX8 := ⟨lk_RX11_340, sm_X1_heft, in_X1_heft, ⟨cX1_heft, 1, (some .int), (TWt 944 (by decide +kernel) (by decide +kernel))⟩, (TWt 939 (by decide +kernel) (by decide +kernel)), in_X8_heft, ⟨by decide, by decide⟩, rfl⟩
theorem cu_heft_X9 : CU RX11 340 yX1_heft yX9_heft RX9 := ⟨lk_RX11_340, sm_X1_heft, in_X1_heft, ⟨cX1_heft, 1, (some .int), (TWt 944 (by decide +kernel) (by decide +kernel))⟩, (TWt 940 (by decide +kernel) (by decide +kernel)), in_X9_heft, ⟨by decide, by decide⟩, rfl⟩
theorem lk_RX11_336 : Cond.methodLink RX11 336 yX1_isThing ∈ TW := (TWt 914 (by decide +kernel) (by decide +kernel))
theorem sm_X1_isThing : Cond.sameMethod yX1_isThing.cls yX1_isThing.cls yX1_isThing.name yX1_isThing.desc ∈ TW := (TWt 916 (by decide +kernel) (by decide +kernel))
theorem cu_isThing_X0 : CU RX11 336 yX1_isThing yX1_isThing RX0 := ⟨lk_RX11_336, sm_X1_isThing, in_X1_isThing, ⟨cX1_isThing, 1, (some .boolean), (TWt 926 (by decide +kernel) (by decide +kernel))⟩, (TWt 917 (by decide +kernel) (by decide +kernel)), in_X1_isThing, ⟨by decide, by decide⟩, rfl⟩
theorem cu_isThing_X2 : CU RX11 336 yX1_isThing yX1_isThing RX2 := ⟨lk_RX11_336, sm_X1_isThing, in_X1_isThing, ⟨cX1_isThing, 1, (some .boolean), (TWt 926 (by decide +kernel) (by decide +kernel))⟩, (TWt 918 (by decide +kernel) (by decide +kernel)), in_X1_isThing, ⟨by decide, by decide⟩, rfl⟩
theorem cu_isThing_X7 : CU RX11 336 yX1_isThing yX8_isThing RX7 := ⟨lk_RX11_336, sm_X1_isThing, in_X1_isThing, ⟨cX1_isThing, 1, (some .boolean), (TWt 926 (by decide +kernel) (by decide +kernel))⟩, (TWt 919 (by decide +kernel) (by decide +kernel)), in_X8_isThing, ⟨by decide, by decide⟩, rfl⟩
theorem cu_isThing_X8 : CU RX11 336 yX1_isThing yX8_isThing RX8 := ⟨lk_RX11_336, sm_X1_isThing, in_X1_isThing, ⟨cX1_isThing, 1, (some .boolean), (TWt 926 (by decide +kernel) (by decide +kernel))⟩, (TWt 922 (by decide +kernel) (by decide +kernel)), in_X8_isThing, ⟨by decide, by decide⟩, rfl⟩
theorem cu_isThing_X9 : CU RX11 336 yX1_isThing yX9_isThing RX9 := ⟨lk_RX11_336, sm_X1_isThing, in_X1_isThing, ⟨cX1_isThing, 1, (some .boolean), (TWt 926 (by decide +kernel) (by decide +kernel))⟩, (TWt 923 (by decide +kernel) (by decide +kernel)), in_X9_isThing, ⟨by decide, by decide⟩, rfl⟩
theorem lk_RX11_316 : Cond.methodLink RX11 316 yX1_length ∈ TW := (TWt 877 (by decide +kernel) (by decide +kernel))
theorem sm_X1_length : Cond.sameMethod yX1_length.cls yX1_length.cls yX1_length.name yX1_length.desc ∈ TW := (TWt 879 (by decide +kernel) (by decide +kernel))
theorem cu_length_X0 : CU RX11 316 yX1_length yX0_length RX0 := ⟨lk_RX11_316, sm_X1_length, in_X1_length, ⟨cX1_length, 1, (some .int), (TWt 889 (by decide +kernel) (by decide +kernel))⟩, (TWt 880 (by decide +kernel) (by decide +kernel)), in_X0_length, ⟨by decide, by decide⟩, rfl⟩
theorem cu_length_X2 : CU RX11 316 yX1_length yX2_length RX2 := ⟨lk_RX11_316, sm_X1_length, in_X1_length, ⟨cX1_length, 1, (some .int), (TWt 889 (by decide +kernel) (by decide +kernel))⟩, (TWt 883 (by decide +kernel) (by decide +kernel)), in_X2_length, ⟨by decide, by decide⟩, rfl⟩
theorem cu_length_X7 : CU RX11 316 yX1_length yX1_length RX7 := ⟨lk_RX11_316, sm_X1_length, in_X1_length, ⟨cX1_length, 1, (some .int), (TWt 889 (by decide +kernel) (by decide +kernel))⟩, (TWt 886 (by decide +kernel) (by decide +kernel)), in_X1_length, ⟨by decide, by decide⟩, rfl⟩
theorem cu_length_X8 : CU RX11 316 yX1_length yX1_length RX8 := ⟨lk_RX11_316, sm_X1_length, in_X1_length, ⟨cX1_length, 1, (some .int), (TWt 889 (by decide +kernel) (by decide +kernel))⟩, (TWt 887 (by decide +kernel) (by decide +kernel)), in_X1_length, ⟨by decide, by decide⟩, rfl⟩
theorem cu_length_X9 : CU RX11 316 yX1_length yX1_length RX9 := ⟨lk_RX11_316, sm_X1_length, in_X1_length, ⟨cX1_length, 1, (some .int), (TWt 889 (by decide +kernel) (by decide +kernel))⟩, (TWt 888 (by decide +kernel) (by decide +kernel)), in_X1_length, ⟨by decide, by decide⟩, rfl⟩
theorem lk_RX11_324 : Cond.methodLink RX11 324 yX1_takesFrom ∈ TW := (TWt 862 (by decide +kernel) (by decide +kernel))
theorem sm_X1_takesFrom : Cond.sameMethod yX1_takesFrom.cls yX1_takesFrom.cls yX1_takesFrom.name yX1_takesFrom.desc ∈ TW := (TWt 864 (by decide +kernel) (by decide +kernel))
theorem cu_takesFrom_X0 : CU RX11 324 yX1_takesFrom yX0_takesFrom RX0 := ⟨lk_RX11_324, sm_X1_takesFrom, in_X1_takesFrom, ⟨cX1_takesFrom, 2, (some .boolean), (TWt 876 (by decide +kernel) (by decide +kernel))⟩, (TWt 865 (by decide +kernel) (by decide +kernel)), in_X0_takesFrom, ⟨by decide, by decide⟩, rfl⟩
theorem cu_takesFrom_X2 : CU RX11 324 yX1_takesFrom yX2_takesFrom RX2 := ⟨lk_RX11_324, sm_X1_takesFrom, in_X1_takesFrom, ⟨cX1_takesFrom, 2, (some .boolean), (TWt 876 (by decide +kernel) (by decide +kernel))⟩, (TWt 869 (by decide +kernel) (by decide +kernel)), in_X2_takesFrom, ⟨by decide, by decide⟩, rfl⟩
theorem cu_takesFrom_X7 : CU RX11 324 yX1_takesFrom yX1_takesFrom RX7 := ⟨lk_RX11_324, sm_X1_takesFrom, in_X1_takesFrom, ⟨cX1_takesFrom, 2, (some .boolean), (TWt 876 (by decide +kernel) (by decide +kernel))⟩, (TWt 873 (by decide +kernel) (by decide +kernel)), in_X1_takesFrom, ⟨by decide, by decide⟩, rfl⟩
theorem cu_takesFrom_X8 : CU RX11 324 yX1_takesFrom yX1_takesFrom RX8 := ⟨lk_RX11_324, sm_X1_takesFrom, in_X1_takesFrom, ⟨cX1_takesFrom, 2, (some .boolean), (TWt 876 (by decide +kernel) (by decide +kernel))⟩, (TWt 874 (by decide +kernel) (by decide +kernel)), in_X1_takesFrom, ⟨by decide, by decide⟩, rfl⟩
theorem cu_takesFrom_X9 : CU RX11 324 yX1_takesFrom yX1_takesFrom RX9 := ⟨lk_RX11_324, sm_X1_takesFrom, in_X1_takesFrom, ⟨cX1_takesFrom, 2, (some .boolean), (TWt 876 (by decide +kernel) (by decide +kernel))⟩, (TWt 875 (by decide +kernel) (by decide +kernel)), in_X1_takesFrom, ⟨by decide, by decide⟩, rfl⟩
theorem sm_X8_heft : Cond.sameMethod yX8_heft.cls yX8_heft.cls yX8_heft.name yX8_heft.desc ∈ TW := (TWt 1630 (by decide +kernel) (by decide +kernel))
theorem su_X7 : Cond.superclass RX7 yX8_heft.cls ∈ TW := (TWt 818 (by decide +kernel) (by decide +kernel))
theorem su_X8 : Cond.superclass RX8 yX1_heft.cls ∈ TW := (TWt 810 (by decide +kernel) (by decide +kernel))
theorem su_X9 : Cond.superclass RX9 yX1_heft.cls ∈ TW := (TWt 802 (by decide +kernel) (by decide +kernel))
theorem is_X0 : Cond.instantiable RX0 2 ∈ TW := (TWt 828 (by decide +kernel) (by decide +kernel))
theorem iz_X0 : Cond.initialized RX0 ∈ TW := (TWt 20 (by decide +kernel) (by decide +kernel))
theorem is_X2 : Cond.instantiable RX2 2 ∈ TW := (TWt 844 (by decide +kernel) (by decide +kernel))
theorem iz_X2 : Cond.initialized RX2 ∈ TW := (TWt 21 (by decide +kernel) (by decide +kernel))
theorem is_X3 : Cond.instantiable RX3 18 ∈ TW := (TWt 79 (by decide +kernel) (by decide +kernel))
theorem iz_X3 : Cond.initialized RX3 ∈ TW := (TWt 3 (by decide +kernel) (by decide +kernel))
theorem is_X4 : Cond.instantiable RX4 7 ∈ TW := (TWt 232 (by decide +kernel) (by decide +kernel))
theorem iz_X4 : Cond.initialized RX4 ∈ TW := (TWt 5 (by decide +kernel) (by decide +kernel))
theorem is_X5 : Cond.instantiable RX5 8 ∈ TW := (TWt 32 (by decide +kernel) (by decide +kernel))
theorem iz_X5 : Cond.initialized RX5 ∈ TW := (TWt 2 (by decide +kernel) (by decide +kernel))
theorem is_X6 : Cond.instantiable RX6 11 ∈ TW := (TWt 261 (by decide +kernel) (by decide +kernel))
theorem iz_X6 : Cond.initialized RX6 ∈ TW := (TWt 6 (by decide +kernel) (by decide +kernel))
theorem is_X7 : Cond.instantiable RX7 1 ∈ TW := (TWt 812 (by decide +kernel) (by decide +kernel))
theorem iz_X7 : Cond.initialized RX7 ∈ TW := (TWt 19 (by decide +kernel) (by decide +kernel))
theorem is_X8 : Cond.instantiable RX8 1 ∈ TW := (TWt 804 (by decide +kernel) (by decide +kernel))
theorem iz_X8 : Cond.initialized RX8 ∈ TW := (TWt 18 (by decide +kernel) (by decide +kernel))
theorem is_X9 : Cond.instantiable RX9 2 ∈ TW := (TWt 787 (by decide +kernel) (by decide +kernel))
theorem iz_X9 : Cond.initialized RX9 ∈ TW := (TWt 17 (by decide +kernel) (by decide +kernel))
theorem is_X10 : Cond.instantiable RX10 17 ∈ TW := (TWt 155 (by decide +kernel) (by decide +kernel))
theorem iz_X10 : Cond.initialized RX10 ∈ TW := (TWt 4 (by decide +kernel) (by decide +kernel))
theorem is_X11 : Cond.instantiable RX11 13 ∈ TW := (TWt 24 (by decide +kernel) (by decide +kernel))
theorem iz_X11 : Cond.initialized RX11 ∈ TW := (TWt 1 (by decide +kernel) (by decide +kernel))
theorem is_X12 : Cond.instantiable RX12 83 ∈ TW := (TWt 1113 (by decide +kernel) (by decide +kernel))
theorem iz_X12 : Cond.initialized RX12 ∈ TW := (TWt 7 (by decide +kernel) (by decide +kernel))
theorem ar_int : Cond.arrayClass .int ∈ TW := (TWt 77 (by decide +kernel) (by decide +kernel))
theorem ar_byte : Cond.arrayClass .byte ∈ TW := (TWt 838 (by decide +kernel) (by decide +kernel))
theorem ar_boolean : Cond.arrayClass .boolean ∈ TW := (TWt 1369 (by decide +kernel) (by decide +kernel))
theorem oi_i : Cond.instanceMethod Lib.objectInit ∈ TW := (TWt 29 (by decide +kernel) (by decide +kernel))
set_option maxRecDepth 16384 in
theorem oi_c : Cond.code Lib.objectInit ⟨#[0xb1]⟩ 1 none ∈ TW := (TWt 30 rfl (by decide +kernel))
theorem lo_RX11_3 : Cond.methodLink RX11 3 Lib.objectInit ∈ TW := (TWt 28 (by decide +kernel) (by decide +kernel))
theorem lo_RX5_3 : Cond.methodLink RX5 3 Lib.objectInit ∈ TW := (TWt 36 (by decide +kernel) (by decide +kernel))
theorem lo_RX3_3 : Cond.methodLink RX3 3 Lib.objectInit ∈ TW := (TWt 83 (by decide +kernel) (by decide +kernel))
theorem lo_RX10_3 : Cond.methodLink RX10 3 Lib.objectInit ∈ TW := (TWt 159 (by decide +kernel) (by decide +kernel))
theorem lo_RX4_3 : Cond.methodLink RX4 3 Lib.objectInit ∈ TW := (TWt 236 (by decide +kernel) (by decide +kernel))
theorem lo_RX6_3 : Cond.methodLink RX6 3 Lib.objectInit ∈ TW := (TWt 265 (by decide +kernel) (by decide +kernel))
theorem lo_RX1_1 : Cond.methodLink RX1 1 Lib.objectInit ∈ TW := (TWt 794 (by decide +kernel) (by decide +kernel))
theorem lk_RX11_361 : Cond.methodLink RX11 361 Lib.Math.min.name ∈ TW := (TWt 823 (by decide +kernel) (by decide +kernel))
theorem lk_RX0_19 : Cond.methodLink RX0 19 arraycopyName ∈ TW := (TWt 900 (by decide +kernel) (by decide +kernel))
theorem lk_RX2_19 : Cond.methodLink RX2 19 arraycopyName ∈ TW := (TWt 905 (by decide +kernel) (by decide +kernel))
theorem lo_RX12_1 : Cond.methodLink RX12 1 Lib.objectInit ∈ TW := (TWt 1117 (by decide +kernel) (by decide +kernel))
theorem mn_s : Cond.static Lib.Math.min.name ∈ TW := (TWt 824 (by decide +kernel) (by decide +kernel))
set_option maxRecDepth 16384 in
theorem mn_c : Cond.code Lib.Math.min.name Lib.Math.min.code 2 (some .int) ∈ TW := (TWt 825 rfl (by decide +kernel))
theorem iz_IllegalStateException : Cond.initialized "java/lang/IllegalStateException" ∈ TW := (TWt 14 (by decide +kernel) (by decide +kernel))
theorem iz_IllegalArgumentException : Cond.initialized "java/lang/IllegalArgumentException" ∈ TW := (TWt 15 (by decide +kernel) (by decide +kernel))
theorem iz_UnsupportedOperationException : Cond.initialized "java/lang/UnsupportedOperationException" ∈ TW := (TWt 22 (by decide +kernel) (by decide +kernel))
end MG_33_hdec
section MG_34_held
/-! WHAT SHELVES HOLD: rows of bytes and ints, THINGS; their methods are safe whatever they are. -/
abbrev mkR (f c s l : Nat) : Room := { frames := f, cells := c, slots := s, locals := l }
theorem fj_xg0 {X : fj_X} {Y : fj_Y} {ad : Nat → Nat} {n : Nat} {S : ph_S} {h : ph_H} {pc : Nat} {lv : List (Nat × Value)} {st : List Value} (k : FJ X Y ad n S h pc lv st) : FJ (xg X 0 0) Y ad n S h pc lv st := k
theorem fj_xg1 {X : fj_X} {Y : fj_Y} {ad : Nat → Nat} {n : Nat} {S : ph_S} {h : ph_H} {pc : Nat} {lv : List (Nat × Value)} {st : List Value} (k : FJ (xg X 0 0) Y ad n S h pc lv st) : FJ X Y ad n S h pc lv st := k
def rfH (q : Nat) : Nat → Option (Option Nat) := fun j => match j with
  | 1 => some (some q)
  | _ => none
def rfN : Nat → Option (Option Nat) := fun _ => none
theorem rfH_up {q r : Nat} : va_up (rz (rfH r)) 1 (some (some q)) = rfH q := by
  funext j
  by_cases e : j = 1
  · subst e
    rw [va_up_self]
    rfl
  · rw [va_up_ne _ _ e]
    unfold rz rfH
    split
    · exact absurd rfl e
    · rfl
theorem rz_N : rz rfN = rfN := rfl
/-- place p is something that a SHELF can hold -/
def HO (n : Nat) (S : ph_S) (p : Nat) : Prop := 60 ≤ p ∧ p < n ∧ ((∃ q len, S p = .inr (.inl (0, 2, rfH q)) ∧ 60 ≤ q ∧ q < n ∧ S q = .inl (2, len) ∧ len ≤ 60) ∨ (∃ q len, S p = .inr (.inl (1, 2, rfH q)) ∧ 60 ≤ q ∧ q < n ∧ S q = .inl (0, len) ∧ len ≤ 60) ∨ S p = .inr (.inl (8, 2, rfN)) ∨ S p = .inr (.inl (7, 1, rfN)) ∨ S p = .inr (.inl (6, 1, rfN)))
theorem HO.mono {n n' : Nat} {S S' : ph_S} {p : Nat} (o : HO n S p) (hn : n ≤ n') (hS : ∀ k, 60 ≤ k → k < n → S' k = S k) : HO n' S' p := by
  obtain ⟨h1, h2, h3⟩ := o
  refine ⟨h1, Nat.lt_of_lt_of_le h2 hn, ?_⟩
  rw [hS p h1 h2]
  rcases h3 with ⟨q, len, a, b, c, d, e⟩ | ⟨q, len, a, b, c, d, e⟩ | a | a | a
  · exact Or.inl ⟨q, len, a, b, Nat.lt_of_lt_of_le c hn, (hS q b c).trans d, e⟩
  · exact Or.inr (Or.inl ⟨q, len, a, b, Nat.lt_of_lt_of_le c hn, (hS q b c).trans d, e⟩)
  · exact Or.inr (Or.inr (Or.inl a))
  · exact Or.inr (Or.inr (Or.inr (Or.inl a)))
  · exact Or.inr (Or.inr (Or.inr (Or.inr a)))
/-- byte rows hold bytes -/
def BY (n : Nat) (S : ph_S) (h : ph_H) : Prop := ∀ k len, 60 ≤ k → k < n → S k = .inl (2, len) → ∀ i, fits .byte (.int (h k i)) = true
/-- the SHELVES -/
def KS (n : Nat) (S : ph_S) (h : ph_H) : Prop := (∃ g, S 59 = .inr (.inr (3, 8, g)) ∧ ∀ i p, g i = some p → HO n S p) ∧ clS n S ∧ BY n S h
theorem nar_byte (x : Int32) : fits .byte (.int (vp_nar .byte x)) = true := by
  rw [vp_nar_byte]
  show (decide (-128 ≤ x.toInt8.toInt32) && decide (x.toInt8.toInt32 ≤ 127)) = true
  have e : x.toInt8.toInt32.toInt = x.toInt8.toInt := Int8.toInt_toInt32 _
  have h1 := Int8.toInt_lt x.toInt8
  have h2 := Int8.le_toInt x.toInt8
  have a1 : (-128 : Int32).toInt = -128 := by decide
  have a2 : (127 : Int32).toInt = 127 := by decide
  simp only [Bool.and_eq_true, decide_eq_true_eq, Int32.le_iff_toInt_le]
  rw [e, a1, a2]
  omega
theorem oN_i {len : Nat} (hl : len ≤ 60) : (Int32.ofNat len).toInt = (len : Int) := nI_toInt (n := len) (by omega)
theorem in_of {i : Int32} {len : Nat} (h0 : ¬ i < 0) (h1 : ¬ Int32.ofNat len ≤ i) (hl : len ≤ 60) : vp_in i len := by
  have z : (0 : Int32).toInt = 0 := by decide
  have t : i.toNatClampNeg = i.toInt.toNat := rfl
  rw [Int32.le_iff_toInt_le, oN_i hl] at h1
  rw [Int32.lt_iff_toInt_lt] at h0
  intro w
  rcases w with w | w
  · rw [Int32.lt_iff_toInt_lt] at w
    omega
  · rw [t] at w
    omega
theorem fits_cp {i j m : Int32} {n0 n1 : Nat} (h0 : n0 ≤ 60) (h1 : n1 ≤ 60) (a : ¬ FX11_fits i m (Int32.ofNat n0) = 0) (b : ¬ FX11_fits j m (Int32.ofNat n1) = 0) : cpok i j m n0 n1 := by
  have z : (0 : Int32).toInt = 0 := by decide
  have t : ∀ v : Int32, v.toNatClampNeg = v.toInt.toNat := fun _ => rfl
  have sub : ∀ {len : Nat} {x : Int32}, len ≤ 60 → ¬ x < 0 → ¬ Int32.ofNat len < x → (Int32.ofNat len - x).toInt = (len : Int) - x.toInt := fun {len x} hl h2 h3 => by
    rw [Int32.lt_iff_toInt_lt] at h2 h3
    rw [oN_i hl] at h3
    have f : iv 0 60 (Int32.ofNat len) := by unfold iv; rw [oN_i hl]; omega
    have g : iv 0 60 x := by unfold iv; omega
    have s := Int32.toInt_sub (Int32.ofNat len) x
    rw [s, oN_i hl]
    have := Int.bmod_eq_of_le (n := (len : Int) - x.toInt) (m := 2 ^ 32) (by omega) (by omega)
    exact this
  have key : ∀ {x : Int32} {len : Nat}, len ≤ 60 → ¬ FX11_fits x m (Int32.ofNat len) = 0 → ¬ m < 0 ∧ ¬ x < 0 ∧ x.toInt + m.toInt ≤ (len : Int) := fun {x len} hl q => by
    unfold FX11_fits at q
    by_cases c1 : m < 0
    · rw [if_pos c1] at q; exact absurd rfl q
    · rw [if_neg c1] at q
      by_cases c2 : x < 0
      · rw [if_pos c2] at q; exact absurd rfl q
      · rw [if_neg c2] at q
        by_cases c3 : Int32.ofNat len < m
        · rw [if_pos c3] at q; exact absurd rfl q
        · rw [if_neg c3] at q
          by_cases c4 : (Int32.ofNat len - m) < x
          · rw [if_pos c4] at q; exact absurd rfl q
          · refine ⟨c1, c2, ?_⟩
            rw [Int32.lt_iff_toInt_lt, sub hl c1 c3] at c4
            omega
  obtain ⟨k1, k2, k3⟩ := key h0 a
  obtain ⟨_, k5, k6⟩ := key h1 b
  have m1 := k1
  have i1 := k2
  have j1 := k5
  rw [Int32.lt_iff_toInt_lt, z] at m1 i1 j1
  refine ⟨k2, k5, k1, ?_, ?_⟩ <;> (rw [t, t]; omega)
section HELD
variable {l0 : Launch} {Y : fj_Y} {ad : Nat → Nat} {n : Nat} {S : ph_S} {h : ph_H} {pr : Nat}
/-! made anew -/
theorem GX1_init {p ci nf : Nat} {rf : Nat → Option (Option Nat)} {Cn : String} {T : u_T} {ty0 : Nat → FieldType} (v : Int32) (hp : p < n) (hS : S p = .inr (.inl (ci, nf, rf))) (hcl : vwCl[ci]? = some (Cn, T, nf)) (hin : ∀ w ∈ u_ws Cn T nf, w ∈ TW) (hty : ∀ k, k < nf → parseFieldDescriptor (T k).2.2.1 = some (ty0 k)) (hnm : ∀ a, a < nf → ∀ b, b < nf → a ≠ b → (T a).2.1 ≠ (T b).2.1) (h0 : 0 < nf) (hT : T 0 = ("ReplayBox$Held", "number", "I", true)) (hrf : rf 0 = none) : GM l0 yX1_init (.code yX1_init cX1_init 2 none) (mkR 1 0 0 12) Y ad n S h [.ref (ad p), .int v] (gQv Y ad n S h (fun u => u = (n, ad, S, hs h p 0 v))) := met_gv (by decide) (Nat.le_of_ble_eq_true rfl) (fun X C E N K => by
  refine j_vl (lv' := [(0, .ref (ad p)), (1, .int v)]) ?_ ⟨rfl, rfl, trivial⟩
  refine j_aload_n C dX1_init_0 rfl rfl ?_
  refine j_objInit C dX1_init_1 lo_RX1_1 oi_i oi_c (by decide) (by decide) ?_
  refine j_aload_n C dX1_init_4 rfl rfl ?_
  refine j_iload_n C dX1_init_5 rfl rfl ?_
  refine j_putFi (j := 0) (ref := "ReplayBox$Held") C N dX1_init_6 hp hS hcl hin hty hnm h0 (by rw [hT]; exact fl_RX1_7) (by rw [hT]) (by rw [hT]) (by rw [hT]; rfl) hrf (by rw [hT]; decide +kernel) ?_
  exact fj_xg1 (K _ 0 0 rfl (Nat.zero_le _) (Nat.zero_le _) _ _ dX1_init_9))
theorem GX0_init {p q r : Nat} (hp : p < n) (hS : S p = .inr (.inl (0, 2, rz (rfH r)))) : GM l0 yX0_init (.code yX0_init cX0_init 2 none) (mkR 2 0 0 33) Y ad n S h [.ref (ad p), .ref (ad q)] (gQv Y ad n S h (fun u => u = (n, ad, va_up S p (.inr (.inl (0, 2, rfH q))), hs h p 0 0))) := met_gv (by decide) (Nat.le_of_ble_eq_true rfl) (fun X C E N K => by
  refine j_vl (lv' := [(0, .ref (ad p)), (1, .ref (ad q))]) ?_ ⟨rfl, rfl, trivial⟩
  refine j_aload_n C dX0_init_0 rfl rfl ?_
  refine j_iconst (v := 0) C dX0_init_1 (by decide) ?_
  refine j_gv C (gr_I C E (GX1_init (T := TX0) 0 hp hS rfl inX0 tyX0_ok nmX0 (by decide) rfl rfl) dX0_init_2 (CKX1_init (by decide)) ⟨by decide, by decide⟩ lk_RX0_1 in_X1_init rfl rfl (Nat.le_of_ble_eq_true rfl)) ?_
  rintro u rfl
  refine fj_xg0 ?_
  refine j_aload_n C dX0_init_5 rfl rfl ?_
  refine j_aload_n C dX0_init_6 rfl rfl ?_
  refine j_putFr (j := 1) (ty := .array .byte) C N dX0_init_7 hp hS rfl inX0 tyX0_ok nmX0 (by decide) fl_RX0_7 rfl rfl rfl (by decide +kernel) (fun _ => rfl) (fun _ => rfl) ?_
  rw [rfH_up]
  exact fj_xg1 (K _ 0 0 rfl (Nat.zero_le _) (Nat.zero_le _) _ _ dX0_init_10))
theorem GX2_init {p q r : Nat} (hp : p < n) (hS : S p = .inr (.inl (1, 2, rz (rfH r)))) : GM l0 yX2_init (.code yX2_init cX2_init 2 none) (mkR 2 0 0 33) Y ad n S h [.ref (ad p), .ref (ad q)] (gQv Y ad n S h (fun u => u = (n, ad, va_up S p (.inr (.inl (1, 2, rfH q))), hs h p 0 0))) := met_gv (by decide) (Nat.le_of_ble_eq_true rfl) (fun X C E N K => by
  refine j_vl (lv' := [(0, .ref (ad p)), (1, .ref (ad q))]) ?_ ⟨rfl, rfl, trivial⟩
  refine j_aload_n C dX2_init_0 rfl rfl ?_
  refine j_iconst (v := 0) C dX2_init_1 (by decide) ?_
  refine j_gv C (gr_I C E (GX1_init (T := TX2) 0 hp hS rfl inX2 tyX2_ok nmX2 (by decide) rfl rfl) dX2_init_2 (CKX1_init (by decide)) ⟨by decide, by decide⟩ lk_RX2_1 in_X1_init rfl rfl (Nat.le_of_ble_eq_true rfl)) ?_
  rintro u rfl
  refine fj_xg0 ?_
  refine j_aload_n C dX2_init_5 rfl rfl ?_
  refine j_aload_n C dX2_init_6 rfl rfl ?_
  refine j_putFr (j := 1) (ty := .array .int) C N dX2_init_7 hp hS rfl inX2 tyX2_ok nmX2 (by decide) fl_RX2_7 rfl rfl rfl (by decide +kernel) (fun _ => rfl) (fun _ => rfl) ?_
  rw [rfH_up]
  exact fj_xg1 (K _ 0 0 rfl (Nat.zero_le _) (Nat.zero_le _) _ _ dX2_init_10))
theorem GX8_init_of {p ci nf : Nat} {rf : Nat → Option (Option Nat)} {Cn : String} {T : u_T} {ty0 : Nat → FieldType} (v : Int32) (hp : p < n) (hS : S p = .inr (.inl (ci, nf, rf))) (hcl : vwCl[ci]? = some (Cn, T, nf)) (hin : ∀ w ∈ u_ws Cn T nf, w ∈ TW) (hty : ∀ k, k < nf → parseFieldDescriptor (T k).2.2.1 = some (ty0 k)) (hnm : ∀ a, a < nf → ∀ b, b < nf → a ≠ b → (T a).2.1 ≠ (T b).2.1) (h0 : 0 < nf) (hT : T 0 = ("ReplayBox$Held", "number", "I", true)) (hrf : rf 0 = none) : GM l0 yX8_init (.code yX8_init cX8_init 2 none) (mkR 2 0 0 33) Y ad n S h [.ref (ad p), .int v] (gQv Y ad n S h (fun u => u = (n, ad, S, hs h p 0 v))) := met_gv (by decide) (Nat.le_of_ble_eq_true rfl) (fun X C E N K => by
  refine j_vl (lv' := [(0, .ref (ad p)), (1, .int v)]) ?_ ⟨rfl, rfl, trivial⟩
  refine j_aload_n C dX8_init_0 rfl rfl ?_
  refine j_iload_n C dX8_init_1 rfl rfl ?_
  refine j_gv C (gr_I C E (GX1_init v hp hS hcl hin hty hnm h0 hT hrf) dX8_init_2 (CKX1_init (by decide)) ⟨by decide, by decide⟩ lk_RX8_1 in_X1_init rfl rfl (Nat.le_of_ble_eq_true rfl)) ?_
  rintro u rfl
  exact K _ 0 0 rfl (Nat.zero_le _) (Nat.zero_le _) _ _ dX8_init_5)
theorem GX8_init {p : Nat} (v : Int32) (hp : p < n) (hS : S p = .inr (.inl (7, 1, rfN))) : GM l0 yX8_init (.code yX8_init cX8_init 2 none) (mkR 2 0 0 33) Y ad n S h [.ref (ad p), .int v] (gQv Y ad n S h (fun u => u = (n, ad, S, hs h p 0 v))) := GX8_init_of (T := TX8) v hp hS rfl inX8 tyX8_ok nmX8 (by decide) rfl rfl
theorem GX7_init {p : Nat} (v : Int32) (hp : p < n) (hS : S p = .inr (.inl (6, 1, rfN))) : GM l0 yX7_init (.code yX7_init cX7_init 2 none) (mkR 3 0 0 54) Y ad n S h [.ref (ad p), .int v] (gQv Y ad n S h (fun u => u = (n, ad, S, hs h p 0 v))) := met_gv (by decide) (Nat.le_of_ble_eq_true rfl) (fun X C E N K => by
  refine j_vl (lv' := [(0, .ref (ad p)), (1, .int v)]) ?_ ⟨rfl, rfl, trivial⟩
  refine j_aload_n C dX7_init_0 rfl rfl ?_
  refine j_iload_n C dX7_init_1 rfl rfl ?_
  refine j_gv C (gr_I C E (GX8_init_of (T := TX7) v hp hS rfl inX7 tyX7_ok nmX7 (by decide) rfl rfl) dX7_init_2 (CKX8_init (by decide)) ⟨by decide, by decide⟩ lk_RX7_1 in_X8_init rfl rfl (Nat.le_of_ble_eq_true rfl)) ?_
  rintro u rfl
  exact K _ 0 0 rfl (Nat.zero_le _) (Nat.zero_le _) _ _ dX7_init_5)
theorem GX9_init {p : Nat} (v w : Int32) (hp : p < n) (hS : S p = .inr (.inl (8, 2, rfN))) : GM l0 yX9_init (.code yX9_init cX9_init 3 none) (mkR 2 0 0 33) Y ad n S h [.ref (ad p), .int v, .int w] (gQv Y ad n S h (fun u => u = (n, ad, S, hs (hs h p 0 v) p 1 w))) := met_gv (by decide) (Nat.le_of_ble_eq_true rfl) (fun X C E N K => by
  refine j_vl (lv' := [(0, .ref (ad p)), (1, .int v), (2, .int w)]) ?_ ⟨rfl, rfl, rfl, trivial⟩
  refine j_aload_n C dX9_init_0 rfl rfl ?_
  refine j_iload_n C dX9_init_1 rfl rfl ?_
  refine j_gv C (gr_I C E (GX1_init (T := TX9) v hp hS rfl inX9 tyX9_ok nmX9 (by decide) rfl rfl) dX9_init_2 (CKX1_init (by decide)) ⟨by decide, by decide⟩ lk_RX9_1 in_X1_init rfl rfl (Nat.le_of_ble_eq_true rfl)) ?_
  rintro u rfl
  refine fj_xg0 ?_
  refine j_aload_n C dX9_init_5 rfl rfl ?_
  refine j_iload_n C dX9_init_6 rfl rfl ?_
  refine j_putFi (j := 1) (ref := "ReplayBox$ShelvedRow") C N dX9_init_7 hp hS rfl inX9 tyX9_ok nmX9 (by decide) fl_RX9_7 rfl rfl rfl rfl (by decide +kernel) ?_
  exact fj_xg1 (K _ 0 0 rfl (Nat.zero_le _) (Nat.zero_le _) _ _ dX9_init_10))
/-! read -/
abbrev PZ (n : Nat) (ad : Nat → Nat) (S : ph_S) (h : ph_H) : Int32 → gU → Prop := fun _ u => u = (n, ad, S, h)
abbrev PB (n : Nat) (ad : Nat → Nat) (S : ph_S) (h : ph_H) : Int32 → gU → Prop := fun r u => bo r ∧ u = (n, ad, S, h)
theorem GX1_isThing {p : Nat} : GM l0 yX1_isThing (.code yX1_isThing cX1_isThing 1 (some .boolean)) (mkR 0 0 0 0) Y ad n S h [.ref (ad p)] (gQi Y ad n S h (PB n ad S h)) := met_gi (by decide) (Nat.le_of_ble_eq_true rfl) (fun _ _ q => bo_n q.1) (fun X C E N K => by
  refine j_vl (lv' := []) ?_ trivial
  refine j_iconst (v := 0) C dX1_isThing_0 (by decide) ?_
  exact fj_xg1 (K _ _ 0 0 ⟨bo_0, rfl⟩ (Nat.zero_le _) (Nat.zero_le _) _ _ dX1_isThing_1))
theorem GX8_isThing {p : Nat} : GM l0 yX8_isThing (.code yX8_isThing cX8_isThing 1 (some .boolean)) (mkR 0 0 0 0) Y ad n S h [.ref (ad p)] (gQi Y ad n S h (PB n ad S h)) := met_gi (by decide) (Nat.le_of_ble_eq_true rfl) (fun _ _ q => bo_n q.1) (fun X C E N K => by
  refine j_vl (lv' := []) ?_ trivial
  refine j_iconst (v := 1) C dX8_isThing_0 (by decide) ?_
  exact fj_xg1 (K _ _ 0 0 ⟨bo_1, rfl⟩ (Nat.zero_le _) (Nat.zero_le _) _ _ dX8_isThing_1))
theorem GX9_isThing {p : Nat} : GM l0 yX9_isThing (.code yX9_isThing cX9_isThing 1 (some .boolean)) (mkR 0 0 0 0) Y ad n S h [.ref (ad p)] (gQi Y ad n S h (PB n ad S h)) := met_gi (by decide) (Nat.le_of_ble_eq_true rfl) (fun _ _ q => bo_n q.1) (fun X C E N K => by
  refine j_vl (lv' := []) ?_ trivial
  refine j_iconst (v := 1) C dX9_isThing_0 (by decide) ?_
  exact fj_xg1 (K _ _ 0 0 ⟨bo_1, rfl⟩ (Nat.zero_le _) (Nat.zero_le _) _ _ dX9_isThing_1))
theorem GX1_length {p : Nat} : GM l0 yX1_length (.code yX1_length cX1_length 1 (some .int)) (mkR 0 0 0 0) Y ad n S h [.ref (ad p)] (gQi Y ad n S h (PZ n ad S h)) := met_gi (by decide) (Nat.le_of_ble_eq_true rfl) (fun _ _ _ => rfl) (fun X C E N K => by
  refine j_vl (lv' := []) ?_ trivial
  refine j_iconst (v := 0) C dX1_length_0 (by decide) ?_
  exact fj_xg1 (K _ _ 0 0 rfl (Nat.zero_le _) (Nat.zero_le _) _ _ dX1_length_1))
theorem GX1_elementAt {p : Nat} {i : Int32} : GM l0 yX1_elementAt (.code yX1_elementAt cX1_elementAt 2 (some .int)) (mkR 0 0 0 0) Y ad n S h [.ref (ad p), .int i] (gQi Y ad n S h (PZ n ad S h)) := met_gi (by decide) (Nat.le_of_ble_eq_true rfl) (fun _ _ _ => rfl) (fun X C E N K => by
  refine j_vl (lv' := []) ?_ trivial
  refine j_iconst (v := 0) C dX1_elementAt_0 (by decide) ?_
  exact fj_xg1 (K _ _ 0 0 rfl (Nat.zero_le _) (Nat.zero_le _) _ _ dX1_elementAt_1))
theorem GX1_takesFrom {p q : Nat} : GM l0 yX1_takesFrom (.code yX1_takesFrom cX1_takesFrom 2 (some .boolean)) (mkR 0 0 0 0) Y ad n S h [.ref (ad p), .ref (ad q)] (gQi Y ad n S h (PB n ad S h)) := met_gi (by decide) (Nat.le_of_ble_eq_true rfl) (fun _ _ q => bo_n q.1) (fun X C E N K => by
  refine j_vl (lv' := []) ?_ trivial
  refine j_iconst (v := 0) C dX1_takesFrom_0 (by decide) ?_
  exact fj_xg1 (K _ _ 0 0 ⟨bo_0, rfl⟩ (Nat.zero_le _) (Nat.zero_le _) _ _ dX1_takesFrom_1))
theorem GX1_fill {p q : Nat} {i j m : Int32} : GM l0 yX1_fill (.code yX1_fill cX1_fill 5 none) (mkR 0 0 0 0) Y ad n S h [.ref (ad p), .int j, .ref (ad q), .int i, .int m] (gQv Y ad n S h (fun u => u = (n, ad, S, h))) := met_gv (by decide) (Nat.le_of_ble_eq_true rfl) (fun X C E N K => by
  refine j_vl (lv' := []) ?_ trivial
  exact fj_xg1 (K _ 0 0 rfl (Nat.zero_le _) (Nat.zero_le _) _ _ dX1_fill_0))
theorem GX1_heft {p ci nf : Nat} {rf : Nat → Option (Option Nat)} {Cn : String} {T : u_T} (hp : p < n) (hS : S p = .inr (.inl (ci, nf, rf))) (hcl : vwCl[ci]? = some (Cn, T, nf)) (hin : ∀ w ∈ u_ws Cn T nf, w ∈ TW) (h0 : 0 < nf) (hT : T 0 = ("ReplayBox$Held", "number", "I", true)) (hrf : rf 0 = none) : GM l0 yX1_heft (.code yX1_heft cX1_heft 1 (some .int)) (mkR 0 0 0 0) Y ad n S h [.ref (ad p)] (gQi Y ad n S h (PZ n ad S h)) := met_gi (by decide) (Nat.le_of_ble_eq_true rfl) (fun _ _ _ => rfl) (fun X C E N K => by
  refine j_vl (lv' := [(0, .ref (ad p))]) ?_ ⟨rfl, trivial⟩
  refine j_aload_n C dX1_heft_0 rfl rfl ?_
  refine j_get (j := 0) (ref := "ReplayBox$Held") (v := .int (h p 0)) C dX1_heft_1 hp hS hcl hin h0 (by rw [hT]; exact fl_RX1_7) (by rw [hT]) (by unfold ph_f; rw [hrf]) ?_
  refine j_iconst (v := 1) C dX1_heft_4 (by decide) ?_
  refine j_iadd C dX1_heft_5 ?_
  exact fj_xg1 (K _ _ 0 0 rfl (Nat.zero_le _) (Nat.zero_le _) _ _ dX1_heft_6))
theorem GX8_heft {p ci nf : Nat} {rf : Nat → Option (Option Nat)} {Cn : String} {T : u_T} (hp : p < n) (hS : S p = .inr (.inl (ci, nf, rf))) (hcl : vwCl[ci]? = some (Cn, T, nf)) (hin : ∀ w ∈ u_ws Cn T nf, w ∈ TW) (h0 : 0 < nf) (hT : T 0 = ("ReplayBox$Held", "number", "I", true)) (hrf : rf 0 = none) : GM l0 yX8_heft (.code yX8_heft cX8_heft 1 (some .int)) (mkR 1 0 0 20) Y ad n S h [.ref (ad p)] (gQi Y ad n S h (PZ n ad S h)) := met_gi (by decide) (Nat.le_of_ble_eq_true rfl) (fun _ _ _ => rfl) (fun X C E N K => by
  refine j_vl (lv' := [(0, .ref (ad p))]) ?_ ⟨rfl, trivial⟩
  refine j_aload_n C dX8_heft_0 rfl rfl ?_
  refine j_gi C (gr_SU (av := []) C E (GX1_heft hp hS hcl hin h0 hT hrf) dX8_heft_1 (CKX1_heft (by decide)) ⟨by decide, by decide⟩ lk_RX8_7 sm_X1_heft su_X8 in_X1_heft (by decide) hp hS hcl rfl (Nat.le_of_ble_eq_true rfl)) ?_
  rintro r u rfl
  refine fj_xg0 ?_
  refine j_bipush (v := 100) C dX8_heft_4 (by decide) ?_
  refine j_iadd C dX8_heft_6 ?_
  exact fj_xg1 (K _ _ 0 0 rfl (Nat.zero_le _) (Nat.zero_le _) _ _ dX8_heft_7))
theorem GX7_heft {p : Nat} (hp : p < n) (hS : S p = .inr (.inl (6, 1, rfN))) : GM l0 yX7_heft (.code yX7_heft cX7_heft 1 (some .int)) (mkR 2 0 0 40) Y ad n S h [.ref (ad p)] (gQi Y ad n S h (PZ n ad S h)) := met_gi (by decide) (Nat.le_of_ble_eq_true rfl) (fun _ _ _ => rfl) (fun X C E N K => by
  refine j_vl (lv' := [(0, .ref (ad p))]) ?_ ⟨rfl, trivial⟩
  refine j_iconst (v := 2) C dX7_heft_0 (by decide) ?_
  refine j_aload_n C dX7_heft_1 rfl rfl ?_
  refine j_gi C (gr_SU (av := []) C E (GX8_heft (T := TX7) hp hS rfl inX7 (by decide) rfl rfl) dX7_heft_2 (CKX8_heft (by decide)) ⟨by decide, by decide⟩ lk_RX7_7 sm_X8_heft su_X7 in_X8_heft (by decide) hp hS rfl rfl (Nat.le_of_ble_eq_true rfl)) ?_
  rintro r u rfl
  refine fj_xg0 ?_
  refine j_imul C dX7_heft_5 ?_
  exact fj_xg1 (K _ _ 0 0 rfl (Nat.zero_le _) (Nat.zero_le _) _ _ dX7_heft_6))
theorem GX9_heft {p : Nat} (hp : p < n) (hS : S p = .inr (.inl (8, 2, rfN))) : GM l0 yX9_heft (.code yX9_heft cX9_heft 1 (some .int)) (mkR 1 0 0 20) Y ad n S h [.ref (ad p)] (gQi Y ad n S h (PZ n ad S h)) := met_gi (by decide) (Nat.le_of_ble_eq_true rfl) (fun _ _ _ => rfl) (fun X C E N K => by
  refine j_vl (lv' := [(0, .ref (ad p))]) ?_ ⟨rfl, trivial⟩
  refine j_aload_n C dX9_heft_0 rfl rfl ?_
  refine j_gi C (gr_SU (av := []) C E (GX1_heft (T := TX9) hp hS rfl inX9 (by decide) rfl rfl) dX9_heft_1 (CKX1_heft (by decide)) ⟨by decide, by decide⟩ lk_RX9_13 sm_X1_heft su_X9 in_X1_heft (by decide) hp hS rfl rfl (Nat.le_of_ble_eq_true rfl)) ?_
  rintro r u rfl
  refine fj_xg0 ?_
  refine j_bipush (v := 10) C dX9_heft_4 (by decide) ?_
  refine j_aload_n C dX9_heft_6 rfl rfl ?_
  refine j_get (j := 1) (ref := "ReplayBox$ShelvedRow") (v := .int (h p 1)) C dX9_heft_7 hp hS rfl inX9 (by decide) fl_RX9_7 rfl rfl ?_
  refine j_imul C dX9_heft_10 ?_
  refine j_iadd C dX9_heft_11 ?_
  exact fj_xg1 (K _ _ 0 0 rfl (Nat.zero_le _) (Nat.zero_le _) _ _ dX9_heft_12))
theorem GX0_length {p q len : Nat} (hp : p < n) (hS : S p = .inr (.inl (0, 2, rfH q))) (hq : q < n) (hSq : S q = .inl (2, len)) : GM l0 yX0_length (.code yX0_length cX0_length 1 (some .int)) (mkR 0 0 0 0) Y ad n S h [.ref (ad p)] (gQi Y ad n S h (PZ n ad S h)) := met_gi (by decide) (Nat.le_of_ble_eq_true rfl) (fun _ _ _ => rfl) (fun X C E N K => by
  refine j_vl (lv' := [(0, .ref (ad p))]) ?_ ⟨rfl, trivial⟩
  refine j_aload_n C dX0_length_0 rfl rfl ?_
  refine j_get (j := 1) (ref := "ReplayBox$Bytes") (v := .ref (ad q)) C dX0_length_1 hp hS rfl inX0 (by decide) fl_RX0_7 rfl rfl ?_
  refine j_alen (v := Int32.ofNat len) (ty := .byte) C dX0_length_4 hq hSq rfl rfl ?_
  exact fj_xg1 (K _ _ 0 0 rfl (Nat.zero_le _) (Nat.zero_le _) _ _ dX0_length_5))
theorem GX0_elementAt {p q len : Nat} {i : Int32} (hp : p < n) (hS : S p = .inr (.inl (0, 2, rfH q))) (hq : q < n) (hSq : S q = .inl (2, len)) (hl : len ≤ 60) : GM l0 yX0_elementAt (.code yX0_elementAt cX0_elementAt 2 (some .int)) (mkR 0 0 0 0) Y ad n S h [.ref (ad p), .int i] (gQi Y ad n S h (PZ n ad S h)) := met_gi (by decide) (Nat.le_of_ble_eq_true rfl) (fun _ _ _ => rfl) (fun X C E N K => by
  refine j_vl (lv' := [(0, .ref (ad p)), (1, .int i)]) ?_ ⟨rfl, rfl, trivial⟩
  have z : ∀ lv, FJ X Y ad n S h 22 lv [] := fun lv => by
    refine j_iconst (v := 0) C dX0_elementAt_22 (by decide) ?_
    exact fj_xg1 (K _ _ 0 0 rfl (Nat.zero_le _) (Nat.zero_le _) _ _ dX0_elementAt_23)
  refine j_iload_n C dX0_elementAt_0 rfl rfl ?_
  refine j_if_lt (tgt := 22) C dX0_elementAt_1 (by decide) (fun _ => z _) (fun c0 => ?_)
  refine j_iload_n C dX0_elementAt_4 rfl rfl ?_
  refine j_aload_n C dX0_elementAt_5 rfl rfl ?_
  refine j_get (j := 1) (ref := "ReplayBox$Bytes") (v := .ref (ad q)) C dX0_elementAt_6 hp hS rfl inX0 (by decide) fl_RX0_7 rfl rfl ?_
  refine j_alen (v := Int32.ofNat len) (ty := .byte) C dX0_elementAt_9 hq hSq rfl rfl ?_
  refine j_icmp_ge (tgt := 22) C dX0_elementAt_10 (by decide) (fun _ => z _) (fun c1 => ?_)
  refine j_aload_n C dX0_elementAt_13 rfl rfl ?_
  refine j_get (j := 1) (ref := "ReplayBox$Bytes") (v := .ref (ad q)) C dX0_elementAt_14 hp hS rfl inX0 (by decide) fl_RX0_7 rfl rfl ?_
  refine j_iload_n C dX0_elementAt_17 rfl rfl ?_
  refine j_bald (k := q) C dX0_elementAt_18 hq hSq (in_of c0 c1 hl) rfl ?_
  refine j_goto (tgt := 23) C dX0_elementAt_19 (by decide) ?_
  exact fj_xg1 (K _ _ 0 0 rfl (Nat.zero_le _) (Nat.zero_le _) _ _ dX0_elementAt_23))
theorem GX2_length {p q len : Nat} (hp : p < n) (hS : S p = .inr (.inl (1, 2, rfH q))) (hq : q < n) (hSq : S q = .inl (0, len)) : GM l0 yX2_length (.code yX2_length cX2_length 1 (some .int)) (mkR 0 0 0 0) Y ad n S h [.ref (ad p)] (gQi Y ad n S h (PZ n ad S h)) := met_gi (by decide) (Nat.le_of_ble_eq_true rfl) (fun _ _ _ => rfl) (fun X C E N K => by
  refine j_vl (lv' := [(0, .ref (ad p))]) ?_ ⟨rfl, trivial⟩
  refine j_aload_n C dX2_length_0 rfl rfl ?_
  refine j_get (j := 1) (ref := "ReplayBox$Ints") (v := .ref (ad q)) C dX2_length_1 hp hS rfl inX2 (by decide) fl_RX2_7 rfl rfl ?_
  refine j_alen (v := Int32.ofNat len) (ty := .int) C dX2_length_4 hq hSq rfl rfl ?_
  exact fj_xg1 (K _ _ 0 0 rfl (Nat.zero_le _) (Nat.zero_le _) _ _ dX2_length_5))
theorem GX2_elementAt {p q len : Nat} {i : Int32} (hp : p < n) (hS : S p = .inr (.inl (1, 2, rfH q))) (hq : q < n) (hSq : S q = .inl (0, len)) (hl : len ≤ 60) : GM l0 yX2_elementAt (.code yX2_elementAt cX2_elementAt 2 (some .int)) (mkR 0 0 0 0) Y ad n S h [.ref (ad p), .int i] (gQi Y ad n S h (PZ n ad S h)) := met_gi (by decide) (Nat.le_of_ble_eq_true rfl) (fun _ _ _ => rfl) (fun X C E N K => by
  refine j_vl (lv' := [(0, .ref (ad p)), (1, .int i)]) ?_ ⟨rfl, rfl, trivial⟩
  have z : ∀ lv, FJ X Y ad n S h 22 lv [] := fun lv => by
    refine j_iconst (v := 0) C dX2_elementAt_22 (by decide) ?_
    exact fj_xg1 (K _ _ 0 0 rfl (Nat.zero_le _) (Nat.zero_le _) _ _ dX2_elementAt_23)
  refine j_iload_n C dX2_elementAt_0 rfl rfl ?_
  refine j_if_lt (tgt := 22) C dX2_elementAt_1 (by decide) (fun _ => z _) (fun c0 => ?_)
  refine j_iload_n C dX2_elementAt_4 rfl rfl ?_
  refine j_aload_n C dX2_elementAt_5 rfl rfl ?_
  refine j_get (j := 1) (ref := "ReplayBox$Ints") (v := .ref (ad q)) C dX2_elementAt_6 hp hS rfl inX2 (by decide) fl_RX2_7 rfl rfl ?_
  refine j_alen (v := Int32.ofNat len) (ty := .int) C dX2_elementAt_9 hq hSq rfl rfl ?_
  refine j_icmp_ge (tgt := 22) C dX2_elementAt_10 (by decide) (fun _ => z _) (fun c1 => ?_)
  refine j_aload_n C dX2_elementAt_13 rfl rfl ?_
  refine j_get (j := 1) (ref := "ReplayBox$Ints") (v := .ref (ad q)) C dX2_elementAt_14 hp hS rfl inX2 (by decide) fl_RX2_7 rfl rfl ?_
  refine j_iload_n C dX2_elementAt_17 rfl rfl ?_
  refine j_iald (k := q) C dX2_elementAt_18 hq hSq (in_of c0 c1 hl) rfl ?_
  refine j_goto (tgt := 23) C dX2_elementAt_19 (by decide) ?_
  exact fj_xg1 (K _ _ 0 0 rfl (Nat.zero_le _) (Nat.zero_le _) _ _ dX2_elementAt_23))
end HELD
end MG_34_held
section MG_35_held2
/-! what SHELVES hold, called through Held -/
theorem cl_RX11_350 : Cond.classLink RX11 350 "java/lang/UnsupportedOperationException" ∈ TW := (TWt 952 (by decide +kernel) (by decide +kernel))
theorem FC.room {X : fj_X} {Y : fj_Y} {l : Launch} {cc : ByteArray} {nL : Nat} {own : String} {rm : Room} {mc ms : Nat} {ret : Option FieldType} (C : FC X Y l cc nL own rm mc ms ret) : mc ≤ rm.cells ∧ ms ≤ rm.slots := by
  obtain ⟨⟨p, l, e, R⟩, ⟨s, m, args, below, meth, c⟩, ⟨cells, slots, Q⟩, ⟨nL', A⟩⟩ := X
  obtain ⟨G, cA⟩ := Y
  obtain ⟨hx, hb, hml, hown, hts, hK, hlk, hR, hce, hsl, hnl, hret, htr, hmc, hms, hA⟩ := C
  exact ⟨hmc, hms⟩
theorem ckq {rm rm2 : Room} {m : Nat} (hR : 3 ≤ rm.frames ∧ 60 ≤ rm.locals) (q : (decide (rm2.frames ≤ 2) && decide (8 + (m + 11) + rm2.locals ≤ 60)) = true) : rm2.frames + 1 ≤ rm.frames ∧ 8 + (m + 11) + rm2.locals ≤ rm.locals := by
  simp only [Bool.and_eq_true, decide_eq_true_eq] at q
  omega
/-- the class's numbers are kept, and byte rows hold bytes -/
def HR (n : Nat) (S : ph_S) (h h' : ph_H) : Prop := (∀ k, k < 60 → h' k = h k) ∧ (BY n S h → BY n S h')
theorem HR.rf {n : Nat} {S : ph_S} {h : ph_H} : HR n S h h := ⟨fun _ _ => rfl, id⟩
theorem hc_BY {n : Nat} {S : ph_S} {h : ph_H} {r q len : Nat} {sp dp m : Int32} (hr : 60 ≤ r ∧ r < n) (hSr : S r = .inl (2, len)) (b : BY n S h) : BY n S (hc h r q sp dp m) := by
  intro k l2 h1 h2 h3 i
  by_cases e : k = q
  · subst e
    rcases hc_i (h := h) (k0 := r) (k1 := k) (sp := sp) (dp := dp) (m := m) (i := i) with ⟨j, w⟩ | w
    · rw [w]
      exact b r len hr.1 hr.2 hSr j
    · rw [w]
      exact b k l2 h1 h2 h3 i
  · rw [hc_o e]
    exact b k l2 h1 h2 h3 i
theorem hc_BYi {n : Nat} {S : ph_S} {h : ph_H} {r q len : Nat} {sp dp m : Int32} (hSq : S q = .inl (0, len)) (b : BY n S h) : BY n S (hc h r q sp dp m) := by
  intro k l2 h1 h2 h3 i
  by_cases e : k = q
  · subst e
    rw [hSq] at h3
    cases h3
  · rw [hc_o e]
    exact b k l2 h1 h2 h3 i
theorem hc_lo {h : ph_H} {r q : Nat} {sp dp m : Int32} (hq : 60 ≤ q) : ∀ k, k < 60 → hc h r q sp dp m k = h k := fun k hk => by
  funext i
  exact hc_o (by omega)
section H2
variable {X : fj_X} {Y : fj_Y} {l0 : Launch} {cc : ByteArray} {nL : Nat} {rm : Room} {mc ms : Nat} {ret : Option FieldType} {ad : Nat → Nat} {n : Nat} {S : ph_S} {h : ph_H} {pc : Nat} {lv : List (Nat × Value)} {st : List Value} {pr : Nat}
theorem j_instX0 {q : Nat} (C : FC X Y l0 cc nL RX0 rm mc ms ret) (E : FE X) (o : HO n S q) (hd : decode cc pc = .ok (.instanceof 8, 3)) (kk1 : ∀ r len, S q = .inr (.inl (0, 2, rfH r)) → 60 ≤ r → r < n → S r = .inl (2, len) → len ≤ 60 → FJ X Y ad n S h (pc + 3) lv (.int 1 :: st)) (kk0 : FJ X Y ad n S h (pc + 3) lv (.int 0 :: st)) : FJ X Y ad n S h pc lv (.ref (ad q) :: st) := by
  obtain ⟨o1, o2, o3⟩ := o
  rcases o3 with ⟨r, len, a, b, c, d, e⟩ | ⟨r, len, a, b, c, d, e⟩ | a | a | a
  · exact j_inst (T := TX0) C hd cl_RX0_8 o2 a rfl (Or.inl ⟨rfl, rfl⟩) (kk1 r len a b c d e)
  · exact j_inst (T := TX2) C hd cl_RX0_8 o2 a rfl (Or.inr ⟨rfl, E, by decide +kernel⟩) kk0
  · exact j_inst (T := TX9) C hd cl_RX0_8 o2 a rfl (Or.inr ⟨rfl, E, by decide +kernel⟩) kk0
  · exact j_inst (T := TX8) C hd cl_RX0_8 o2 a rfl (Or.inr ⟨rfl, E, by decide +kernel⟩) kk0
  · exact j_inst (T := TX7) C hd cl_RX0_8 o2 a rfl (Or.inr ⟨rfl, E, by decide +kernel⟩) kk0
theorem GX0_takesFrom {p q : Nat} (o : HO n S q) : GM l0 yX0_takesFrom (.code yX0_takesFrom cX0_takesFrom 2 (some .boolean)) (mkR 0 0 0 0) Y ad n S h [.ref (ad p), .ref (ad q)] (gQi Y ad n S h (PB n ad S h)) := met_gi (by decide) (Nat.le_of_ble_eq_true rfl) (fun _ _ q => bo_n q.1) (fun X C E N K => by
  refine j_vl (lv' := [(1, .ref (ad q))]) ?_ ⟨rfl, trivial⟩
  refine j_aload_n C dX0_takesFrom_0 rfl rfl ?_
  refine j_instX0 C E o dX0_takesFrom_1 (fun _ _ _ _ _ _ _ => ?_) ?_
  · exact fj_xg1 (K _ _ 0 0 ⟨bo_1, rfl⟩ (Nat.zero_le _) (Nat.zero_le _) _ _ dX0_takesFrom_4)
  · exact fj_xg1 (K _ _ 0 0 ⟨bo_0, rfl⟩ (Nat.zero_le _) (Nat.zero_le _) _ _ dX0_takesFrom_4))
set_option maxRecDepth 100000 in
theorem GX0_fill {p q r0 len0 : Nat} {i j m : Int32} (W : WS pr n S) (hp : p < n) (hS : S p = .inr (.inl (0, 2, rfH q))) (hq0 : 60 ≤ q) (hq : q < n) (hSq : S q = .inl (2, len0)) (hl0 : len0 ≤ 60) (o : HO n S r0) (hb : BY n S h) : GM l0 yX0_fill (.code yX0_fill cX0_fill 6 none) (mkR 1 0 0 26) Y ad n S h [.ref (ad p), .int j, .ref (ad r0), .int i, .int m] (gQv Y ad n S h (fun u => ∃ h', u = (n, ad, S, h') ∧ HR n S h h')) := met_gv (by decide) (Nat.le_of_ble_eq_true rfl) (fun X C E N K => by
  refine j_vl (lv' := [(0, .ref (ad p)), (1, .int j), (2, .ref (ad r0)), (3, .int i), (4, .int m)]) ?_ ⟨rfl, rfl, rfl, rfl, rfl, trivial⟩
  have z : ∀ lv h', HR n S h h' → FJ X Y ad n S h' 58 lv [] := fun lv h' q => fj_xg1 (K _ 0 0 ⟨h', rfl, q⟩ (Nat.zero_le _) (Nat.zero_le _) _ _ dX0_fill_58)
  refine j_aload_n C dX0_fill_0 rfl rfl ?_
  refine j_instX0 C E o dX0_fill_1 (fun r len a hr1 hr2 hSr hl => ?_) (j_if_eq (tgt := 58) C dX0_fill_4 (by decide) (fun _ => z _ _ HR.rf) (fun c => absurd rfl c))
  refine j_if_eq (tgt := 58) C dX0_fill_4 (by decide) (fun c => absurd c (by decide)) (fun _ => ?_)
  refine j_aload_n C dX0_fill_7 rfl rfl ?_
  refine j_cast (T := TX0) C dX0_fill_8 cl_RX0_8 o.2.1 a rfl ?_
  refine j_astore C dX0_fill_11 (by decide) rfl ?_
  refine j_iload_n C dX0_fill_13 rfl rfl ?_
  refine j_iload C dX0_fill_14 rfl ?_
  refine j_aload C dX0_fill_16 rfl ?_
  refine j_get (j := 1) (ref := "ReplayBox$Bytes") (v := .ref (ad r)) C dX0_fill_18 o.2.1 a rfl inX0 (by decide) fl_RX0_7 rfl rfl ?_
  refine j_alen (v := Int32.ofNat len) (ty := .byte) C dX0_fill_21 hr2 hSr rfl rfl ?_
  refine j_callSN C E (MX11_fits W i m (Int32.ofNat len) h (SX11_fits _ _ _).1) dX0_fill_22 (CKX11_fits (by decide)) ⟨rfl, rfl⟩ (host := "ReplayBox") (by decide +kernel) st_X11_fits rfl (Nat.le_of_ble_eq_true rfl) ?_
  rintro r1 S' h' ⟨e1, e2, e3, -⟩
  subst e1 e2 e3
  refine j_if_eq (tgt := 58) C dX0_fill_25 (by decide) (fun _ => z _ _ HR.rf) (fun f1 => ?_)
  refine j_iload_n C dX0_fill_28 rfl rfl ?_
  refine j_iload C dX0_fill_29 rfl ?_
  refine j_aload_n C dX0_fill_31 rfl rfl ?_
  refine j_get (j := 1) (ref := "ReplayBox$Bytes") (v := .ref (ad q)) C dX0_fill_32 hp hS rfl inX0 (by decide) fl_RX0_7 rfl rfl ?_
  refine j_alen (v := Int32.ofNat len0) (ty := .byte) C dX0_fill_35 hq hSq rfl rfl ?_
  refine j_callSN C E (MX11_fits W j m (Int32.ofNat len0) h' (SX11_fits _ _ _).1) dX0_fill_36 (CKX11_fits (by decide)) ⟨rfl, rfl⟩ (host := "ReplayBox") (by decide +kernel) st_X11_fits rfl (Nat.le_of_ble_eq_true rfl) ?_
  rintro r2 S2 h2 ⟨e1, e2, e3, -⟩
  subst e1 e2 e3
  refine j_if_eq (tgt := 58) C dX0_fill_39 (by decide) (fun _ => z _ _ HR.rf) (fun f2 => ?_)
  refine j_aload C dX0_fill_42 rfl ?_
  refine j_get (j := 1) (ref := "ReplayBox$Bytes") (v := .ref (ad r)) C dX0_fill_44 o.2.1 a rfl inX0 (by decide) fl_RX0_7 rfl rfl ?_
  refine j_iload_n C dX0_fill_47 rfl rfl ?_
  refine j_aload_n C dX0_fill_48 rfl rfl ?_
  refine j_get (j := 1) (ref := "ReplayBox$Bytes") (v := .ref (ad q)) C dX0_fill_49 hp hS rfl inX0 (by decide) fl_RX0_7 rfl rfl ?_
  refine j_iload_n C dX0_fill_52 rfl rfl ?_
  refine j_iload C dX0_fill_53 rfl ?_
  refine j_copyB (k0 := r) (k1 := q) C dX0_fill_55 lk_RX0_19 ac_n ac_s ac_i hr2 hSr hq hSq (hb r len hr1 hr2 hSr) (fits_cp hl hl0 f1 f2) (by decide) (Nat.le_of_ble_eq_true rfl) ?_
  exact z _ _ ⟨hc_lo hq0, fun b => hc_BY ⟨hr1, hr2⟩ hSr b⟩)
theorem j_instX2 {q : Nat} (C : FC X Y l0 cc nL RX2 rm mc ms ret) (E : FE X) (o : HO n S q) (hd : decode cc pc = .ok (.instanceof 8, 3)) (kk1 : ∀ r len, S q = .inr (.inl (1, 2, rfH r)) → 60 ≤ r → r < n → S r = .inl (0, len) → len ≤ 60 → FJ X Y ad n S h (pc + 3) lv (.int 1 :: st)) (kk0 : FJ X Y ad n S h (pc + 3) lv (.int 0 :: st)) : FJ X Y ad n S h pc lv (.ref (ad q) :: st) := by
  obtain ⟨o1, o2, o3⟩ := o
  rcases o3 with ⟨r, len, a, b, c, d, e⟩ | ⟨r, len, a, b, c, d, e⟩ | a | a | a
  · exact j_inst (T := TX0) C hd cl_RX2_8 o2 a rfl (Or.inr ⟨rfl, E, by decide +kernel⟩) kk0
  · exact j_inst (T := TX2) C hd cl_RX2_8 o2 a rfl (Or.inl ⟨rfl, rfl⟩) (kk1 r len a b c d e)
  · exact j_inst (T := TX9) C hd cl_RX2_8 o2 a rfl (Or.inr ⟨rfl, E, by decide +kernel⟩) kk0
  · exact j_inst (T := TX8) C hd cl_RX2_8 o2 a rfl (Or.inr ⟨rfl, E, by decide +kernel⟩) kk0
  · exact j_inst (T := TX7) C hd cl_RX2_8 o2 a rfl (Or.inr ⟨rfl, E, by decide +kernel⟩) kk0
theorem GX2_takesFrom {p q : Nat} (o : HO n S q) : GM l0 yX2_takesFrom (.code yX2_takesFrom cX2_takesFrom 2 (some .boolean)) (mkR 0 0 0 0) Y ad n S h [.ref (ad p), .ref (ad q)] (gQi Y ad n S h (PB n ad S h)) := met_gi (by decide) (Nat.le_of_ble_eq_true rfl) (fun _ _ q => bo_n q.1) (fun X C E N K => by
  refine j_vl (lv' := [(1, .ref (ad q))]) ?_ ⟨rfl, trivial⟩
  refine j_aload_n C dX2_takesFrom_0 rfl rfl ?_
  refine j_instX2 C E o dX2_takesFrom_1 (fun _ _ _ _ _ _ _ => ?_) ?_
  · exact fj_xg1 (K _ _ 0 0 ⟨bo_1, rfl⟩ (Nat.zero_le _) (Nat.zero_le _) _ _ dX2_takesFrom_4)
  · exact fj_xg1 (K _ _ 0 0 ⟨bo_0, rfl⟩ (Nat.zero_le _) (Nat.zero_le _) _ _ dX2_takesFrom_4))
set_option maxRecDepth 100000 in
theorem GX2_fill {p q r0 len0 : Nat} {i j m : Int32} (W : WS pr n S) (hp : p < n) (hS : S p = .inr (.inl (1, 2, rfH q))) (hq0 : 60 ≤ q) (hq : q < n) (hSq : S q = .inl (0, len0)) (hl0 : len0 ≤ 60) (o : HO n S r0) (hb : BY n S h) : GM l0 yX2_fill (.code yX2_fill cX2_fill 6 none) (mkR 1 0 0 26) Y ad n S h [.ref (ad p), .int j, .ref (ad r0), .int i, .int m] (gQv Y ad n S h (fun u => ∃ h', u = (n, ad, S, h') ∧ HR n S h h')) := met_gv (by decide) (Nat.le_of_ble_eq_true rfl) (fun X C E N K => by
  refine j_vl (lv' := [(0, .ref (ad p)), (1, .int j), (2, .ref (ad r0)), (3, .int i), (4, .int m)]) ?_ ⟨rfl, rfl, rfl, rfl, rfl, trivial⟩
  have z : ∀ lv h', HR n S h h' → FJ X Y ad n S h' 58 lv [] := fun lv h' q => fj_xg1 (K _ 0 0 ⟨h', rfl, q⟩ (Nat.zero_le _) (Nat.zero_le _) _ _ dX2_fill_58)
  refine j_aload_n C dX2_fill_0 rfl rfl ?_
  refine j_instX2 C E o dX2_fill_1 (fun r len a hr1 hr2 hSr hl => ?_) (j_if_eq (tgt := 58) C dX2_fill_4 (by decide) (fun _ => z _ _ HR.rf) (fun c => absurd rfl c))
  refine j_if_eq (tgt := 58) C dX2_fill_4 (by decide) (fun c => absurd c (by decide)) (fun _ => ?_)
  refine j_aload_n C dX2_fill_7 rfl rfl ?_
  refine j_cast (T := TX2) C dX2_fill_8 cl_RX2_8 o.2.1 a rfl ?_
  refine j_astore C dX2_fill_11 (by decide) rfl ?_
  refine j_iload_n C dX2_fill_13 rfl rfl ?_
  refine j_iload C dX2_fill_14 rfl ?_
  refine j_aload C dX2_fill_16 rfl ?_
  refine j_get (j := 1) (ref := "ReplayBox$Ints") (v := .ref (ad r)) C dX2_fill_18 o.2.1 a rfl inX2 (by decide) fl_RX2_7 rfl rfl ?_
  refine j_alen (v := Int32.ofNat len) (ty := .int) C dX2_fill_21 hr2 hSr rfl rfl ?_
  refine j_callSN C E (MX11_fits W i m (Int32.ofNat len) h (SX11_fits _ _ _).1) dX2_fill_22 (CKX11_fits (by decide)) ⟨rfl, rfl⟩ (host := "ReplayBox") (by decide +kernel) st_X11_fits rfl (Nat.le_of_ble_eq_true rfl) ?_
  rintro r1 S' h' ⟨e1, e2, e3, -⟩
  subst e1 e2 e3
  refine j_if_eq (tgt := 58) C dX2_fill_25 (by decide) (fun _ => z _ _ HR.rf) (fun f1 => ?_)
  refine j_iload_n C dX2_fill_28 rfl rfl ?_
  refine j_iload C dX2_fill_29 rfl ?_
  refine j_aload_n C dX2_fill_31 rfl rfl ?_
  refine j_get (j := 1) (ref := "ReplayBox$Ints") (v := .ref (ad q)) C dX2_fill_32 hp hS rfl inX2 (by decide) fl_RX2_7 rfl rfl ?_
  refine j_alen (v := Int32.ofNat len0) (ty := .int) C dX2_fill_35 hq hSq rfl rfl ?_
  refine j_callSN C E (MX11_fits W j m (Int32.ofNat len0) h' (SX11_fits _ _ _).1) dX2_fill_36 (CKX11_fits (by decide)) ⟨rfl, rfl⟩ (host := "ReplayBox") (by decide +kernel) st_X11_fits rfl (Nat.le_of_ble_eq_true rfl) ?_
  rintro r2 S2 h2 ⟨e1, e2, e3, -⟩
  subst e1 e2 e3
  refine j_if_eq (tgt := 58) C dX2_fill_39 (by decide) (fun _ => z _ _ HR.rf) (fun f2 => ?_)
  refine j_aload C dX2_fill_42 rfl ?_
  refine j_get (j := 1) (ref := "ReplayBox$Ints") (v := .ref (ad r)) C dX2_fill_44 o.2.1 a rfl inX2 (by decide) fl_RX2_7 rfl rfl ?_
  refine j_iload_n C dX2_fill_47 rfl rfl ?_
  refine j_aload_n C dX2_fill_48 rfl rfl ?_
  refine j_get (j := 1) (ref := "ReplayBox$Ints") (v := .ref (ad q)) C dX2_fill_49 hp hS rfl inX2 (by decide) fl_RX2_7 rfl rfl ?_
  refine j_iload_n C dX2_fill_52 rfl rfl ?_
  refine j_iload C dX2_fill_53 rfl ?_
  refine j_copy (k0 := r) (k1 := q) C dX2_fill_55 lk_RX2_19 ac_n ac_s ac_i hr2 hSr hq hSq (fits_cp hl hl0 f1 f2) (by decide) (Nat.le_of_ble_eq_true rfl) ?_
  exact z _ _ ⟨hc_lo hq0, fun b => hc_BYi hSq b⟩)
theorem hv_length {p : Nat} (C : FC X Y l0 cc nL RX11 rm mc ms ret) (E : FE X) (o : HO n S p) (hd : decode cc pc = .ok (.invokevirtual 316, 3)) (hR : 3 ≤ rm.frames ∧ 60 ≤ rm.locals) (hroom : (st.map fun v => v.category).sum ≤ 8) (kk : ∀ r : Int32, FJ X Y ad n S h (pc + 3) lv (.int r :: st)) : FJ X Y ad n S h pc lv (.ref (ad p) :: st) := by
  obtain ⟨o1, o2, o3⟩ := o
  rcases o3 with ⟨r, len, a, b, c, d, e⟩ | ⟨r, len, a, b, c, d, e⟩ | a | a | a
  · exact j_gi C (gr_U (av := []) C E (GX0_length o2 a c d) hd (CKX0_length (ckq hR (by decide))) C.room cu_length_X0 o2 a rfl rfl hroom) (fun r u q => by
      obtain rfl := q
      exact fj_xg0 (kk r))
  · exact j_gi C (gr_U (av := []) C E (GX2_length o2 a c d) hd (CKX2_length (ckq hR (by decide))) C.room cu_length_X2 o2 a rfl rfl hroom) (fun r u q => by
      obtain rfl := q
      exact fj_xg0 (kk r))
  · exact j_gi C (gr_U (av := []) C E (GX1_length) hd (CKX1_length (ckq hR (by decide))) C.room cu_length_X9 o2 a rfl rfl hroom) (fun r u q => by
      obtain rfl := q
      exact fj_xg0 (kk r))
  · exact j_gi C (gr_U (av := []) C E (GX1_length) hd (CKX1_length (ckq hR (by decide))) C.room cu_length_X8 o2 a rfl rfl hroom) (fun r u q => by
      obtain rfl := q
      exact fj_xg0 (kk r))
  · exact j_gi C (gr_U (av := []) C E (GX1_length) hd (CKX1_length (ckq hR (by decide))) C.room cu_length_X7 o2 a rfl rfl hroom) (fun r u q => by
      obtain rfl := q
      exact fj_xg0 (kk r))
theorem hv_isThing {p : Nat} (C : FC X Y l0 cc nL RX11 rm mc ms ret) (E : FE X) (o : HO n S p) (hd : decode cc pc = .ok (.invokevirtual 336, 3)) (hR : 3 ≤ rm.frames ∧ 60 ≤ rm.locals) (hroom : (st.map fun v => v.category).sum ≤ 8) (kk : ∀ r : Int32, FJ X Y ad n S h (pc + 3) lv (.int r :: st)) : FJ X Y ad n S h pc lv (.ref (ad p) :: st) := by
  obtain ⟨o1, o2, o3⟩ := o
  rcases o3 with ⟨r, len, a, b, c, d, e⟩ | ⟨r, len, a, b, c, d, e⟩ | a | a | a
  · exact j_gi C (gr_U (av := []) C E (GX1_isThing) hd (CKX1_isThing (ckq hR (by decide))) C.room cu_isThing_X0 o2 a rfl rfl hroom) (fun r u q => by
      obtain ⟨-, rfl⟩ := q
      exact fj_xg0 (kk r))
  · exact j_gi C (gr_U (av := []) C E (GX1_isThing) hd (CKX1_isThing (ckq hR (by decide))) C.room cu_isThing_X2 o2 a rfl rfl hroom) (fun r u q => by
      obtain ⟨-, rfl⟩ := q
      exact fj_xg0 (kk r))
  · exact j_gi C (gr_U (av := []) C E (GX9_isThing) hd (CKX9_isThing (ckq hR (by decide))) C.room cu_isThing_X9 o2 a rfl rfl hroom) (fun r u q => by
      obtain ⟨-, rfl⟩ := q
      exact fj_xg0 (kk r))
  · exact j_gi C (gr_U (av := []) C E (GX8_isThing) hd (CKX8_isThing (ckq hR (by decide))) C.room cu_isThing_X8 o2 a rfl rfl hroom) (fun r u q => by
      obtain ⟨-, rfl⟩ := q
      exact fj_xg0 (kk r))
  · exact j_gi C (gr_U (av := []) C E (GX8_isThing) hd (CKX8_isThing (ckq hR (by decide))) C.room cu_isThing_X7 o2 a rfl rfl hroom) (fun r u q => by
      obtain ⟨-, rfl⟩ := q
      exact fj_xg0 (kk r))
theorem hv_heft {p : Nat} (C : FC X Y l0 cc nL RX11 rm mc ms ret) (E : FE X) (o : HO n S p) (hd : decode cc pc = .ok (.invokevirtual 340, 3)) (hR : 3 ≤ rm.frames ∧ 60 ≤ rm.locals) (hroom : (st.map fun v => v.category).sum ≤ 8) (kk : ∀ r : Int32, FJ X Y ad n S h (pc + 3) lv (.int r :: st)) : FJ X Y ad n S h pc lv (.ref (ad p) :: st) := by
  obtain ⟨o1, o2, o3⟩ := o
  rcases o3 with ⟨r, len, a, b, c, d, e⟩ | ⟨r, len, a, b, c, d, e⟩ | a | a | a
  · exact j_gi C (gr_U (av := []) C E (GX1_heft (T := TX0) o2 a rfl inX0 (by decide) rfl rfl) hd (CKX1_heft (ckq hR (by decide))) C.room cu_heft_X0 o2 a rfl rfl hroom) (fun r u q => by
      obtain rfl := q
      exact fj_xg0 (kk r))
  · exact j_gi C (gr_U (av := []) C E (GX1_heft (T := TX2) o2 a rfl inX2 (by decide) rfl rfl) hd (CKX1_heft (ckq hR (by decide))) C.room cu_heft_X2 o2 a rfl rfl hroom) (fun r u q => by
      obtain rfl := q
      exact fj_xg0 (kk r))
  · exact j_gi C (gr_U (av := []) C E (GX9_heft o2 a) hd (CKX9_heft (ckq hR (by decide))) C.room cu_heft_X9 o2 a rfl rfl hroom) (fun r u q => by
      obtain rfl := q
      exact fj_xg0 (kk r))
  · exact j_gi C (gr_U (av := []) C E (GX8_heft (T := TX8) o2 a rfl inX8 (by decide) rfl rfl) hd (CKX8_heft (ckq hR (by decide))) C.room cu_heft_X8 o2 a rfl rfl hroom) (fun r u q => by
      obtain rfl := q
      exact fj_xg0 (kk r))
  · exact j_gi C (gr_U (av := []) C E (GX7_heft o2 a) hd (CKX7_heft (ckq hR (by decide))) C.room cu_heft_X7 o2 a rfl rfl hroom) (fun r u q => by
      obtain rfl := q
      exact fj_xg0 (kk r))
theorem hv_elementAt {p : Nat} {i : Int32} (C : FC X Y l0 cc nL RX11 rm mc ms ret) (E : FE X) (o : HO n S p) (hd : decode cc pc = .ok (.invokevirtual 321, 3)) (hR : 3 ≤ rm.frames ∧ 60 ≤ rm.locals) (hroom : (st.map fun v => v.category).sum ≤ 8) (kk : ∀ r : Int32, FJ X Y ad n S h (pc + 3) lv (.int r :: st)) : FJ X Y ad n S h pc lv (.int i :: .ref (ad p) :: st) := by
  obtain ⟨o1, o2, o3⟩ := o
  rcases o3 with ⟨r, len, a, b, c, d, e⟩ | ⟨r, len, a, b, c, d, e⟩ | a | a | a
  · exact j_gi C (gr_U (av := [.int i]) C E (GX0_elementAt (i := i) o2 a c d e) hd (CKX0_elementAt (ckq hR (by decide))) C.room cu_elementAt_X0 o2 a rfl rfl hroom) (fun r u q => by
      obtain rfl := q
      exact fj_xg0 (kk r))
  · exact j_gi C (gr_U (av := [.int i]) C E (GX2_elementAt (i := i) o2 a c d e) hd (CKX2_elementAt (ckq hR (by decide))) C.room cu_elementAt_X2 o2 a rfl rfl hroom) (fun r u q => by
      obtain rfl := q
      exact fj_xg0 (kk r))
  · exact j_gi C (gr_U (av := [.int i]) C E (GX1_elementAt (i := i)) hd (CKX1_elementAt (ckq hR (by decide))) C.room cu_elementAt_X9 o2 a rfl rfl hroom) (fun r u q => by
      obtain rfl := q
      exact fj_xg0 (kk r))
  · exact j_gi C (gr_U (av := [.int i]) C E (GX1_elementAt (i := i)) hd (CKX1_elementAt (ckq hR (by decide))) C.room cu_elementAt_X8 o2 a rfl rfl hroom) (fun r u q => by
      obtain rfl := q
      exact fj_xg0 (kk r))
  · exact j_gi C (gr_U (av := [.int i]) C E (GX1_elementAt (i := i)) hd (CKX1_elementAt (ckq hR (by decide))) C.room cu_elementAt_X7 o2 a rfl rfl hroom) (fun r u q => by
      obtain rfl := q
      exact fj_xg0 (kk r))
theorem hv_takesFrom {p q : Nat} (C : FC X Y l0 cc nL RX11 rm mc ms ret) (E : FE X) (o : HO n S p) (w : HO n S q) (hd : decode cc pc = .ok (.invokevirtual 324, 3)) (hR : 3 ≤ rm.frames ∧ 60 ≤ rm.locals) (hroom : (st.map fun v => v.category).sum ≤ 8) (kk : ∀ r : Int32, FJ X Y ad n S h (pc + 3) lv (.int r :: st)) : FJ X Y ad n S h pc lv (.ref (ad q) :: .ref (ad p) :: st) := by
  obtain ⟨o1, o2, o3⟩ := o
  rcases o3 with ⟨r, len, a, b, c, d, e⟩ | ⟨r, len, a, b, c, d, e⟩ | a | a | a
  · exact j_gi C (gr_U (av := [.ref (ad q)]) C E (GX0_takesFrom (q := q) w) hd (CKX0_takesFrom (ckq hR (by decide))) C.room cu_takesFrom_X0 o2 a rfl rfl hroom) (fun r u q => by
      obtain ⟨-, rfl⟩ := q
      exact fj_xg0 (kk r))
  · exact j_gi C (gr_U (av := [.ref (ad q)]) C E (GX2_takesFrom (q := q) w) hd (CKX2_takesFrom (ckq hR (by decide))) C.room cu_takesFrom_X2 o2 a rfl rfl hroom) (fun r u q => by
      obtain ⟨-, rfl⟩ := q
      exact fj_xg0 (kk r))
  · exact j_gi C (gr_U (av := [.ref (ad q)]) C E (GX1_takesFrom (q := q)) hd (CKX1_takesFrom (ckq hR (by decide))) C.room cu_takesFrom_X9 o2 a rfl rfl hroom) (fun r u q => by
      obtain ⟨-, rfl⟩ := q
      exact fj_xg0 (kk r))
  · exact j_gi C (gr_U (av := [.ref (ad q)]) C E (GX1_takesFrom (q := q)) hd (CKX1_takesFrom (ckq hR (by decide))) C.room cu_takesFrom_X8 o2 a rfl rfl hroom) (fun r u q => by
      obtain ⟨-, rfl⟩ := q
      exact fj_xg0 (kk r))
  · exact j_gi C (gr_U (av := [.ref (ad q)]) C E (GX1_takesFrom (q := q)) hd (CKX1_takesFrom (ckq hR (by decide))) C.room cu_takesFrom_X7 o2 a rfl rfl hroom) (fun r u q => by
      obtain ⟨-, rfl⟩ := q
      exact fj_xg0 (kk r))
theorem hv_fill {p q : Nat} {i j m : Int32} (W : WS pr n S) (C : FC X Y l0 cc nL RX11 rm mc ms ret) (E : FE X) (o : HO n S p) (w : HO n S q) (hb : BY n S h) (hd : decode cc pc = .ok (.invokevirtual 332, 3)) (hR : 3 ≤ rm.frames ∧ 60 ≤ rm.locals) (hroom : (st.map fun v => v.category).sum ≤ 8) (kk : ∀ h', HR n S h h' → FJ X Y ad n S h' (pc + 3) lv st) : FJ X Y ad n S h pc lv (.int m :: .int i :: .ref (ad q) :: .int j :: .ref (ad p) :: st) := by
  obtain ⟨o1, o2, o3⟩ := o
  rcases o3 with ⟨r, len, a, b, c, d, e⟩ | ⟨r, len, a, b, c, d, e⟩ | a | a | a
  · exact j_gv C (gr_U (av := [.int j, .ref (ad q), .int i, .int m]) C E (GX0_fill W o2 a b c d e w hb) hd (CKX0_fill (ckq hR (by decide))) C.room cu_fill_X0 o2 a rfl rfl hroom) (fun u z => by
      obtain ⟨h', rfl, z⟩ := z
      exact fj_xg0 (kk h' z))
  · exact j_gv C (gr_U (av := [.int j, .ref (ad q), .int i, .int m]) C E (GX2_fill W o2 a b c d e w hb) hd (CKX2_fill (ckq hR (by decide))) C.room cu_fill_X2 o2 a rfl rfl hroom) (fun u z => by
      obtain ⟨h', rfl, z⟩ := z
      exact fj_xg0 (kk h' z))
  · exact j_gv C (gr_U (av := [.int j, .ref (ad q), .int i, .int m]) C E (GX1_fill (p := p) (q := q)) hd (CKX1_fill (ckq hR (by decide))) C.room cu_fill_X9 o2 a rfl rfl hroom) (fun u z => by
      obtain rfl := z
      exact fj_xg0 (kk h HR.rf))
  · exact j_gv C (gr_U (av := [.int j, .ref (ad q), .int i, .int m]) C E (GX1_fill (p := p) (q := q)) hd (CKX1_fill (ckq hR (by decide))) C.room cu_fill_X8 o2 a rfl rfl hroom) (fun u z => by
      obtain rfl := z
      exact fj_xg0 (kk h HR.rf))
  · exact j_gv C (gr_U (av := [.int j, .ref (ad q), .int i, .int m]) C E (GX1_fill (p := p) (q := q)) hd (CKX1_fill (ckq hR (by decide))) C.room cu_fill_X7 o2 a rfl rfl hroom) (fun u z => by
      obtain rfl := z
      exact fj_xg0 (kk h HR.rf))
end H2
section FL
variable {l0 : Launch} {Y : fj_Y} {ad : Nat → Nat} {n : Nat} {S : ph_S} {h : ph_H} {pr : Nat}
theorem GX1_fling {p : Nat} (htr : l0.stackTraces = false) : XM l0 yX1_fling (.code yX1_fling cX1_fling 1 none) (mkR 6 1 6 82) Y ad n S h [.ref (ad p)] (gQv Y ad n S h (fun _ => False)) (fun Ex u => Ex = "java/lang/UnsupportedOperationException" ∧ u = (n, ad, S, h)) := met_xt htr (by decide) (Nat.le_of_ble_eq_true rfl) (fun X C E T => fj_xg1 (T "java/lang/UnsupportedOperationException" (n, ad, S, h) 0 0 ⟨rfl, rfl⟩ (by decide) (by decide) (by decide) 0 _ [] (by decide) ⟨13, 15, 17, "it has no FAILURE", dX1_fling_0, dX1_fling_3, cl_RX1_13, iz_UnsupportedOperationException, thr_UO, by decide +kernel, by decide +kernel, Or.inl ⟨dX1_fling_4, dX1_fling_6, dX1_fling_9⟩⟩))
theorem GX8_fling {p : Nat} (htr : l0.stackTraces = false) : XM l0 yX8_fling (.code yX8_fling cX8_fling 1 none) (mkR 6 1 6 82) Y ad n S h [.ref (ad p)] (gQv Y ad n S h (fun _ => False)) (fun Ex u => Ex = "java/lang/IllegalStateException" ∧ u = (n, ad, S, h)) := met_xt htr (by decide) (Nat.le_of_ble_eq_true rfl) (fun X C E T => fj_xg1 (T "java/lang/IllegalStateException" (n, ad, S, h) 0 0 ⟨rfl, rfl⟩ (by decide) (by decide) (by decide) 0 _ [] (by decide) ⟨11, 13, 15, "the FAILURE of a LOCK", dX8_fling_0, dX8_fling_3, cl_RX8_11, iz_IllegalStateException, thr_LK, by decide +kernel, by decide +kernel, Or.inl ⟨dX8_fling_4, dX8_fling_6, dX8_fling_9⟩⟩))
theorem GX11_caughtFrom {p : Nat} (htr : l0.stackTraces = false) (o : HO n S p) : GM l0 yX11_caughtFrom (.codeWith yX11_caughtFrom cX11_caughtFrom 2 (some .int) [(0, 4, 7, 350), (0, 4, 11, 182)]) (mkR 7 1 6 102) Y ad n S h [.ref (ad p)] (gQi Y ad n S h (PZ n ad S h)) := met_giW (by decide) (Nat.le_of_ble_eq_true rfl) (fun _ _ _ => rfl) (fun X C E T K => by
  refine j_vl (lv' := [(0, .ref (ad p))]) ?_ ⟨rfl, trivial⟩
  have C' := C.g (a := 1) (b := 6) (by decide) (by decide)
  refine j_aload_n C dX11_caughtFrom_0 rfl rfl ?_
  have uo : ∀ q : Nat, FJ (xg X 1 6) Y ad n S h 7 [(0, .ref (ad p))] [.ref q] := fun q => by
    refine j_astore_n C' dX11_caughtFrom_7 rfl (by decide) rfl ?_
    refine j_bipush (v := (-15)) C' dX11_caughtFrom_8 (by decide) ?_
    exact K _ _ 1 6 rfl (by decide) (by decide) _ _ dX11_caughtFrom_10
  have cu : Catch [(0, 4, 7, 350), (0, 4, 11, 182)] RX11 1 "java/lang/UnsupportedOperationException" 7 := ⟨[], ⟨0, 4, 7, 350⟩, [⟨0, 4, 11, 182⟩], "java/lang/UnsupportedOperationException", rfl, fun z hz => absurd hz List.not_mem_nil, rfl, by decide, rfl, cl_RX11_350, by decide +kernel⟩
  have ci : Catch [(0, 4, 7, 350), (0, 4, 11, 182)] RX11 1 "java/lang/IllegalStateException" 11 := ⟨[⟨0, 4, 7, 350⟩], ⟨0, 4, 11, 182⟩, [], "java/lang/IllegalStateException", rfl, fun z hz => by
    rw [List.mem_singleton.mp hz]
    exact ⟨by decide, _, cl_RX11_350, by decide +kernel⟩, rfl, by decide, rfl, cl_RX11_182, by decide +kernel⟩
  obtain ⟨o1, o2, o3⟩ := o
  rcases o3 with ⟨r, len, a, b, c, d, e⟩ | ⟨r, len, a, b, c, d, e⟩ | a | a | a
  · refine j_xv C E T (xr_U (av := []) C E (GX1_fling htr) dX11_caughtFrom_1 (CKX1_fling (by decide)) ⟨by decide, by decide⟩ cu_fling_X0 o2 a rfl rfl (Nat.le_of_ble_eq_true rfl)) (fun Ex u q => ?_) (fun u q => q.elim)
    obtain ⟨rfl, rfl⟩ := q
    exact ⟨7, cu, uo⟩
  · refine j_xv C E T (xr_U (av := []) C E (GX1_fling htr) dX11_caughtFrom_1 (CKX1_fling (by decide)) ⟨by decide, by decide⟩ cu_fling_X2 o2 a rfl rfl (Nat.le_of_ble_eq_true rfl)) (fun Ex u q => ?_) (fun u q => q.elim)
    obtain ⟨rfl, rfl⟩ := q
    exact ⟨7, cu, uo⟩
  · refine j_xv C E T (xr_U (av := []) C E (GX1_fling htr) dX11_caughtFrom_1 (CKX1_fling (by decide)) ⟨by decide, by decide⟩ cu_fling_X9 o2 a rfl rfl (Nat.le_of_ble_eq_true rfl)) (fun Ex u q => ?_) (fun u q => q.elim)
    obtain ⟨rfl, rfl⟩ := q
    exact ⟨7, cu, uo⟩
  · refine j_xv C E T (xr_U (av := []) C E (GX8_fling htr) dX11_caughtFrom_1 (CKX8_fling (by decide)) ⟨by decide, by decide⟩ cu_fling_X8 o2 a rfl rfl (Nat.le_of_ble_eq_true rfl)) (fun Ex u q => ?_) (fun u q => q.elim)
    obtain ⟨rfl, rfl⟩ := q
    refine ⟨11, ci, fun q => ?_⟩
    refine j_astore_n C' dX11_caughtFrom_11 rfl (by decide) rfl ?_
    refine j_aload_n C' dX11_caughtFrom_12 rfl rfl ?_
    refine j_get (j := 0) (ref := "ReplayBox$Held") (v := .int (h p 0)) C' dX11_caughtFrom_13 o2 a rfl inX8 (by decide) fl_RX11_352 rfl rfl ?_
    exact K _ _ 1 6 rfl (by decide) (by decide) _ _ dX11_caughtFrom_16
  · refine j_xv C E T (xr_U (av := []) C E (GX8_fling htr) dX11_caughtFrom_1 (CKX8_fling (by decide)) ⟨by decide, by decide⟩ cu_fling_X7 o2 a rfl rfl (Nat.le_of_ble_eq_true rfl)) (fun Ex u q => ?_) (fun u q => q.elim)
    obtain ⟨rfl, rfl⟩ := q
    refine ⟨11, ci, fun q => ?_⟩
    refine j_astore_n C' dX11_caughtFrom_11 rfl (by decide) rfl ?_
    refine j_aload_n C' dX11_caughtFrom_12 rfl rfl ?_
    refine j_get (j := 0) (ref := "ReplayBox$Held") (v := .int (h p 0)) C' dX11_caughtFrom_13 o2 a rfl inX7 (by decide) fl_RX11_352 rfl rfl ?_
    exact K _ _ 1 6 rfl (by decide) (by decide) _ _ dX11_caughtFrom_16)
end FL
end MG_35_held2
section MG_36_box
/-! THE BOX: what makes objects for SHELVES -/
theorem xg_xg {X : fj_X} {a b c d : Nat} : xg (xg X a b) c d = xg X (a + c) (b + d) := by
  unfold xg
  simp only [Nat.add_assoc]
def KP (pr : Nat) (ad : Nat → Nat) (n : Nat) (hb : ph_H) (u : gU) : Prop := n ≤ u.1 ∧ (∀ k, k < n → u.2.1 k = ad k) ∧ WS pr u.1 u.2.2.1 ∧ KS u.1 u.2.2.1 u.2.2.2 ∧ ∀ k, k < 60 → u.2.2.2 k = hb k
theorem WS.push {pr n : Nat} {S : ph_S} {E : ph_E} (W : WS pr n S) : WS pr (n + 1) (va_up S n E) := ⟨Nat.le_succ_of_le W.1, fun k hk => by
  have := W.1
  rw [va_up_ne _ _ (by omega)]
  exact W.2 k hk⟩
theorem WS.set {pr n k : Nat} {S : ph_S} {E : ph_E} (W : WS pr n S) (hk : 59 ≤ k) : WS pr n (va_up S k E) := ⟨W.1, fun j hj => by
  rw [va_up_ne _ _ (by omega)]
  exact W.2 j hj⟩
theorem KS_set {n i : Nat} {S : ph_S} {h : ph_H} {g : Nat → Option Nat} {op : Option Nat} (k : KS n S h) (hg : S 59 = .inr (.inr (3, 8, g))) (o : ∀ p, op = some p → HO n S p) : KS n (va_up S 59 (.inr (.inr (3, 8, va_up g i op)))) h := by
  obtain ⟨⟨g', e, hh⟩, c, b⟩ := k
  rw [hg] at e
  cases e
  have up : ∀ j p, va_up g i op j = some p → HO n S p := fun j p q => by
    by_cases e : j = i
    · subst e
      rw [va_up_self] at q
      exact o p q
    · rw [va_up_ne _ _ e] at q
      exact hh j p q
  have ne : ∀ j, 60 ≤ j → j < n → va_up S 59 (.inr (.inr (3, 8, va_up g i op))) j = S j := fun j h1 _ => va_up_ne _ _ (by omega)
  refine ⟨⟨_, va_up_self .., fun j p q => (up j p q).mono (Nat.le_refl n) ne⟩, c.set (fun j r q => (up j r q).2.1), fun j len h1 h2 h3 => ?_⟩
  rw [ne j h1 h2] at h3
  exact b j len h1 h2 h3
/-- an object stands behind what was there -/
theorem KS_push {n : Nat} {S : ph_S} {h h' : ph_H} {E : ph_E} (hn : 60 ≤ n) (k : KS n S h) (hc : clE (n + 1) E) (hh : ∀ j, j < n → h' j = h j) (hb : ∀ len, E = .inl (2, len) → ∀ i, fits .byte (.int (h' n i)) = true) : KS (n + 1) (va_up S n E) h' := by
  obtain ⟨⟨g, e, o⟩, c, b⟩ := k
  refine ⟨⟨g, by rw [va_up_ne _ _ (by omega)]; exact e, fun i p q => (o i p q).mono (Nat.le_succ n) (fun j _ hj => va_up_ne _ _ (by omega))⟩, c.push hc, fun j len h1 h2 h3 i => ?_⟩
  by_cases e : j = n
  · subst e
    rw [va_up_self] at h3
    exact hb len h3 i
  · rw [va_up_ne _ _ e] at h3
    rw [hh j (by omega)]
    exact b j len h1 (by omega) h3 i
/-- an object behind 59 is changed -/
theorem KS_upd {n p : Nat} {S : ph_S} {h h' : ph_H} {E : ph_E} (k : KS n S h) (hp : 60 ≤ p ∧ p < n) (hc : clE n E) (ho : ∀ q, HO n S q → HO n (va_up S p E) q) (hb : ∀ j i, 60 ≤ j → j ≠ p → h' j i = h j i) (he : ∀ len, ¬ E = .inl (2, len)) : KS n (va_up S p E) h' := by
  obtain ⟨⟨g, e, o⟩, c, b⟩ := k
  refine ⟨⟨g, by rw [va_up_ne _ _ (by omega)]; exact e, fun i q w => ho q (o i q w)⟩, c.set hc, fun j len h1 h2 h3 i => ?_⟩
  by_cases e : j = p
  · subst e
    rw [va_up_self] at h3
    exact absurd h3 (he len)
  · rw [va_up_ne _ _ e] at h3
    rw [hb j i h1 e]
    exact b j len h1 h2 h3 i
section BOX
variable {l0 : Launch} {Y : fj_Y} {ad : Nat → Nat} {n : Nat} {S : ph_S} {h : ph_H} {pr : Nat}
/-- a SHELF gets what was made -/
theorem j_aastH {X : fj_X} {cc : ByteArray} {nL : Nat} {own : String} {rm : Room} {mc ms : Nat} {ret : Option FieldType} {pc : Nat} {lv : List (Nat × Value)} {st : List Value} (C : FC X Y l0 cc nL own rm mc ms ret) (E : FE X) {g : Nat → Option Nat} {i : Int32} {op : Option Nat} (hd : decode cc pc = .ok (.aastore, 1)) (hn : 60 ≤ n) (hg : S 59 = .inr (.inr (3, 8, g))) (hi : vp_in i 8) (o : ∀ p, op = some p → HO n S p) (kk : FJ X Y ad n (va_up S 59 (.inr (.inr (3, 8, va_up g i.toNatClampNeg op)))) h (pc + 1) lv st) : FJ X Y ad n S h pc lv (va_rf (op.map ad) :: .int i :: .ref (ad 59) :: st) := by
  cases op with
  | none => exact j_aastN C hd (by omega) hg hi kk
  | some p =>
    obtain ⟨o1, o2, o3⟩ := o p rfl
    rcases o3 with ⟨r, len, a, b, c, d, e⟩ | ⟨r, len, a, b, c, d, e⟩ | a | a | a
    · exact j_aastO (T := TX0) C E hd (by omega) hg hi o2 a rfl (by decide +kernel) kk
    · exact j_aastO (T := TX2) C E hd (by omega) hg hi o2 a rfl (by decide +kernel) kk
    · exact j_aastO (T := TX9) C E hd (by omega) hg hi o2 a rfl (by decide +kernel) kk
    · exact j_aastO (T := TX8) C E hd (by omega) hg hi o2 a rfl (by decide +kernel) kk
    · exact j_aastO (T := TX7) C E hd (by omega) hg hi o2 a rfl (by decide +kernel) kk
theorem isS_in {a0 : Int32} (c : ¬ FX11_isShelf a0 = 0) : vp_in a0 8 := iv_in ((SX11_isShelf a0).2.2 c) rfl
/-- a row behind what was there -/
theorem raI (U : State) (c : ClassId) (q : va_RA U c .int) : U.vm.findClass ("[" ++ FieldType.int.toString) = some c := q
theorem raB (U : State) (c : ClassId) (q : va_RA U c .byte) : U.vm.findClass ("[" ++ FieldType.byte.toString) = some c := q
theorem raZ (U : State) (c : ClassId) (q : va_RA U c .boolean) : U.vm.findClass ("[" ++ FieldType.boolean.toString) = some c := q
theorem clE_i {m t len : Nat} : clE m (.inl (t, len)) := trivial
theorem clE_H {m ci q : Nat} (hq : q < m) : clE m (.inr (.inl (ci, 2, rfH q))) := fun j r e => by
  unfold rfH at e
  split at e
  · cases e
    exact hq
  · cases e
theorem clE_z {m ci nf : Nat} {rf : Nat → Option (Option Nat)} : clE m (.inr (.inl (ci, nf, rz rf))) := fun j r e => (rz_cl e).elim
theorem clE_N {m ci nf : Nat} : clE m (.inr (.inl (ci, nf, rfN))) := fun j r e => by cases e
/-! make -/
def FX11_make (a0 a1 a2 : Int32) : Int32 := if FX11_isShelf a0 = 0 then (-1) else if a1 < 2 then (-1) else if 3 < a1 then (-1) else if a2 ≤ 60 then (if 0 ≤ a2 then 0 else (-14)) else (-1)
theorem mk_len {a2 : Int32} (c1 : a2 ≤ 60) (c2 : 0 ≤ a2) : ¬ a2 < 0 ∧ a2.toNatClampNeg ≤ 60 := by
  have z : (0 : Int32).toInt = 0 := by decide
  have s : (60 : Int32).toInt = 60 := by decide
  have t : a2.toNatClampNeg = a2.toInt.toNat := rfl
  rw [Int32.le_iff_toInt_le] at c1 c2
  rw [Int32.lt_iff_toInt_lt, t]
  omega
set_option maxRecDepth 100000 in
theorem GX11_make (W : WS pr n S) (ks : KS n S h) (a0 a1 a2 : Int32) : GM l0 yX11_make (.code yX11_make cX11_make 4 (some .int)) (mkR 3 2 62 54) Y ad n S h [.ref (ad 0), .int a0, .int a1, .int a2] (gQi Y ad n S h (fun r u => r = FX11_make a0 a1 a2 ∧ KP pr ad n h u)) := met_gi (by decide) (Nat.le_of_ble_eq_true rfl) (fun _ _ _ => rfl) (fun X C E N K => by
  refine j_vl (lv' := [(0, .ref (ad 0)), (1, .int a0), (2, .int a1), (3, .int a2)]) ?_ ⟨rfl, rfl, rfl, rfl, trivial⟩
  have h60 := W.1
  have kp : KP pr ad n h (n, ad, S, h) := ⟨Nat.le_refl _, fun _ _ => rfl, W, ks, fun _ _ => rfl⟩
  have bad : FX11_make a0 a1 a2 = -1 → ∀ lv, FJ X Y ad n S h 23 lv [] := fun e lv => by
    refine j_iconst (v := (-1)) C dX11_make_23 (by decide) ?_
    exact fj_xg1 (K (-1) (n, ad, S, h) 0 0 ⟨e.symm, kp⟩ (Nat.zero_le _) (Nat.zero_le _) _ _ dX11_make_24)
  unfold FX11_make at bad K
  refine j_iload_n C dX11_make_0 rfl rfl ?_
  refine j_callS C (MX11_isShelf W a0 h (SX11_isShelf a0).1) dX11_make_1 (CKX11_isShelf (by decide)) ⟨rfl, rfl⟩ lk_RX11_290 st_X11_isShelf rfl (Nat.le_of_ble_eq_true rfl) ?_
  intro r S' h' hq
  obtain ⟨e1, e2, e3, -⟩ := hq
  rw [e1, e2, e3]
  refine j_if_eq (tgt := 23) C dX11_make_4 (by decide) (fun c => bad (by rw [if_pos c]) _) (fun c0 => ?_)
  rw [if_neg c0] at bad
  refine j_iload_n C dX11_make_7 rfl rfl ?_
  refine j_iconst (v := 2) C dX11_make_8 (by decide) ?_
  refine j_icmp_lt (tgt := 23) C dX11_make_9 (by decide) (fun c => bad (by rw [if_pos c]) _) (fun c1 => ?_)
  rw [if_neg c1] at bad
  refine j_iload_n C dX11_make_12 rfl rfl ?_
  refine j_iconst (v := 3) C dX11_make_13 (by decide) ?_
  refine j_icmp_gt (tgt := 23) C dX11_make_14 (by decide) (fun c => bad (by rw [if_pos c]) _) (fun c2 => ?_)
  rw [if_neg c2] at bad
  refine j_iload_n C dX11_make_17 rfl rfl ?_
  refine j_bipush (v := 60) C dX11_make_18 (by decide) ?_
  refine j_icmp_le (tgt := 25) C dX11_make_20 (by decide) (fun c3 => ?_) (fun c => bad (by rw [if_neg c]) _)
  refine j_iload_n C dX11_make_25 rfl rfl ?_
  refine j_if_ge (tgt := 32) C dX11_make_26 (by decide) (fun c4 => ?_) (fun c4 => ?_)
  · obtain ⟨hz, hN⟩ := mk_len c3 c4
    have ans : (0 : Int32) = (if FX11_isShelf a0 = 0 then (-1) else if a1 < 2 then (-1) else if 3 < a1 then (-1) else if a2 ≤ 60 then (if 0 ≤ a2 then 0 else (-14)) else (-1)) := by rw [if_neg c0, if_neg c1, if_neg c2, if_pos c3, if_pos c4]
    obtain ⟨g, hg, -⟩ := id ks.1
    refine j_iload_n C dX11_make_32 rfl rfl ?_
    refine j_iconst (v := 2) C dX11_make_33 (by decide) ?_
    refine j_icmp_ne (tgt := 56) C dX11_make_34 (by decide) (fun _ => ?_) (fun _ => ?_)
    · refine j_aload_n C dX11_make_56 rfl rfl ?_
      refine gCRX11_58 C dX11_make_57 (W.lt 0 (by decide)) (sh_0 W) rfl ?_
      refine j_iload_n C dX11_make_60 rfl rfl ?_
      refine j_vl (lv' := [(3, .int a2)]) ?_ ⟨rfl, trivial⟩
      refine j_new (ci := 1) (rf := rfH 0) (T := TX2) C dX11_make_61 rfl inX2 tyX2_ok cl_RX11_309 is_X2 iz_X2 (by decide +kernel) ks.2.1 (by decide) (by decide) (fun ad1 hA1 => ?_)
      rw [← hA1 59 (by omega)]
      have C1 := C.g (a := 1) (b := 2) (by decide) (by decide)
      have ks1 := KS_push (E := .inr (.inl (1, 2, rz (rfH 0)))) (h' := va_up h n (fun _ => 0)) h60 ks clE_z (fun j hj => va_up_ne _ _ (by omega)) (fun len e => by cases e)
      refine j_dup C1 dX11_make_64 rfl ?_
      refine j_iload_n C1 dX11_make_65 rfl rfl ?_
      refine j_newa (t := 0) (N := a2.toNatClampNeg) C1 dX11_make_66 rfl ar_int (fun _ => rfl) raI (by decide +kernel) hz rfl (by show _ * 4 ≤ _; omega) ks1.2.1 (by decide) (by show 0 + 2 + _ ≤ 62; omega) (fun ad2 hA2 => ?_)
      rw [← hA2 59 (by omega), ← hA2 n (by omega)]
      have C2 := C1.g (a := 1) (b := a2.toNatClampNeg) (by decide) (by show 0 + 2 + _ ≤ 62; omega)
      have ks2 := KS_push (E := .inl (0, a2.toNatClampNeg)) (h' := va_up (va_up h n (fun _ => 0)) (n + 1) (fun _ => 0)) (by omega) ks1 clE_i (fun j hj => va_up_ne _ _ (by omega)) (fun len e i => by rw [va_up_self]; rfl)
      refine j_gv C2 (gr_I (av := [.ref (ad2 (n + 1))]) C2 E (GX2_init (r := 0) (by omega) (by rw [va_up_ne _ _ (by omega), va_up_self])) dX11_make_68 (CKX2_init (by decide)) C2.room lk_RX11_311 in_X2_init rfl rfl (Nat.le_of_ble_eq_true rfl)) ?_
      rintro u rfl
      refine fj_xg0 ?_
      have ho : HO (n + 1 + 1) (va_up (va_up (va_up S n (.inr (.inl (1, 2, rz (rfH 0))))) (n + 1) (.inl (0, a2.toNatClampNeg))) n (.inr (.inl (1, 2, rfH (n + 1))))) n := ⟨h60, by omega, Or.inr (Or.inl ⟨n + 1, a2.toNatClampNeg, by rw [va_up_self], by omega, by omega, by rw [va_up_ne _ _ (by omega), va_up_self], hN⟩)⟩
      have ks3 := KS_upd (h' := hs (va_up (va_up h n (fun _ => 0)) (n + 1) (fun _ => 0)) n 0 0) (p := n) ks2 ⟨h60, by omega⟩ (clE_H (ci := 1) (q := n + 1) (by omega)) (fun q w => by
        by_cases e : q = n
        · subst e
          exact ho
        · have hk := w.1
          have hq := w.2.1
          refine ⟨hk, hq, ?_⟩
          have w3 := w.2.2
          rw [va_up_ne _ _ e]
          have ne : ∀ r, r = n ∨ va_up (va_up (va_up S n (.inr (.inl (1, 2, rz (rfH 0))))) (n + 1) (.inl (0, a2.toNatClampNeg))) n (.inr (.inl (1, 2, rfH (n + 1)))) r = va_up (va_up S n (.inr (.inl (1, 2, rz (rfH 0))))) (n + 1) (.inl (0, a2.toNatClampNeg)) r := fun r => (Classical.em (r = n)).imp id (fun z => va_up_ne _ _ z)
          have no : ∀ {r t len}, va_up (va_up S n (.inr (.inl (1, 2, rz (rfH 0))))) (n + 1) (.inl (0, a2.toNatClampNeg)) r = .inl (t, len) → ¬ r = n := fun {r t len} z e => by
            subst e
            rw [va_up_ne _ _ (by omega), va_up_self] at z
            cases z
          rcases w3 with ⟨r, len, a, b, c, d, e⟩ | ⟨r, len, a, b, c, d, e⟩ | a | a | a
          · exact Or.inl ⟨r, len, a, b, c, ((ne r).resolve_left (no d)).trans d, e⟩
          · exact Or.inr (Or.inl ⟨r, len, a, b, c, ((ne r).resolve_left (no d)).trans d, e⟩)
          · exact Or.inr (Or.inr (Or.inl a))
          · exact Or.inr (Or.inr (Or.inr (Or.inl a)))
          · exact Or.inr (Or.inr (Or.inr (Or.inr a)))) (fun j i _ e => hs_o (fun z => e z.1)) (fun len e => by cases e)
      have hg3 : (va_up (va_up (va_up S n (.inr (.inl (1, 2, rz (rfH 0))))) (n + 1) (.inl (0, a2.toNatClampNeg))) n (.inr (.inl (1, 2, rfH (n + 1))))) 59 = .inr (.inr (3, 8, g)) := by rw [va_up_ne _ _ (by omega), va_up_ne _ _ (by omega), va_up_ne _ _ (by omega)]; exact hg
      refine j_aastH (op := some n) C2 E dX11_make_71 (by omega) hg3 (isS_in c0) (fun p e => by cases e; exact ho) ?_
      have W3 : WS pr (n + 1 + 1) (va_up (va_up (va_up S n (.inr (.inl (1, 2, rz (rfH 0))))) (n + 1) (.inl (0, a2.toNatClampNeg))) n (.inr (.inl (1, 2, rfH (n + 1))))) := W.push.push.set (by omega)
      have fin : KP pr ad n h (n + 1 + 1, ad2, va_up (va_up (va_up (va_up S n (.inr (.inl (1, 2, rz (rfH 0))))) (n + 1) (.inl (0, a2.toNatClampNeg))) n (.inr (.inl (1, 2, rfH (n + 1))))) 59 (.inr (.inr (3, 8, va_up g a0.toNatClampNeg (some n)))), hs (va_up (va_up h n (fun _ => 0)) (n + 1) (fun _ => 0)) n 0 0) := ⟨by show n ≤ n + 1 + 1; omega, fun k hk => (hA2 k (by omega)).trans (hA1 k hk), W3.set (by omega), KS_set ks3 hg3 (fun p e => by cases e; exact ho), fun k hk => by
        show hs (va_up (va_up h n (fun _ => 0)) (n + 1) (fun _ => 0)) n 0 0 k = h k
        funext i
        rw [hs_o (fun z => absurd z.1 (by omega)), va_up_ne _ _ (by omega), va_up_ne _ _ (by omega)]⟩
      refine j_iconst (v := 0) C2 dX11_make_72 (by decide) ?_
      rw [xg_xg]
      exact K 0 _ (1 + 1) (2 + a2.toNatClampNeg) ⟨ans, fin⟩ (by decide) (by show 2 + _ ≤ 62; omega) _ _ dX11_make_73
    · refine j_aload_n C dX11_make_37 rfl rfl ?_
      refine gCRX11_58 C dX11_make_38 (W.lt 0 (by decide)) (sh_0 W) rfl ?_
      refine j_iload_n C dX11_make_41 rfl rfl ?_
      refine j_vl (lv' := [(3, .int a2)]) ?_ ⟨rfl, trivial⟩
      refine j_new (ci := 0) (rf := rfH 0) (T := TX0) C dX11_make_42 rfl inX0 tyX0_ok cl_RX11_304 is_X0 iz_X0 (by decide +kernel) ks.2.1 (by decide) (by decide) (fun ad1 hA1 => ?_)
      rw [← hA1 59 (by omega)]
      have C1 := C.g (a := 1) (b := 2) (by decide) (by decide)
      have ks1 := KS_push (E := .inr (.inl (0, 2, rz (rfH 0)))) (h' := va_up h n (fun _ => 0)) h60 ks clE_z (fun j hj => va_up_ne _ _ (by omega)) (fun len e => by cases e)
      refine j_dup C1 dX11_make_45 rfl ?_
      refine j_iload_n C1 dX11_make_46 rfl rfl ?_
      refine j_newa (t := 2) (N := a2.toNatClampNeg) C1 dX11_make_47 rfl ar_byte (fun _ => rfl) raB (by decide +kernel) hz rfl (by show _ * 1 ≤ _; omega) ks1.2.1 (by decide) (by show 0 + 2 + _ ≤ 62; omega) (fun ad2 hA2 => ?_)
      rw [← hA2 59 (by omega), ← hA2 n (by omega)]
      have C2 := C1.g (a := 1) (b := a2.toNatClampNeg) (by decide) (by show 0 + 2 + _ ≤ 62; omega)
      have ks2 := KS_push (E := .inl (2, a2.toNatClampNeg)) (h' := va_up (va_up h n (fun _ => 0)) (n + 1) (fun _ => 0)) (by omega) ks1 clE_i (fun j hj => va_up_ne _ _ (by omega)) (fun len e i => by rw [va_up_self]; rfl)
      refine j_gv C2 (gr_I (av := [.ref (ad2 (n + 1))]) C2 E (GX0_init (r := 0) (by omega) (by rw [va_up_ne _ _ (by omega), va_up_self])) dX11_make_49 (CKX0_init (by decide)) C2.room lk_RX11_306 in_X0_init rfl rfl (Nat.le_of_ble_eq_true rfl)) ?_
      rintro u rfl
      refine fj_xg0 ?_
      have ho : HO (n + 1 + 1) (va_up (va_up (va_up S n (.inr (.inl (0, 2, rz (rfH 0))))) (n + 1) (.inl (2, a2.toNatClampNeg))) n (.inr (.inl (0, 2, rfH (n + 1))))) n := ⟨h60, by omega, Or.inl ⟨n + 1, a2.toNatClampNeg, by rw [va_up_self], by omega, by omega, by rw [va_up_ne _ _ (by omega), va_up_self], hN⟩⟩
      have ks3 := KS_upd (h' := hs (va_up (va_up h n (fun _ => 0)) (n + 1) (fun _ => 0)) n 0 0) (p := n) ks2 ⟨h60, by omega⟩ (clE_H (ci := 0) (q := n + 1) (by omega)) (fun q w => by
        by_cases e : q = n
        · subst e
          exact ho
        · have hk := w.1
          have hq := w.2.1
          refine ⟨hk, hq, ?_⟩
          have w3 := w.2.2
          rw [va_up_ne _ _ e]
          have ne : ∀ r, r = n ∨ va_up (va_up (va_up S n (.inr (.inl (0, 2, rz (rfH 0))))) (n + 1) (.inl (2, a2.toNatClampNeg))) n (.inr (.inl (0, 2, rfH (n + 1)))) r = va_up (va_up S n (.inr (.inl (0, 2, rz (rfH 0))))) (n + 1) (.inl (2, a2.toNatClampNeg)) r := fun r => (Classical.em (r = n)).imp id (fun z => va_up_ne _ _ z)
          have no : ∀ {r t len}, va_up (va_up S n (.inr (.inl (0, 2, rz (rfH 0))))) (n + 1) (.inl (2, a2.toNatClampNeg)) r = .inl (t, len) → ¬ r = n := fun {r t len} z e => by
            subst e
            rw [va_up_ne _ _ (by omega), va_up_self] at z
            cases z
          rcases w3 with ⟨r, len, a, b, c, d, e⟩ | ⟨r, len, a, b, c, d, e⟩ | a | a | a
          · exact Or.inl ⟨r, len, a, b, c, ((ne r).resolve_left (no d)).trans d, e⟩
          · exact Or.inr (Or.inl ⟨r, len, a, b, c, ((ne r).resolve_left (no d)).trans d, e⟩)
          · exact Or.inr (Or.inr (Or.inl a))
          · exact Or.inr (Or.inr (Or.inr (Or.inl a)))
          · exact Or.inr (Or.inr (Or.inr (Or.inr a)))) (fun j i _ e => hs_o (fun z => e z.1)) (fun len e => by cases e)
      have hg3 : (va_up (va_up (va_up S n (.inr (.inl (0, 2, rz (rfH 0))))) (n + 1) (.inl (2, a2.toNatClampNeg))) n (.inr (.inl (0, 2, rfH (n + 1))))) 59 = .inr (.inr (3, 8, g)) := by rw [va_up_ne _ _ (by omega), va_up_ne _ _ (by omega), va_up_ne _ _ (by omega)]; exact hg
      refine j_aastH (op := some n) C2 E dX11_make_52 (by omega) hg3 (isS_in c0) (fun p e => by cases e; exact ho) ?_
      have W3 : WS pr (n + 1 + 1) (va_up (va_up (va_up S n (.inr (.inl (0, 2, rz (rfH 0))))) (n + 1) (.inl (2, a2.toNatClampNeg))) n (.inr (.inl (0, 2, rfH (n + 1))))) := W.push.push.set (by omega)
      have fin : KP pr ad n h (n + 1 + 1, ad2, va_up (va_up (va_up (va_up S n (.inr (.inl (0, 2, rz (rfH 0))))) (n + 1) (.inl (2, a2.toNatClampNeg))) n (.inr (.inl (0, 2, rfH (n + 1))))) 59 (.inr (.inr (3, 8, va_up g a0.toNatClampNeg (some n)))), hs (va_up (va_up h n (fun _ => 0)) (n + 1) (fun _ => 0)) n 0 0) := ⟨by show n ≤ n + 1 + 1; omega, fun k hk => (hA2 k (by omega)).trans (hA1 k hk), W3.set (by omega), KS_set ks3 hg3 (fun p e => by cases e; exact ho), fun k hk => by
        show hs (va_up (va_up h n (fun _ => 0)) (n + 1) (fun _ => 0)) n 0 0 k = h k
        funext i
        rw [hs_o (fun z => absurd z.1 (by omega)), va_up_ne _ _ (by omega), va_up_ne _ _ (by omega)]⟩
      refine j_goto (tgt := 72) C2 dX11_make_53 (by decide) ?_
      refine j_iconst (v := 0) C2 dX11_make_72 (by decide) ?_
      rw [xg_xg]
      exact K 0 _ (1 + 1) (2 + a2.toNatClampNeg) ⟨ans, fin⟩ (by decide) (by show 2 + _ ≤ 62; omega) _ _ dX11_make_73
  · refine j_bipush (v := (-14)) C dX11_make_29 (by decide) ?_
    exact fj_xg1 (K (-14) (n, ad, S, h) 0 0 ⟨by rw [if_neg c0, if_neg c1, if_neg c2, if_pos c3, if_neg c4], kp⟩ (Nat.zero_le _) (Nat.zero_le _) _ _ dX11_make_31))
end BOX
end MG_36_box
section MG_37_box2
/-! THE BOX: rows out of a run, THINGS, keep -/
theorem HO_up {n p q : Nat} {S : ph_S} {E : ph_E} (w : HO n S q) (hq : q ≠ p) (hp : ∀ t len, ¬ S p = .inl (t, len)) : HO n (va_up S p E) q := by
  obtain ⟨h1, h2, h3⟩ := w
  refine ⟨h1, h2, ?_⟩
  rw [va_up_ne _ _ hq]
  have ne : ∀ {r t len}, S r = .inl (t, len) → va_up S p E r = S r := fun {r t len} z => va_up_ne _ _ (fun e => hp t len (by rw [← e]; exact z))
  rcases h3 with ⟨r, len, a, b, c, d, e⟩ | ⟨r, len, a, b, c, d, e⟩ | a | a | a
  · exact Or.inl ⟨r, len, a, b, c, (ne d).trans d, e⟩
  · exact Or.inr (Or.inl ⟨r, len, a, b, c, (ne d).trans d, e⟩)
  · exact Or.inr (Or.inr (Or.inl a))
  · exact Or.inr (Or.inr (Or.inr (Or.inl a)))
  · exact Or.inr (Or.inr (Or.inr (Or.inr a)))
theorem iv_min {a b c d lo hi : Int} {x y : Int32} (fx : iv a b x) (fy : iv c d y) (q : (decide (lo ≤ a) && decide (lo ≤ c) && (decide (b ≤ hi) || decide (d ≤ hi))) = true) : iv lo hi (if y < x then y else x) := by
  simp only [Bool.and_eq_true, Bool.or_eq_true, decide_eq_true_eq] at q
  split
  · rename_i h
    rw [Int32.lt_iff_toInt_lt] at h
    unfold iv at *
    omega
  · rename_i h
    rw [Int32.lt_iff_toInt_lt] at h
    unfold iv at *
    omega
abbrev PH (pr : Nat) (ad : Nat → Nat) (n : Nat) (hb : ph_H) : Option Nat → gU → Prop := fun k u => KP pr ad n hb u ∧ ∀ p, k = some p → HO u.1 u.2.2.1 p
theorem hs_row {h : ph_H} {k i : Nat} {v : Int32} {j : Nat} (e : j ≠ k) : hs h k i v j = h j := by
  funext i'
  exact hs_o (fun z => e z.1)
section BOX2
variable {l0 : Launch} {Y : fj_Y} {ad : Nat → Nat} {n : Nat} {S : ph_S} {h : ph_H} {pr : Nat} {z : zT}
set_option maxRecDepth 100000 in
theorem GX11_threads (W : WS pr n S) (ks : KS n S h) (I : IC z h) : GM l0 yX11_threadsOfFirstSteps (.code yX11_threadsOfFirstSteps cX11_threadsOfFirstSteps 4 (some (.object "ReplayBox$Held"))) (mkR 3 2 62 54) Y ad n S h [.ref (ad 0)] (gQr Y ad n S h (PH pr ad n h)) := met_gr (by decide) (Nat.le_of_ble_eq_true rfl) ⟨_, rfl⟩ (fun X C E N K => by
  refine j_vl (lv' := [(0, .ref (ad 0))]) ?_ ⟨rfl, trivial⟩
  have h60 := W.1
  refine j_aload_n C dX11_threadsOfFirstSteps_0 rfl rfl ?_
  refine gCRX11_34 C dX11_threadsOfFirstSteps_1 (W.lt 0 (by decide)) (sh_0 W) rfl ?_
  refine gCRX11_120 C dX11_threadsOfFirstSteps_4 (W.lt 35 (by decide)) (sh_35 W) rfl rfl ?_
  refine j_bipush (v := 60) C dX11_threadsOfFirstSteps_7 (by decide) ?_
  refine j_mmin C dX11_threadsOfFirstSteps_9 lk_RX11_361 mn_s mx_i mn_c (by decide) (by decide) ?_
  have f1 : iv 0 60 (if (60 : Int32) < h 35 11 then 60 else h 35 11) := iv_min (ICv I 35 11) (iv_lit (lo := 60) (hi := 60) (x := 60) rfl) rfl
  generalize (if (60 : Int32) < h 35 11 then 60 else h 35 11) = m at f1 ⊢
  refine j_istore_n C dX11_threadsOfFirstSteps_12 rfl (by decide) rfl ?_
  refine j_iload_n C dX11_threadsOfFirstSteps_13 rfl rfl ?_
  refine j_iconst (v := 0) C dX11_threadsOfFirstSteps_14 (by decide) ?_
  refine j_mmax C dX11_threadsOfFirstSteps_15 lk_RX11_366 mx_s mx_i mx_c (by decide) (by decide) ?_
  have f2 : iv 0 60 (if m < 0 then 0 else m) := iv_max f1 (iv_lit (lo := 0) (hi := 0) (x := 0) rfl) rfl
  generalize (if m < 0 then 0 else m) = v at f2 ⊢
  have hz : ¬ v < 0 := by
    have z : (0 : Int32).toInt = 0 := by decide
    rw [Int32.lt_iff_toInt_lt]
    unfold iv at f2
    omega
  obtain ⟨T, hN, hv⟩ : ∃ T : Nat, T ≤ 60 ∧ v.toNatClampNeg = T := ⟨v.toNatClampNeg, by
    have t : v.toNatClampNeg = v.toInt.toNat := rfl
    unfold iv at f2
    omega, rfl⟩
  refine j_vl (lv' := [(0, .ref (ad 0))]) ?_ ⟨rfl, trivial⟩
  refine j_newa (t := 2) (N := T) C dX11_threadsOfFirstSteps_18 rfl ar_byte (fun _ => rfl) raB (by decide +kernel) hz hv (by show _ * 1 ≤ _; omega) ks.2.1 (by decide) (by show 0 + _ ≤ 62; omega) (fun ad1 hA1 => ?_)
  rw [← hA1 0 (by omega)]
  have C1 := C.g (a := 1) (b := T) (by decide) (by show 0 + _ ≤ 62; omega)
  have W1 : WS pr (n + 1) (va_up S n (.inl (2, T))) := W.push
  have sn : va_up S n (.inl (2, T)) n = .inl (2, T) := va_up_self ..
  refine j_astore_n C1 dX11_threadsOfFirstSteps_20 rfl (by decide) rfl ?_
  refine j_iconst (v := 0) C1 dX11_threadsOfFirstSteps_21 (by decide) ?_
  refine j_istore_n C1 dX11_threadsOfFirstSteps_22 rfl (by decide) rfl ?_
  have loop : ∀ (d i : Nat) (h' : ph_H), i + d = T → (∀ k, k ≠ n → h' k = h k) → (∀ j, fits .byte (.int (h' n j)) = true) → FJ (xg X 1 T) Y ad1 (n + 1) (va_up S n (.inl (2, T))) h' 23 [(0, .ref (ad1 0)), (2, .ref (ad1 n)), (3, .int (nI i))] [] := by
    intro d
    induction d with
    | zero =>
      intro i h' e q1 q2
      have ei : i = T := by omega
      subst ei
      refine j_iload_n C1 dX11_threadsOfFirstSteps_23 rfl rfl ?_
      refine j_aload_n C1 dX11_threadsOfFirstSteps_24 rfl rfl ?_
      refine j_alen (v := nI i) (ty := .byte) C1 dX11_threadsOfFirstSteps_25 (by omega) sn rfl rfl ?_
      refine j_icmp_ge (tgt := 50) C1 dX11_threadsOfFirstSteps_26 (by decide) (fun _ => ?_) (fun c => absurd (nI_le (Nat.le_refl i) (by omega)) c)
      have ks1 : KS (n + 1) (va_up S n (.inl (2, i))) h' := KS_push h60 ks clE_i (fun j hj => q1 j (by omega)) (fun len _ j => q2 j)
      refine j_vl (lv' := [(2, .ref (ad1 n))]) ?_ ⟨rfl, trivial⟩
      refine j_new (ci := 0) (rf := rfH 0) (T := TX0) C1 dX11_threadsOfFirstSteps_50 rfl inX0 tyX0_ok cl_RX11_304 is_X0 iz_X0 (by decide +kernel) ks1.2.1 (by decide) (by show 0 + _ + 2 ≤ 62; omega) (fun ad2 hA2 => ?_)
      rw [← hA2 n (by omega)]
      have C2 := C1.g (a := 1) (b := 2) (by decide) (by show 0 + _ + 2 ≤ 62; omega)
      have ks2 := KS_push (E := .inr (.inl (0, 2, rz (rfH 0)))) (h' := va_up h' (n + 1) (fun _ => 0)) (by omega) ks1 clE_z (fun j hj => va_up_ne _ _ (by omega)) (fun len e => by cases e)
      refine j_dup C2 dX11_threadsOfFirstSteps_53 rfl ?_
      refine j_aload_n C2 dX11_threadsOfFirstSteps_54 rfl rfl ?_
      refine j_gv C2 (gr_I (av := [.ref (ad2 n)]) C2 E (GX0_init (r := 0) (by omega) (va_up_self ..)) dX11_threadsOfFirstSteps_55 (CKX0_init (by decide)) C2.room lk_RX11_306 in_X0_init rfl rfl (Nat.le_of_ble_eq_true rfl)) ?_
      rintro u rfl
      refine fj_xg0 ?_
      have ho : HO (n + 1 + 1) (va_up (va_up (va_up S n (.inl (2, i))) (n + 1) (.inr (.inl (0, 2, rz (rfH 0))))) (n + 1) (.inr (.inl (0, 2, rfH n)))) (n + 1) := ⟨by omega, by omega, Or.inl ⟨n, i, va_up_self .., h60, by omega, by rw [va_up_ne _ _ (by omega), va_up_ne _ _ (by omega), va_up_self], hN⟩⟩
      have ks3 := KS_upd (h' := hs (va_up h' (n + 1) (fun _ => 0)) (n + 1) 0 0) (p := n + 1) ks2 ⟨by omega, by omega⟩ (clE_H (ci := 0) (q := n) (by omega)) (fun q w => by
        by_cases e : q = n + 1
        · subst e
          exact ho
        · exact HO_up w e (fun t len z => by rw [va_up_self] at z; cases z)) (fun j i _ e => hs_o (fun z => e z.1)) (fun len e => by cases e)
      rw [xg_xg]
      refine K (some (n + 1)) (n + 1 + 1, ad2, _, _) (1 + 1) (i + 2) ⟨⟨by show n ≤ n + 1 + 1; omega, fun k hk => (hA2 k (by omega)).trans (hA1 k hk), W1.push.set (by omega), ks3, fun k hk => ?_⟩, fun p e => by cases e; exact ho⟩ (by decide) (by show i + 2 ≤ 62; omega) _ _ dX11_threadsOfFirstSteps_58
      show hs (va_up h' (n + 1) (fun _ => 0)) (n + 1) 0 0 k = h k
      rw [hs_row (by omega), va_up_ne _ _ (by omega)]
      exact q1 k (by omega)
    | succ d ih =>
      intro i h' e q1 q2
      refine j_iload_n C1 dX11_threadsOfFirstSteps_23 rfl rfl ?_
      refine j_aload_n C1 dX11_threadsOfFirstSteps_24 rfl rfl ?_
      refine j_alen (v := nI T) (ty := .byte) C1 dX11_threadsOfFirstSteps_25 (by omega) sn rfl rfl ?_
      refine j_icmp_ge (tgt := 50) C1 dX11_threadsOfFirstSteps_26 (by decide) (fun c => absurd c (nI_ge (by omega) (by omega))) (fun c => ?_)
      refine j_aload_n C1 dX11_threadsOfFirstSteps_29 rfl rfl ?_
      refine j_iload_n C1 dX11_threadsOfFirstSteps_30 rfl rfl ?_
      refine j_aload_n C1 dX11_threadsOfFirstSteps_31 rfl rfl ?_
      refine gCRX11_34 C1 dX11_threadsOfFirstSteps_32 (W1.lt 0 (by decide)) (sh_0 W1) rfl ?_
      refine gCRX11_154 C1 dX11_threadsOfFirstSteps_35 (W1.lt 35 (by decide)) (sh_35 W1) rfl ?_
      refine j_iload_n C1 dX11_threadsOfFirstSteps_38 rfl rfl ?_
      refine j_iconst (v := 1) C1 dX11_threadsOfFirstSteps_39 (by decide) ?_
      refine j_iadd C1 dX11_threadsOfFirstSteps_40 ?_
      refine j_iald (k := 36) C1 dX11_threadsOfFirstSteps_41 (W1.lt 36 (by decide)) (sh_36 W1) (by rw [← nI_succ]; exact nI_in (by omega) (by omega)) rfl ?_
      refine j_i2b C1 dX11_threadsOfFirstSteps_42 ?_
      refine j_bast (k := n) C1 dX11_threadsOfFirstSteps_43 (by omega) sn (nI_in (by omega) (by omega)) ?_
      refine j_iinc (v := nI (i + 1)) C1 dX11_threadsOfFirstSteps_44 rfl (by rw [nI_succ]; rfl) (by decide) rfl ?_
      refine j_goto (tgt := 23) C1 dX11_threadsOfFirstSteps_47 (by decide) ?_
      refine j_vl (ih (i + 1) _ (by omega) (fun k hk => (hs_row hk).trans (q1 k hk)) (fun j => ?_)) ⟨rfl, rfl, rfl, trivial⟩
      by_cases ej : j = (nI i).toNatClampNeg
      · subst ej
        rw [hz_e]
        exact nar_byte _
      · rw [hs_o (fun z => ej z.2)]
        exact q2 j
  exact j_vl (loop T 0 _ (by omega) (fun k hk => va_up_ne _ _ hk) (fun j => by rw [va_up_self]; rfl)) ⟨rfl, rfl, rfl, trivial⟩)
set_option maxRecDepth 100000 in
theorem GX11_numbers (W : WS pr n S) (ks : KS n S h) (I : IC z h) : GM l0 yX11_numbersOfCells (.code yX11_numbersOfCells cX11_numbersOfCells 4 (some (.object "ReplayBox$Held"))) (mkR 6 2 62 143) Y ad n S h [.ref (ad 0)] (gQr Y ad n S h (PH pr ad n (FX11_seenBehind (h 35 11) h))) := met_gr (by decide) (Nat.le_of_ble_eq_true rfl) ⟨_, rfl⟩ (fun X C E N K => by
  refine j_vl (lv' := [(0, .ref (ad 0))]) ?_ ⟨rfl, trivial⟩
  have h60 := W.1
  have W60 : WS pr 60 S := ⟨Nat.le_refl _, W.2⟩
  refine j_aload_n C dX11_numbersOfCells_0 rfl rfl ?_
  refine j_aload_n C dX11_numbersOfCells_1 rfl rfl ?_
  refine gCRX11_34 C dX11_numbersOfCells_2 (W.lt 0 (by decide)) (sh_0 W) rfl ?_
  refine gCRX11_120 C dX11_numbersOfCells_5 (W.lt 35 (by decide)) (sh_35 W) rfl rfl ?_
  refine j_callVrm (m := 60) C h60 (MX11_seenBehind W60 (h 35 11) h (SX11_seenBehind _ h I (ICv I 35 11)).1) dX11_numbersOfCells_8 (CKX11_seenBehind (by decide)) ⟨rfl, rfl⟩ lk_RX11_200 in_X11_seenBehind se_X11_seenBehind (W.lt 0 (by decide)) (sh_0 W) rfl rfl (Nat.le_of_ble_eq_true rfl) ?_
  obtain ⟨h1, eh⟩ : ∃ h1, h1 = hcut 60 (FX11_seenBehind (h 35 11) h) h := ⟨_, rfl⟩
  rw [← eh]
  have lo : ∀ k, k < 60 → h1 k = FX11_seenBehind (h 35 11) h k := fun k hk => by rw [eh]; exact hcut_lt hk
  have ks0 : KS n S h1 := ⟨ks.1, ks.2.1, fun k len a b c i => by rw [eh, hcut_ge a]; exact ks.2.2 k len a b c i⟩
  refine j_astore_n C dX11_numbersOfCells_11 rfl (by decide) rfl ?_
  refine j_bipush (v := 12) C dX11_numbersOfCells_12 (by decide) ?_
  refine j_vl (lv' := [(1, .ref (ad 15))]) ?_ ⟨rfl, trivial⟩
  refine j_newa (t := 0) (N := 12) C dX11_numbersOfCells_14 rfl ar_int (fun _ => rfl) raI (by decide +kernel) (by decide) (by decide) (by decide) ks0.2.1 (by decide) (by decide) (fun ad1 hA1 => ?_)
  rw [← hA1 15 (by omega)]
  have C1 := C.g (a := 1) (b := 12) (by decide) (by decide)
  have W1 : WS pr (n + 1) (va_up S n (.inl (0, 12))) := W.push
  have sn : va_up S n (.inl (0, 12)) n = .inl (0, 12) := va_up_self ..
  refine j_astore_n C1 dX11_numbersOfCells_16 rfl (by decide) rfl ?_
  refine j_iconst (v := 0) C1 dX11_numbersOfCells_17 (by decide) ?_
  refine j_istore_n C1 dX11_numbersOfCells_18 rfl (by decide) rfl ?_
  have loop : ∀ (d i : Nat) (h' : ph_H), i + d = 12 → (∀ k, k ≠ n → h' k = h1 k) → FJ (xg X 1 12) Y ad1 (n + 1) (va_up S n (.inl (0, 12))) h' 19 [(1, .ref (ad1 15)), (2, .ref (ad1 n)), (3, .int (nI i))] [] := by
    intro d
    induction d with
    | zero =>
      intro i h' e q1
      have ei : i = 12 := by omega
      subst ei
      refine j_iload_n C1 dX11_numbersOfCells_19 rfl rfl ?_
      refine j_bipush (v := 12) C1 dX11_numbersOfCells_20 (by decide) ?_
      refine j_icmp_ge (tgt := 53) C1 dX11_numbersOfCells_22 (by decide) (fun _ => ?_) (fun c => absurd (by decide) c)
      have ks1 : KS (n + 1) (va_up S n (.inl (0, 12))) h' := KS_push h60 ks0 clE_i (fun j hj => q1 j (by omega)) (fun len e => by cases e)
      refine j_vl (lv' := [(2, .ref (ad1 n))]) ?_ ⟨rfl, trivial⟩
      refine j_new (ci := 1) (rf := rfH 0) (T := TX2) C1 dX11_numbersOfCells_53 rfl inX2 tyX2_ok cl_RX11_309 is_X2 iz_X2 (by decide +kernel) ks1.2.1 (by decide) (by decide) (fun ad2 hA2 => ?_)
      rw [← hA2 n (by omega)]
      have C2 := C1.g (a := 1) (b := 2) (by decide) (by decide)
      have ks2 := KS_push (E := .inr (.inl (1, 2, rz (rfH 0)))) (h' := va_up h' (n + 1) (fun _ => 0)) (by omega) ks1 clE_z (fun j hj => va_up_ne _ _ (by omega)) (fun len e => by cases e)
      refine j_dup C2 dX11_numbersOfCells_56 rfl ?_
      refine j_aload_n C2 dX11_numbersOfCells_57 rfl rfl ?_
      refine j_gv C2 (gr_I (av := [.ref (ad2 n)]) C2 E (GX2_init (r := 0) (by omega) (va_up_self ..)) dX11_numbersOfCells_58 (CKX2_init (by decide)) C2.room lk_RX11_311 in_X2_init rfl rfl (Nat.le_of_ble_eq_true rfl)) ?_
      rintro u rfl
      refine fj_xg0 ?_
      have ho : HO (n + 1 + 1) (va_up (va_up (va_up S n (.inl (0, 12))) (n + 1) (.inr (.inl (1, 2, rz (rfH 0))))) (n + 1) (.inr (.inl (1, 2, rfH n)))) (n + 1) := ⟨by omega, by omega, Or.inr (Or.inl ⟨n, 12, va_up_self .., h60, by omega, by rw [va_up_ne _ _ (by omega), va_up_ne _ _ (by omega), va_up_self], by omega⟩)⟩
      have ks3 := KS_upd (h' := hs (va_up h' (n + 1) (fun _ => 0)) (n + 1) 0 0) (p := n + 1) ks2 ⟨by omega, by omega⟩ (clE_H (ci := 1) (q := n) (by omega)) (fun q w => by
        by_cases e : q = n + 1
        · subst e
          exact ho
        · exact HO_up w e (fun t len z => by rw [va_up_self] at z; cases z)) (fun j i _ e => hs_o (fun z => e z.1)) (fun len e => by cases e)
      rw [xg_xg]
      refine K (some (n + 1)) (n + 1 + 1, ad2, _, _) (1 + 1) (12 + 2) ⟨⟨by show n ≤ n + 1 + 1; omega, fun k hk => (hA2 k (by omega)).trans (hA1 k hk), W1.push.set (by omega), ks3, fun k hk => ?_⟩, fun p e => by cases e; exact ho⟩ (by decide) (by decide) _ _ dX11_numbersOfCells_61
      show hs (va_up h' (n + 1) (fun _ => 0)) (n + 1) 0 0 k = _
      rw [hs_row (by omega), va_up_ne _ _ (by omega)]
      exact (q1 k (by omega)).trans (lo k hk)
    | succ d ih =>
      intro i h' e q1
      have ini : ∀ m, 12 ≤ m → m < 2 ^ 31 → vp_in (nI i) m := fun m hm hm2 => nI_in (by omega) hm2
      refine j_iload_n C1 dX11_numbersOfCells_19 rfl rfl ?_
      refine j_bipush (v := nI 12) C1 dX11_numbersOfCells_20 (by decide) ?_
      refine j_icmp_ge (tgt := 53) C1 dX11_numbersOfCells_22 (by decide) (fun c => absurd c (nI_ge (by omega) (by omega))) (fun c => ?_)
      refine j_aload_n C1 dX11_numbersOfCells_25 rfl rfl ?_
      refine j_iload_n C1 dX11_numbersOfCells_26 rfl rfl ?_
      refine j_aload_n C1 dX11_numbersOfCells_27 rfl rfl ?_
      refine gCRX11_204 C1 dX11_numbersOfCells_28 (W1.lt 15 (by decide)) (sh_15 W1) rfl ?_
      refine j_iload_n C1 dX11_numbersOfCells_31 rfl rfl ?_
      refine j_iald (k := 16) C1 dX11_numbersOfCells_32 (W1.lt 16 (by decide)) (sh_16 W1) (ini 28 (by omega) (by omega)) rfl ?_
      have go : ∀ x : Int32, FJ (xg X 1 12) Y ad1 (n + 1) (va_up S n (.inl (0, 12))) h' 46 [(1, .ref (ad1 15)), (2, .ref (ad1 n)), (3, .int (nI i))] [.int x, .int (nI i), .ref (ad1 n)] := fun x => by
        refine j_iast (k := n) C1 dX11_numbersOfCells_46 (by omega) sn (ini 12 (by omega) (by omega)) ?_
        refine j_iinc (v := nI (i + 1)) C1 dX11_numbersOfCells_47 rfl (by rw [nI_succ]; rfl) (by decide) rfl ?_
        refine j_goto (tgt := 19) C1 dX11_numbersOfCells_50 (by decide) ?_
        exact j_vl (ih (i + 1) _ (by omega) (fun k hk => (hs_row hk).trans (q1 k hk))) ⟨rfl, rfl, rfl, trivial⟩
      refine j_if_ne (tgt := 45) C1 dX11_numbersOfCells_33 (by decide) (fun _ => ?_) (fun _ => ?_)
      · refine j_iconst (v := 0) C1 dX11_numbersOfCells_45 (by decide) ?_
        exact go 0
      · refine j_aload_n C1 dX11_numbersOfCells_36 rfl rfl ?_
        refine gCRX11_207 C1 dX11_numbersOfCells_37 (W1.lt 15 (by decide)) (sh_15 W1) rfl ?_
        refine j_iload_n C1 dX11_numbersOfCells_40 rfl rfl ?_
        refine j_iald (k := 17) C1 dX11_numbersOfCells_41 (W1.lt 17 (by decide)) (sh_17 W1) (ini 28 (by omega) (by omega)) rfl ?_
        refine j_goto (tgt := 46) C1 dX11_numbersOfCells_42 (by decide) ?_
        exact go _
  exact j_vl (loop 12 0 _ (by omega) (fun k hk => va_up_ne _ _ hk)) ⟨rfl, rfl, rfl, trivial⟩)
end BOX2
end MG_37_box2
section MG_38_box3
/-! THE BOX: THINGS on SHELVES, keep, and what looks at SHELVES -/
theorem KS_cut {n : Nat} {S : ph_S} {h h' : ph_H} (k : KS n S h) : KS n S (hcut 60 h' h) := ⟨k.1, k.2.1, fun j len a b c i => by rw [hcut_ge a]; exact k.2.2 j len a b c i⟩
theorem KS_low {n : Nat} {S : ph_S} {h h' : ph_H} (k : KS n S h) (q : BY n S h → BY n S h') : KS n S h' := ⟨k.1, k.2.1, q k.2.2⟩
section BOX3
variable {l0 : Launch} {Y : fj_Y} {ad : Nat → Nat} {n : Nat} {S : ph_S} {h : ph_H} {pr : Nat} {z : zT}
set_option maxRecDepth 100000 in
theorem GX3_shelved (W : WS pr n S) (ks : KS n S h) (a0 : Int32) (I : IC z h) : GM l0 yX3_shelved (.code yX3_shelved cX3_shelved 2 (some (.object "ReplayBox$Held"))) (mkR 4 1 2 75) Y ad n S h [.ref (ad 15), .int a0] (gQr Y ad n S h (PH pr ad n h)) := met_gr (by decide) (Nat.le_of_ble_eq_true rfl) ⟨_, rfl⟩ (fun X C E N K => by
  refine j_vl (lv' := [(0, .ref (ad 15)), (1, .int a0)]) ?_ ⟨rfl, rfl, trivial⟩
  have h60 := W.1
  refine j_aload_n C dX3_shelved_0 rfl rfl ?_
  refine j_iload_n C dX3_shelved_1 rfl rfl ?_
  have s := SX3_hasThing_s (z := z) a0 h I
  refine j_callV C (MX3_hasThing_s W a0 h s.1) dX3_shelved_2 (CKX3_hasThing (by decide)) ⟨rfl, rfl⟩ lk_RX3_95 in_X3_hasThing se_X3_hasThing (W.lt 15 (by decide)) (sh_15 W) rfl rfl (Nat.le_of_ble_eq_true rfl) ?_
  intro r S' h' hq
  obtain ⟨e1, e2, e3, -⟩ := hq
  rw [e1, e2, e3]
  refine j_if_ne (tgt := 10) C dX3_shelved_5 (by decide) (fun c0 => ?_) (fun _ => ?_)
  · have f0 : iv 0 11 a0 := s.2.2 c0
    refine j_aload_n C dX3_shelved_10 rfl rfl ?_
    refine gCRX3_27 C dX3_shelved_11 (W.lt 15 (by decide)) (sh_15 W) rfl ?_
    refine j_iload_n C dX3_shelved_14 rfl rfl ?_
    refine j_iald (k := 21) C dX3_shelved_15 (W.lt 21 (by decide)) (sh_21 W) (iv_in f0 rfl) rfl ?_
    rcases Classical.em (h 21 a0.toNatClampNeg = 1) with c1 | c1
    · refine j_lookup (tgt := 44) (off := 28) C dX3_shelved_16 (by decide) (by rw [c1]; decide) (by decide) ?_
      refine j_new (ci := 8) (rf := rfN) (T := TX9) C dX3_shelved_44 rfl inX9 tyX9_ok cl_RX3_98 is_X9 iz_X9 (by decide +kernel) ks.2.1 (by decide) (by decide) (fun ad1 hA1 => ?_)
      rw [← hA1 15 (by omega)]
      have C1 := C.g (a := 1) (b := 2) (by decide) (by decide)
      have W1 : WS pr (n + 1) (va_up S n (.inr (.inl (8, 2, rz rfN)))) := W.push
      have ks1 := KS_push (E := .inr (.inl (8, 2, rz rfN))) (h' := va_up h n (fun _ => 0)) h60 ks clE_z (fun j hj => va_up_ne _ _ (by omega)) (fun len e => by cases e)
      refine j_dup C1 dX3_shelved_47 rfl ?_
      refine j_iload_n C1 dX3_shelved_48 rfl rfl ?_
      refine j_aload_n C1 dX3_shelved_49 rfl rfl ?_
      refine gCRX3_30 C1 dX3_shelved_50 (W1.lt 15 (by decide)) (sh_15 W1) rfl ?_
      refine j_iload_n C1 dX3_shelved_53 rfl rfl ?_
      refine j_iald (k := 22) C1 dX3_shelved_54 (W1.lt 22 (by decide)) (sh_22 W1) (iv_in f0 rfl) rfl ?_
      refine j_gv C1 (gr_I (b := ad1 n) (av := [.int a0, .int _]) C1 E (GX9_init (p := n) _ _ (by omega) (va_up_self ..)) dX3_shelved_55 (CKX9_init (by decide)) C1.room lk_RX3_100 in_X9_init rfl rfl (Nat.le_of_ble_eq_true rfl)) ?_
      rintro u rfl
      refine fj_xg0 ?_
      refine K (some n) (n + 1, ad1, va_up S n (.inr (.inl (8, 2, rz rfN))), _) 1 2 ⟨⟨Nat.le_succ n, hA1, W1, KS_low ks1 (fun b k len x1 x2 x3 i => ?_), fun k hk => ?_⟩, fun p e => by cases e; exact ⟨h60, by show n < n + 1; omega, Or.inr (Or.inr (Or.inl (va_up_self ..)))⟩⟩ (by decide) (by decide) _ _ dX3_shelved_58
      · have ne : k ≠ n := fun e => by
          subst e
          have x3 : va_up S k (.inr (.inl (8, 2, rz rfN))) k = .inl (2, len) := x3
          rw [va_up_self] at x3
          cases x3
        show fits .byte (.int (hs (hs (va_up h n (fun _ => 0)) n 0 _) n 1 _ k i)) = true
        rw [hs_row ne, hs_row ne]
        exact b k len x1 x2 x3 i
      · show hs (hs (va_up h n (fun _ => 0)) n 0 _) n 1 _ k = h k
        rw [hs_row (by omega), hs_row (by omega), va_up_ne _ _ (by omega)]
    rcases Classical.em (h 21 a0.toNatClampNeg = 2) with c2 | c2
    · refine j_lookup (tgt := 59) (off := 43) C dX3_shelved_16 (by decide) (by rw [c2]; decide) (by decide) ?_
      refine j_vl (lv' := [(1, .int a0)]) ?_ ⟨rfl, trivial⟩
      refine j_new (ci := 7) (rf := rfN) (T := TX8) C dX3_shelved_59 rfl inX8 tyX8_ok cl_RX3_103 is_X8 iz_X8 (by decide +kernel) ks.2.1 (by decide) (by decide) (fun ad1 hA1 => ?_)
      have C1 := C.g (a := 1) (b := 1) (by decide) (by decide)
      have W1 : WS pr (n + 1) (va_up S n (.inr (.inl (7, 1, rz rfN)))) := W.push
      have ks1 := KS_push (E := .inr (.inl (7, 1, rz rfN))) (h' := va_up h n (fun _ => 0)) h60 ks clE_z (fun j hj => va_up_ne _ _ (by omega)) (fun len e => by cases e)
      refine j_dup C1 dX3_shelved_62 rfl ?_
      refine j_iload_n C1 dX3_shelved_63 rfl rfl ?_
      refine j_gv C1 (gr_I (b := ad1 n) (av := [.int a0]) C1 E (GX8_init (p := n) _ (by omega) (va_up_self ..)) dX3_shelved_64 (CKX8_init (by decide)) C1.room lk_RX3_105 in_X8_init rfl rfl (Nat.le_of_ble_eq_true rfl)) ?_
      rintro u rfl
      refine fj_xg0 ?_
      refine K (some n) (n + 1, ad1, va_up S n (.inr (.inl (7, 1, rz rfN))), _) 1 1 ⟨⟨Nat.le_succ n, hA1, W1, KS_low ks1 (fun b k len x1 x2 x3 i => ?_), fun k hk => ?_⟩, fun p e => by cases e; exact ⟨h60, by show n < n + 1; omega, Or.inr (Or.inr (Or.inr (Or.inl (va_up_self ..))))⟩⟩ (by decide) (by decide) _ _ dX3_shelved_67
      · have ne : k ≠ n := fun e => by
          subst e
          have x3 : va_up S k (.inr (.inl (7, 1, rz rfN))) k = .inl (2, len) := x3
          rw [va_up_self] at x3
          cases x3
        show fits .byte (.int (hs (va_up h n (fun _ => 0)) n 0 _ k i)) = true
        rw [hs_row ne]
        exact b k len x1 x2 x3 i
      · show hs (va_up h n (fun _ => 0)) n 0 _ k = h k
        rw [hs_row (by omega), va_up_ne _ _ (by omega)]
    · refine j_lookup (tgt := 68) (off := 52) C dX3_shelved_16 (by decide) ?_ (by decide) ?_
      · show Op.lookupswitch.offset [(1, 28), (2, 43)] 52 (h 21 a0.toNatClampNeg).toInt = 52
        rw [Op.lookupswitch.offset_cons, if_neg (fun e => c1 (Int32.toInt_inj.mp (e.symm.trans (by decide)))), Op.lookupswitch.offset_cons, if_neg (fun e => c2 (Int32.toInt_inj.mp (e.symm.trans (by decide))))]
        rfl
      refine j_vl (lv' := [(1, .int a0)]) ?_ ⟨rfl, trivial⟩
      refine j_new (ci := 6) (rf := rfN) (T := TX7) C dX3_shelved_68 rfl inX7 tyX7_ok cl_RX3_108 is_X7 iz_X7 (by decide +kernel) ks.2.1 (by decide) (by decide) (fun ad1 hA1 => ?_)
      have C1 := C.g (a := 1) (b := 1) (by decide) (by decide)
      have W1 : WS pr (n + 1) (va_up S n (.inr (.inl (6, 1, rz rfN)))) := W.push
      have ks1 := KS_push (E := .inr (.inl (6, 1, rz rfN))) (h' := va_up h n (fun _ => 0)) h60 ks clE_z (fun j hj => va_up_ne _ _ (by omega)) (fun len e => by cases e)
      refine j_dup C1 dX3_shelved_71 rfl ?_
      refine j_iload_n C1 dX3_shelved_72 rfl rfl ?_
      refine j_gv C1 (gr_I (b := ad1 n) (av := [.int a0]) C1 E (GX7_init (p := n) _ (by omega) (va_up_self ..)) dX3_shelved_73 (CKX7_init (by decide)) C1.room lk_RX3_110 in_X7_init rfl rfl (Nat.le_of_ble_eq_true rfl)) ?_
      rintro u rfl
      refine fj_xg0 ?_
      refine K (some n) (n + 1, ad1, va_up S n (.inr (.inl (6, 1, rz rfN))), _) 1 1 ⟨⟨Nat.le_succ n, hA1, W1, KS_low ks1 (fun b k len x1 x2 x3 i => ?_), fun k hk => ?_⟩, fun p e => by cases e; exact ⟨h60, by show n < n + 1; omega, Or.inr (Or.inr (Or.inr (Or.inr (va_up_self ..))))⟩⟩ (by decide) (by decide) _ _ dX3_shelved_76
      · have ne : k ≠ n := fun e => by
          subst e
          have x3 : va_up S k (.inr (.inl (6, 1, rz rfN))) k = .inl (2, len) := x3
          rw [va_up_self] at x3
          cases x3
        show fits .byte (.int (hs (va_up h n (fun _ => 0)) n 0 _ k i)) = true
        rw [hs_row ne]
        exact b k len x1 x2 x3 i
      · show hs (va_up h n (fun _ => 0)) n 0 _ k = h k
        rw [hs_row (by omega), va_up_ne _ _ (by omega)]
  · refine j_aconst C dX3_shelved_8 ?_
    exact fj_xg1 (K none (n, ad, S, h) 0 0 ⟨⟨Nat.le_refl _, fun _ _ => rfl, W, ks, fun _ _ => rfl⟩, fun p e => by cases e⟩ (Nat.zero_le _) (Nat.zero_le _) _ _ dX3_shelved_9))
/-- what keep leaves of the class's own numbers -/
def kpH (h h' : ph_H) : Prop := h' = h ∨ h' = FX11_seenBehind (h 35 11) h
set_option maxRecDepth 100000 in
theorem GX11_keep (W : WS pr n S) (ks : KS n S h) (I : IC z h) (a0 a1 a2 : Int32) : GM l0 yX11_keep (.code yX11_keep cX11_keep 4 (some .int)) (mkR 7 2 62 166) Y ad n S h [.ref (ad 0), .int a0, .int a1, .int a2] (gQi Y ad n S h (fun _ u => ∃ h', kpH h h' ∧ KP pr ad n h' u)) := met_gi (by decide) (Nat.le_of_ble_eq_true rfl) (fun _ _ _ => rfl) (fun X C E N K => by
  refine j_vl (lv' := [(0, .ref (ad 0)), (1, .int a0), (2, .int a1), (3, .int a2)]) ?_ ⟨rfl, rfl, rfl, rfl, trivial⟩
  have h60 := W.1
  have W60 : WS pr 60 S := ⟨Nat.le_refl _, W.2⟩
  have kp : ∃ h', kpH h h' ∧ KP pr ad n h' (n, ad, S, h) := ⟨h, Or.inl rfl, Nat.le_refl _, fun _ _ => rfl, W, ks, fun _ _ => rfl⟩
  have bad : ∀ lv, FJ X Y ad n S h 23 lv [] := fun lv => by
    refine j_iconst (v := (-1)) C dX11_keep_23 (by decide) ?_
    exact fj_xg1 (K (-1) (n, ad, S, h) 0 0 kp (Nat.zero_le _) (Nat.zero_le _) _ _ dX11_keep_24)
  have bad2 : ∀ lv, FJ X Y ad n S h 45 lv [] := fun lv => by
    refine j_iconst (v := (-1)) C dX11_keep_45 (by decide) ?_
    exact fj_xg1 (K (-1) (n, ad, S, h) 0 0 kp (Nat.zero_le _) (Nat.zero_le _) _ _ dX11_keep_46)
  refine j_aload_n C dX11_keep_0 rfl rfl ?_
  refine gCRX11_116 C dX11_keep_1 (W.lt 0 (by decide)) (sh_0 W) rfl rfl ?_
  refine j_if_eq (tgt := 23) C dX11_keep_4 (by decide) (fun _ => bad _) (fun _ => ?_)
  refine j_iload_n C dX11_keep_7 rfl rfl ?_
  refine j_callS C (MX11_isShelf W a0 h (SX11_isShelf a0).1) dX11_keep_8 (CKX11_isShelf (by decide)) ⟨rfl, rfl⟩ lk_RX11_290 st_X11_isShelf rfl (Nat.le_of_ble_eq_true rfl) ?_
  intro r S' h' hq
  obtain ⟨e1, e2, e3, -⟩ := hq
  rw [e1, e2, e3]
  refine j_if_eq (tgt := 23) C dX11_keep_11 (by decide) (fun _ => bad _) (fun c0 => ?_)
  refine j_iload_n C dX11_keep_14 rfl rfl ?_
  refine j_if_lt (tgt := 23) C dX11_keep_15 (by decide) (fun _ => bad _) (fun _ => ?_)
  refine j_iload_n C dX11_keep_18 rfl rfl ?_
  refine j_iconst (v := 3) C dX11_keep_19 (by decide) ?_
  refine j_icmp_le (tgt := 25) C dX11_keep_20 (by decide) (fun _ => ?_) (fun _ => bad _)
  obtain ⟨g, hg, -⟩ := id ks.1
  have hin := isS_in c0
  have at47 : FJ X Y ad n S h 47 [(0, .ref (ad 0)), (1, .int a0), (2, .int a1), (3, .int a2)] [] := by
    refine j_iload_n C dX11_keep_47 rfl rfl ?_
    refine j_if_ne (tgt := 61) C dX11_keep_48 (by decide) (fun _ => ?_) (fun _ => ?_)
    · refine j_iload_n C dX11_keep_61 rfl rfl ?_
      refine j_iconst (v := 1) C dX11_keep_62 (by decide) ?_
      refine j_icmp_ne (tgt := 90) C dX11_keep_63 (by decide) (fun _ => ?_) (fun _ => ?_)
      · refine j_iload_n C dX11_keep_90 rfl rfl ?_
        refine j_iconst (v := 2) C dX11_keep_91 (by decide) ?_
        refine j_icmp_ne (tgt := 108) C dX11_keep_92 (by decide) (fun _ => ?_) (fun _ => ?_)
        · refine j_aload_n C dX11_keep_108 rfl rfl ?_
          refine gCRX11_58 C dX11_keep_109 (W.lt 0 (by decide)) (sh_0 W) rfl ?_
          refine j_iload_n C dX11_keep_112 rfl rfl ?_
          refine j_aload_n C dX11_keep_113 rfl rfl ?_
          refine j_vl (lv' := []) ?_ trivial
          refine j_gr C (gr_V (av := []) C E (GX11_numbers W ks I) dX11_keep_114 (CKX11_numbersOfCells (by decide)) ⟨by decide, by decide⟩ lk_RX11_301 in_X11_numbersOfCells se_X11_numbersOfCells (W.lt 0 (by decide)) (sh_0 W) rfl rfl (Nat.le_of_ble_eq_true rfl)) ?_
          rintro k u ⟨⟨u1, u2, u3, u4, u5⟩, u6⟩
          have C1 := C.g (a := 2) (b := 62) (by decide) (by decide)
          rw [← u2 59 (by omega)]
          obtain ⟨g', hg', -⟩ := id u4.1
          refine j_aastH C1 E dX11_keep_117 u3.1 hg' hin u6 ?_
          refine j_iconst (v := 0) C1 dX11_keep_118 (by decide) ?_
          exact K 0 (u.1, u.2.1, va_up u.2.2.1 59 (.inr (.inr (3, 8, va_up g' a0.toNatClampNeg k))), u.2.2.2) 2 62 ⟨_, Or.inr rfl, u1, u2, u3.set (by omega), KS_set u4 hg' u6, u5⟩ (by decide) (by decide) _ _ dX11_keep_119
        · refine j_aload_n C dX11_keep_95 rfl rfl ?_
          refine gCRX11_58 C dX11_keep_96 (W.lt 0 (by decide)) (sh_0 W) rfl ?_
          refine j_iload_n C dX11_keep_99 rfl rfl ?_
          refine j_aload_n C dX11_keep_100 rfl rfl ?_
          refine j_vl (lv' := []) ?_ trivial
          refine j_gr C (gr_V (av := []) C E (GX11_threads W ks I) dX11_keep_101 (CKX11_threadsOfFirstSteps (by decide)) ⟨by decide, by decide⟩ lk_RX11_297 in_X11_threadsOfFirstSteps se_X11_threadsOfFirstSteps (W.lt 0 (by decide)) (sh_0 W) rfl rfl (Nat.le_of_ble_eq_true rfl)) ?_
          rintro k u ⟨⟨u1, u2, u3, u4, u5⟩, u6⟩
          have C1 := C.g (a := 2) (b := 62) (by decide) (by decide)
          rw [← u2 59 (by omega)]
          obtain ⟨g', hg', -⟩ := id u4.1
          refine j_aastH C1 E dX11_keep_104 u3.1 hg' hin u6 ?_
          refine j_goto (tgt := 118) C1 dX11_keep_105 (by decide) ?_
          refine j_iconst (v := 0) C1 dX11_keep_118 (by decide) ?_
          exact K 0 (u.1, u.2.1, va_up u.2.2.1 59 (.inr (.inr (3, 8, va_up g' a0.toNatClampNeg k))), u.2.2.2) 2 62 ⟨_, Or.inl rfl, u1, u2, u3.set (by omega), KS_set u4 hg' u6, u5⟩ (by decide) (by decide) _ _ dX11_keep_119
      · refine j_aload_n C dX11_keep_66 rfl rfl ?_
        refine gCRX11_58 C dX11_keep_67 (W.lt 0 (by decide)) (sh_0 W) rfl ?_
        refine j_iload_n C dX11_keep_70 rfl rfl ?_
        refine j_aload_n C dX11_keep_71 rfl rfl ?_
        refine j_aload_n C dX11_keep_72 rfl rfl ?_
        refine gCRX11_34 C dX11_keep_73 (W.lt 0 (by decide)) (sh_0 W) rfl ?_
        refine gCRX11_120 C dX11_keep_76 (W.lt 35 (by decide)) (sh_35 W) rfl rfl ?_
        have sb := SX11_seenBehind _ h I (ICv I 35 11)
        refine j_callVrm (m := 60) C h60 (MX11_seenBehind W60 (h 35 11) h sb.1) dX11_keep_79 (CKX11_seenBehind (by decide)) ⟨rfl, rfl⟩ lk_RX11_200 in_X11_seenBehind se_X11_seenBehind (W.lt 0 (by decide)) (sh_0 W) rfl rfl (Nat.le_of_ble_eq_true rfl) ?_
        refine j_iload_n C dX11_keep_82 rfl rfl ?_
        refine j_vl (lv' := []) ?_ trivial
        have I1 : IC z (hcut 60 (FX11_seenBehind (h 35 11) h) h) := by
          obtain ⟨i1, ⟨i2, i3, i4, i5⟩, i6⟩ := sb.2
          refine ⟨fun k i => ?_, ⟨fun i => ?_, fun i => ?_, ?_, fun i => ?_⟩, fun k i e => ?_⟩
          · by_cases q : k < 60
            · rw [hcut_lt q]
              exact i1 k i
            · rw [hcut_ge (by omega)]
              exact I.1 k i
          · rw [hcut_lt (by decide), hcut_lt (by decide)]
            exact i2 i
          · rw [hcut_lt (by decide), hcut_lt (by decide)]
            exact i3 i
          · unfold MSm
            rw [hcut_lt (by decide)]
            exact i4
          · rw [hcut_lt (by decide), hcut_lt (by decide)]
            exact i5 i
          · by_cases q : k < 60
            · rw [hcut_lt q]
              exact i6 k i e
            · rw [hcut_ge (by omega)]
              exact I.2.2 k i e
        refine j_gr C (gr_V (av := [.int a2]) C E (GX3_shelved W (KS_cut ks) a2 I1) dX11_keep_83 (CKX3_shelved (by decide)) ⟨by decide, by decide⟩ lk_RX11_293 in_X3_shelved se_X3_shelved (W.lt 15 (by decide)) (sh_15 W) rfl rfl (Nat.le_of_ble_eq_true rfl)) ?_
        rintro k u ⟨⟨u1, u2, u3, u4, u5⟩, u6⟩
        have C1 := C.g (a := 1) (b := 2) (by decide) (by decide)
        rw [← u2 59 (by omega)]
        obtain ⟨g', hg', -⟩ := id u4.1
        refine j_aastH C1 E dX11_keep_86 u3.1 hg' hin u6 ?_
        refine j_goto (tgt := 118) C1 dX11_keep_87 (by decide) ?_
        refine j_iconst (v := 0) C1 dX11_keep_118 (by decide) ?_
        exact K 0 (u.1, u.2.1, va_up u.2.2.1 59 (.inr (.inr (3, 8, va_up g' a0.toNatClampNeg k))), u.2.2.2) 1 2 ⟨_, Or.inr rfl, u1, u2, u3.set (by omega), KS_set u4 hg' u6, fun k hk => (u5 k hk).trans (hcut_lt hk)⟩ (by decide) (by decide) _ _ dX11_keep_119
    · refine j_aload_n C dX11_keep_51 rfl rfl ?_
      refine gCRX11_58 C dX11_keep_52 (W.lt 0 (by decide)) (sh_0 W) rfl ?_
      refine j_iload_n C dX11_keep_55 rfl rfl ?_
      refine j_aconst C dX11_keep_56 ?_
      refine j_aastH (op := none) C E dX11_keep_57 h60 hg hin (fun p e => by cases e) ?_
      refine j_goto (tgt := 118) C dX11_keep_58 (by decide) ?_
      refine j_iconst (v := 0) C dX11_keep_118 (by decide) ?_
      exact fj_xg1 (K 0 (n, ad, va_up S 59 (.inr (.inr (3, 8, va_up g a0.toNatClampNeg none))), h) 0 0 ⟨h, Or.inl rfl, Nat.le_refl _, fun _ _ => rfl, W.set (by omega), KS_set ks hg (fun p e => by cases e), fun _ _ => rfl⟩ (Nat.zero_le _) (Nat.zero_le _) _ _ dX11_keep_119)
  refine j_iload_n C dX11_keep_25 rfl rfl ?_
  refine j_iconst (v := 1) C dX11_keep_26 (by decide) ?_
  refine j_icmp_ne (tgt := 47) C dX11_keep_27 (by decide) (fun _ => at47) (fun _ => ?_)
  refine j_iload_n C dX11_keep_30 rfl rfl ?_
  refine j_if_lt (tgt := 45) C dX11_keep_31 (by decide) (fun _ => bad2 _) (fun _ => ?_)
  refine j_iload_n C dX11_keep_34 rfl rfl ?_
  refine j_aload_n C dX11_keep_35 rfl rfl ?_
  refine gCRX11_34 C dX11_keep_36 (W.lt 0 (by decide)) (sh_0 W) rfl ?_
  refine gCRX11_139 C dX11_keep_39 (W.lt 35 (by decide)) (sh_35 W) rfl rfl ?_
  exact j_icmp_lt (tgt := 47) C dX11_keep_42 (by decide) (fun _ => at47) (fun _ => bad2 _))
end BOX3
end MG_38_box3
section MG_39_box4
/-! THE BOX: what looks at SHELVES; value and place -/
abbrev eIA : String := "java/lang/IllegalArgumentException"
abbrev eIS : String := "java/lang/IllegalStateException"
theorem th_el7 : ThrowAt cX11_element RX11 7 eIA := ⟨195, 314, 199, "no such SHELF", dX11_element_7, dX11_element_10, cl_RX11_195, iz_IllegalArgumentException, thr_IA, by decide +kernel, by decide +kernel, Or.inr ⟨dX11_element_11, dX11_element_14, dX11_element_17⟩⟩
theorem th_el41 : ThrowAt cX11_element RX11 41 eIS := ⟨182, 319, 186, "no such ROW or place on the SHELF", dX11_element_41, dX11_element_44, cl_RX11_182, iz_IllegalStateException, thr_IS, by decide +kernel, by decide +kernel, Or.inr ⟨dX11_element_45, dX11_element_48, dX11_element_51⟩⟩
theorem th_va7 : ThrowAt cX11_value RX11 7 eIS := ⟨182, 184, 186, "there was no run", dX11_value_7, dX11_value_10, cl_RX11_182, iz_IllegalStateException, thr_IS, by decide +kernel, by decide +kernel, Or.inl ⟨dX11_value_11, dX11_value_13, dX11_value_16⟩⟩
theorem th_va50 : ThrowAt cX11_value RX11 50 eIA := ⟨195, 197, 199, "no such THREAD, CELL, LOCAL or what", dX11_value_50, dX11_value_53, cl_RX11_195, iz_IllegalArgumentException, thr_IA, by decide +kernel, by decide +kernel, Or.inl ⟨dX11_value_54, dX11_value_56, dX11_value_59⟩⟩
theorem th_pl7 : ThrowAt cX11_place RX11 7 eIS := ⟨182, 184, 186, "there was no run", dX11_place_7, dX11_place_10, cl_RX11_182, iz_IllegalStateException, thr_IS, by decide +kernel, by decide +kernel, Or.inl ⟨dX11_place_11, dX11_place_13, dX11_place_16⟩⟩
theorem th_pl35 : ThrowAt cX11_place RX11 35 eIA := ⟨195, 226, 199, "no such place of a ROW", dX11_place_35, dX11_place_38, cl_RX11_195, iz_IllegalArgumentException, thr_IA, by decide +kernel, by decide +kernel, Or.inl ⟨dX11_place_39, dX11_place_41, dX11_place_44⟩⟩
section BOX4
variable {l0 : Launch} {Y : fj_Y} {ad : Nat → Nat} {n : Nat} {S : ph_S} {h : ph_H} {pr : Nat} {z : zT}
theorem HOg (ks : KS n S h) {g : Nat → Option Nat} (hg : S 59 = .inr (.inr (3, 8, g))) {i p : Nat} (e : g i = some p) : HO n S p := by
  obtain ⟨⟨g', e', o⟩, -⟩ := ks
  rw [hg] at e'
  cases e'
  exact o i p e
set_option maxRecDepth 100000 in
theorem GX11_element (htr : l0.stackTraces = false) (W : WS pr n S) (ks : KS n S h) (a0 a1 : Int32) : XM l0 yX11_element (.code yX11_element cX11_element 4 (some .int)) (mkR 6 1 6 90) Y ad n S h [.ref (ad 0), .int a0, .int a1] (gQi Y ad n S h (PZ n ad S h)) (fun Ex u => (Ex = eIA ∨ Ex = eIS) ∧ u = (n, ad, S, h)) := met_x htr (by decide) (Nat.le_of_ble_eq_true rfl) (fun _ _ _ => rfl) (fun X C E K T => by
  refine j_vl (lv' := [(0, .ref (ad 0)), (1, .int a0), (2, .int a1)]) ?_ ⟨rfl, rfl, rfl, trivial⟩
  have h60 := W.1
  have t41 : ∀ lv, FJ X Y ad n S h 41 lv [] := fun lv => fj_xg1 (T eIS (n, ad, S, h) 0 0 ⟨Or.inr rfl, rfl⟩ (by decide) (by decide) (by decide) 41 lv [] (by decide) th_el41)
  refine j_iload_n C dX11_element_0 rfl rfl ?_
  refine j_callS C (MX11_isShelf W a0 h (SX11_isShelf a0).1) dX11_element_1 (CKX11_isShelf (by decide)) ⟨rfl, rfl⟩ lk_RX11_290 st_X11_isShelf rfl (Nat.le_of_ble_eq_true rfl) ?_
  intro r S' h' hq
  obtain ⟨e1, e2, e3, -⟩ := hq
  rw [e1, e2, e3]
  refine j_if_ne (tgt := 18) C dX11_element_4 (by decide) (fun c0 => ?_) (fun _ => fj_xg1 (T eIA (n, ad, S, h) 0 0 ⟨Or.inl rfl, rfl⟩ (by decide) (by decide) (by decide) 7 _ [] (by decide) th_el7))
  obtain ⟨g, hg, -⟩ := id ks.1
  refine j_aload_n C dX11_element_18 rfl rfl ?_
  refine gCRX11_58 C dX11_element_19 (W.lt 0 (by decide)) (sh_0 W) rfl ?_
  refine j_iload_n C dX11_element_22 rfl rfl ?_
  refine j_aaldq C dX11_element_23 (by omega) hg (isS_in c0) ?_
  cases ho : g a0.toNatClampNeg with
  | none =>
    refine j_astore_nN C dX11_element_24 rfl (by decide) rfl ?_
    refine j_aload_nN C dX11_element_25 rfl rfl ?_
    exact j_ifnullN (tgt := 41) C dX11_element_26 (by decide) (t41 _)
  | some p =>
    have o := HOg ks hg ho
    refine j_astore_n C dX11_element_24 rfl (by decide) rfl ?_
    refine j_aload_n C dX11_element_25 rfl rfl ?_
    refine j_ifnull C dX11_element_26 ?_
    refine j_iload_n C dX11_element_29 rfl rfl ?_
    refine j_if_lt (tgt := 41) C dX11_element_30 (by decide) (fun _ => t41 _) (fun _ => ?_)
    refine j_iload_n C dX11_element_33 rfl rfl ?_
    refine j_aload_n C dX11_element_34 rfl rfl ?_
    refine hv_length C E o dX11_element_35 (by decide) (Nat.le_of_ble_eq_true rfl) (fun r => ?_)
    refine j_icmp_lt (tgt := 52) C dX11_element_38 (by decide) (fun _ => ?_) (fun _ => t41 _)
    refine j_aload_n C dX11_element_52 rfl rfl ?_
    refine j_iload_n C dX11_element_53 rfl rfl ?_
    refine hv_elementAt C E o dX11_element_54 (by decide) (Nat.le_of_ble_eq_true rfl) (fun r => ?_)
    exact fj_xg1 (K r (n, ad, S, h) 0 0 rfl (Nat.zero_le _) (Nat.zero_le _) _ _ dX11_element_57))
set_option maxRecDepth 100000 in
theorem GX11_weight (W : WS pr n S) (ks : KS n S h) (a0 : Int32) : GM l0 yX11_weight (.code yX11_weight cX11_weight 3 (some .int)) (mkR 3 0 0 60) Y ad n S h [.ref (ad 0), .int a0] (gQi Y ad n S h (PZ n ad S h)) := met_gi (by decide) (Nat.le_of_ble_eq_true rfl) (fun _ _ _ => rfl) (fun X C E N K => by
  refine j_vl (lv' := [(0, .ref (ad 0)), (1, .int a0)]) ?_ ⟨rfl, rfl, trivial⟩
  have h60 := W.1
  have fin : ∀ r pc lv, decode cX11_weight pc = .ok (.ireturn, 1) → FJ X Y ad n S h pc lv [.int r] := fun r pc lv d => fj_xg1 (K r (n, ad, S, h) 0 0 rfl (Nat.zero_le _) (Nat.zero_le _) _ _ d)
  refine j_iload_n C dX11_weight_0 rfl rfl ?_
  refine j_callS C (MX11_isShelf W a0 h (SX11_isShelf a0).1) dX11_weight_1 (CKX11_isShelf (by decide)) ⟨rfl, rfl⟩ lk_RX11_290 st_X11_isShelf rfl (Nat.le_of_ble_eq_true rfl) ?_
  intro r S' h' hq
  obtain ⟨e1, e2, e3, -⟩ := hq
  rw [e1, e2, e3]
  refine j_if_ne (tgt := 9) C dX11_weight_4 (by decide) (fun c0 => ?_) (fun _ => j_iconst (v := (-1)) C dX11_weight_7 (by decide) (fin _ _ _ dX11_weight_8))
  obtain ⟨g, hg, -⟩ := id ks.1
  refine j_aload_n C dX11_weight_9 rfl rfl ?_
  refine gCRX11_58 C dX11_weight_10 (W.lt 0 (by decide)) (sh_0 W) rfl ?_
  refine j_iload_n C dX11_weight_13 rfl rfl ?_
  refine j_aaldq C dX11_weight_14 (by omega) hg (isS_in c0) ?_
  cases ho : g a0.toNatClampNeg with
  | none =>
    refine j_astore_nN C dX11_weight_15 rfl (by decide) rfl ?_
    refine j_aload_nN C dX11_weight_16 rfl rfl ?_
    refine j_ifnonnullN C dX11_weight_17 ?_
    exact j_bipush (v := (-11)) C dX11_weight_20 (by decide) (fin _ _ _ dX11_weight_22)
  | some p =>
    have o := HOg ks hg ho
    refine j_astore_n C dX11_weight_15 rfl (by decide) rfl ?_
    refine j_aload_n C dX11_weight_16 rfl rfl ?_
    refine j_ifnonnull (tgt := 23) C dX11_weight_17 (by decide) ?_
    refine j_aload_n C dX11_weight_23 rfl rfl ?_
    refine hv_isThing C E o dX11_weight_24 (by decide) (Nat.le_of_ble_eq_true rfl) (fun r => ?_)
    refine j_if_eq (tgt := 37) C dX11_weight_27 (by decide) (fun _ => j_bipush (v := (-12)) C dX11_weight_37 (by decide) (fin _ _ _ dX11_weight_39)) (fun _ => ?_)
    refine j_aload_n C dX11_weight_30 rfl rfl ?_
    refine hv_heft C E o dX11_weight_31 (by decide) (Nat.le_of_ble_eq_true rfl) (fun r => ?_)
    exact j_goto (tgt := 39) C dX11_weight_34 (by decide) (fin _ _ _ dX11_weight_39))
set_option maxRecDepth 100000 in
theorem GX11_toss (htr : l0.stackTraces = false) (W : WS pr n S) (ks : KS n S h) (a0 : Int32) : GM l0 yX11_toss (.code yX11_toss cX11_toss 3 (some .int)) (mkR 8 1 6 123) Y ad n S h [.ref (ad 0), .int a0] (gQi Y ad n S h (PZ n ad S h)) := met_gi (by decide) (Nat.le_of_ble_eq_true rfl) (fun _ _ _ => rfl) (fun X C E N K => by
  refine j_vl (lv' := [(0, .ref (ad 0)), (1, .int a0)]) ?_ ⟨rfl, rfl, trivial⟩
  have h60 := W.1
  have fin : ∀ r pc lv, decode cX11_toss pc = .ok (.ireturn, 1) → FJ X Y ad n S h pc lv [.int r] := fun r pc lv d => fj_xg1 (K r (n, ad, S, h) 0 0 rfl (Nat.zero_le _) (Nat.zero_le _) _ _ d)
  refine j_iload_n C dX11_toss_0 rfl rfl ?_
  refine j_callS C (MX11_isShelf W a0 h (SX11_isShelf a0).1) dX11_toss_1 (CKX11_isShelf (by decide)) ⟨rfl, rfl⟩ lk_RX11_290 st_X11_isShelf rfl (Nat.le_of_ble_eq_true rfl) ?_
  intro r S' h' hq
  obtain ⟨e1, e2, e3, -⟩ := hq
  rw [e1, e2, e3]
  refine j_if_ne (tgt := 9) C dX11_toss_4 (by decide) (fun c0 => ?_) (fun _ => j_iconst (v := (-1)) C dX11_toss_7 (by decide) (fin _ _ _ dX11_toss_8))
  obtain ⟨g, hg, -⟩ := id ks.1
  refine j_aload_n C dX11_toss_9 rfl rfl ?_
  refine gCRX11_58 C dX11_toss_10 (W.lt 0 (by decide)) (sh_0 W) rfl ?_
  refine j_iload_n C dX11_toss_13 rfl rfl ?_
  refine j_aaldq C dX11_toss_14 (by omega) hg (isS_in c0) ?_
  cases ho : g a0.toNatClampNeg with
  | none =>
    refine j_astore_nN C dX11_toss_15 rfl (by decide) rfl ?_
    refine j_aload_nN C dX11_toss_16 rfl rfl ?_
    refine j_ifnonnullN C dX11_toss_17 ?_
    exact j_bipush (v := (-11)) C dX11_toss_20 (by decide) (fin _ _ _ dX11_toss_22)
  | some p =>
    have o := HOg ks hg ho
    refine j_astore_n C dX11_toss_15 rfl (by decide) rfl ?_
    refine j_aload_n C dX11_toss_16 rfl rfl ?_
    refine j_ifnonnull (tgt := 23) C dX11_toss_17 (by decide) ?_
    refine j_aload_n C dX11_toss_23 rfl rfl ?_
    refine hv_isThing C E o dX11_toss_24 (by decide) (Nat.le_of_ble_eq_true rfl) (fun r => ?_)
    refine j_if_eq (tgt := 37) C dX11_toss_27 (by decide) (fun _ => j_bipush (v := (-12)) C dX11_toss_37 (by decide) (fin _ _ _ dX11_toss_39)) (fun _ => ?_)
    refine j_aload_n C dX11_toss_30 rfl rfl ?_
    refine j_gi C (gr_SW (av := [.ref (ad p)]) C E (GX11_caughtFrom htr o) dX11_toss_31 cw_X11_caughtFrom iz_X11 ⟨by decide, by decide⟩ (show _ = some 1 by decide +kernel) ⟨by decide, by decide⟩ (by decide) lk_RX11_343 st_X11_caughtFrom rfl (Nat.le_of_ble_eq_true rfl)) ?_
    rintro r u rfl
    have C1 := C.g (a := 1) (b := 6) (by decide) (by decide)
    refine j_goto (tgt := 39) C1 dX11_toss_34 (by decide) ?_
    exact K r (n, ad, S, h) 1 6 rfl (by decide) (by decide) _ _ dX11_toss_39)
set_option maxRecDepth 100000 in
theorem GX11_copy (W : WS pr n S) (ks : KS n S h) (a0 a1 a2 a3 a4 : Int32) : GM l0 yX11_copy (.code yX11_copy cX11_copy 8 (some .int)) (mkR 3 0 0 60) Y ad n S h [.ref (ad 0), .int a0, .int a1, .int a2, .int a3, .int a4] (gQi Y ad n S h (fun _ u => KP pr ad n h u)) := met_gi (by decide) (Nat.le_of_ble_eq_true rfl) (fun _ _ _ => rfl) (fun X C E N K => by
  refine j_vl (lv' := [(0, .ref (ad 0)), (1, .int a0), (2, .int a1), (3, .int a2), (4, .int a3), (5, .int a4)]) ?_ ⟨rfl, rfl, rfl, rfl, rfl, rfl, trivial⟩
  have h60 := W.1
  have fin : ∀ h', HR n S h h' → ∀ r pc lv, decode cX11_copy pc = .ok (.ireturn, 1) → FJ X Y ad n S h' pc lv [.int r] := fun h' q r pc lv d => fj_xg1 (K r (n, ad, S, h') 0 0 ⟨Nat.le_refl _, fun _ _ => rfl, W, KS_low ks q.2, q.1⟩ (Nat.zero_le _) (Nat.zero_le _) _ _ d)
  have bad : ∀ lv, FJ X Y ad n S h 14 lv [] := fun lv => j_iconst (v := (-1)) C dX11_copy_14 (by decide) (fin h HR.rf _ _ _ dX11_copy_15)
  refine j_iload_n C dX11_copy_0 rfl rfl ?_
  refine j_callS C (MX11_isShelf W a0 h (SX11_isShelf a0).1) dX11_copy_1 (CKX11_isShelf (by decide)) ⟨rfl, rfl⟩ lk_RX11_290 st_X11_isShelf rfl (Nat.le_of_ble_eq_true rfl) ?_
  intro r S' h' hq
  obtain ⟨e1, e2, e3, -⟩ := hq
  rw [e1, e2, e3]
  refine j_if_eq (tgt := 14) C dX11_copy_4 (by decide) (fun _ => bad _) (fun c0 => ?_)
  refine j_iload_n C dX11_copy_7 rfl rfl ?_
  refine j_callS C (MX11_isShelf W a2 h (SX11_isShelf a2).1) dX11_copy_8 (CKX11_isShelf (by decide)) ⟨rfl, rfl⟩ lk_RX11_290 st_X11_isShelf rfl (Nat.le_of_ble_eq_true rfl) ?_
  intro r S' h' hq
  obtain ⟨e1, e2, e3, -⟩ := hq
  rw [e1, e2, e3]
  refine j_if_ne (tgt := 16) C dX11_copy_11 (by decide) (fun c1 => ?_) (fun _ => bad _)
  obtain ⟨g, hg, -⟩ := id ks.1
  have none11 : ∀ lv, FJ X Y ad n S h 42 lv [] := fun lv => j_bipush (v := (-11)) C dX11_copy_42 (by decide) (fin h HR.rf _ _ _ dX11_copy_44)
  refine j_aload_n C dX11_copy_16 rfl rfl ?_
  refine gCRX11_58 C dX11_copy_17 (W.lt 0 (by decide)) (sh_0 W) rfl ?_
  refine j_iload_n C dX11_copy_20 rfl rfl ?_
  refine j_aaldq C dX11_copy_21 (by omega) hg (isS_in c0) ?_
  cases ho : g a0.toNatClampNeg with
  | none =>
    refine j_astoreN C dX11_copy_22 (by decide) rfl ?_
    refine j_aload_n C dX11_copy_24 rfl rfl ?_
    refine gCRX11_58 C dX11_copy_25 (W.lt 0 (by decide)) (sh_0 W) rfl ?_
    refine j_iload_n C dX11_copy_28 rfl rfl ?_
    refine j_aaldq C dX11_copy_29 (by omega) hg (isS_in c1) ?_
    cases hp : g a2.toNatClampNeg with
    | none =>
      refine j_astoreN C dX11_copy_30 (by decide) rfl ?_
      refine j_aloadN C dX11_copy_32 rfl ?_
      exact j_ifnullN (tgt := 42) C dX11_copy_34 (by decide) (none11 _)
    | some q =>
      refine j_astore C dX11_copy_30 (by decide) rfl ?_
      refine j_aloadN C dX11_copy_32 rfl ?_
      exact j_ifnullN (tgt := 42) C dX11_copy_34 (by decide) (none11 _)
  | some p =>
    have o := HOg ks hg ho
    refine j_astore C dX11_copy_22 (by decide) rfl ?_
    refine j_aload_n C dX11_copy_24 rfl rfl ?_
    refine gCRX11_58 C dX11_copy_25 (W.lt 0 (by decide)) (sh_0 W) rfl ?_
    refine j_iload_n C dX11_copy_28 rfl rfl ?_
    refine j_aaldq C dX11_copy_29 (by omega) hg (isS_in c1) ?_
    cases hp : g a2.toNatClampNeg with
    | none =>
      refine j_astoreN C dX11_copy_30 (by decide) rfl ?_
      refine j_aload C dX11_copy_32 rfl ?_
      refine j_ifnull C dX11_copy_34 ?_
      refine j_aloadN C dX11_copy_37 rfl ?_
      exact j_ifnonnullN C dX11_copy_39 (none11 _)
    | some q =>
      have w := HOg ks hg hp
      have bad13 : ∀ lv, FJ X Y ad n S h 87 lv [] := fun lv => j_bipush (v := (-13)) C dX11_copy_87 (by decide) (fin h HR.rf _ _ _ dX11_copy_89)
      refine j_astore C dX11_copy_30 (by decide) rfl ?_
      refine j_aload C dX11_copy_32 rfl ?_
      refine j_ifnull C dX11_copy_34 ?_
      refine j_aload C dX11_copy_37 rfl ?_
      refine j_ifnonnull (tgt := 45) C dX11_copy_39 (by decide) ?_
      refine j_aload C dX11_copy_45 rfl ?_
      refine j_aload C dX11_copy_47 rfl ?_
      refine hv_takesFrom C E w o dX11_copy_49 (by decide) (Nat.le_of_ble_eq_true rfl) (fun r => ?_)
      refine j_if_ne (tgt := 58) C dX11_copy_52 (by decide) (fun _ => ?_) (fun _ => j_bipush (v := (-12)) C dX11_copy_55 (by decide) (fin h HR.rf _ _ _ dX11_copy_57))
      refine j_iload_n C dX11_copy_58 rfl rfl ?_
      refine j_iload C dX11_copy_59 rfl ?_
      refine j_aload C dX11_copy_61 rfl ?_
      refine hv_length C E o dX11_copy_63 (by decide) (Nat.le_of_ble_eq_true rfl) (fun r1 => ?_)
      refine j_callS C (MX11_fits W a1 a4 r1 h (SX11_fits _ _ _).1) dX11_copy_66 (CKX11_fits (by decide)) ⟨rfl, rfl⟩ lk_RX11_328 st_X11_fits rfl (Nat.le_of_ble_eq_true rfl) ?_
      intro r2 S' h' hq
      obtain ⟨e1, e2, e3, -⟩ := hq
      rw [e1, e2, e3]
      refine j_if_eq (tgt := 87) C dX11_copy_69 (by decide) (fun _ => bad13 _) (fun _ => ?_)
      refine j_iload C dX11_copy_72 rfl ?_
      refine j_iload C dX11_copy_74 rfl ?_
      refine j_aload C dX11_copy_76 rfl ?_
      refine hv_length C E w dX11_copy_78 (by decide) (Nat.le_of_ble_eq_true rfl) (fun r3 => ?_)
      refine j_callS C (MX11_fits W a3 a4 r3 h (SX11_fits _ _ _).1) dX11_copy_81 (CKX11_fits (by decide)) ⟨rfl, rfl⟩ lk_RX11_328 st_X11_fits rfl (Nat.le_of_ble_eq_true rfl) ?_
      intro r4 S' h' hq
      obtain ⟨e1, e2, e3, -⟩ := hq
      rw [e1, e2, e3]
      refine j_if_ne (tgt := 90) C dX11_copy_84 (by decide) (fun _ => ?_) (fun _ => bad13 _)
      refine j_aload C dX11_copy_90 rfl ?_
      refine j_iload C dX11_copy_92 rfl ?_
      refine j_aload C dX11_copy_94 rfl ?_
      refine j_iload_n C dX11_copy_96 rfl rfl ?_
      refine j_iload C dX11_copy_97 rfl ?_
      refine hv_fill W C E w o ks.2.2 dX11_copy_99 (by decide) (Nat.le_of_ble_eq_true rfl) (fun h' hr => ?_)
      refine j_iload C dX11_copy_102 rfl ?_
      exact fin h' hr _ _ _ dX11_copy_104)
/-! value and place: 0 they return, 1 IllegalArgumentException, 2 IllegalStateException -/
def vSlot (a0 a1 : Int32) : Int32 := if a0 = (-1) then FX11_cellSlot a1 else FX11_localSlot a0 a1
def vCode (a0 a1 a2 : Int32) (h : ph_H) : Nat := if h 0 8 = 0 then 2 else if vSlot a0 a1 < 0 then 1 else if a2 < 0 then 1 else if a2 ≤ 1 then 0 else 1
def vR (a0 a1 a2 : Int32) (h : ph_H) : Int32 := if a2 = 0 then FX11_seenBehind (h 0 10) h 16 (vSlot a0 a1).toNatClampNeg else FX11_seenBehind (h 0 10) h 17 (vSlot a0 a1).toNatClampNeg
def xCode (E : String) (c : Nat) : Prop := (E = eIA ∧ c = 1) ∨ (E = eIS ∧ c = 2)
set_option maxRecDepth 100000 in
theorem GX11_value (htr : l0.stackTraces = false) (W : WS pr n S) (I : IC z h) (a0 a1 a2 : Int32) : XM l0 yX11_value (.code yX11_value cX11_value 6 (some .int)) (mkR 6 1 6 143) Y ad n S h [.ref (ad 0), .int a0, .int a1, .int a2] (gQi Y ad n S h (fun r u => vCode a0 a1 a2 h = 0 ∧ r = vR a0 a1 a2 h ∧ u = (n, ad, S, FX11_seenBehind (h 0 10) h))) (fun Ex u => xCode Ex (vCode a0 a1 a2 h) ∧ u = (n, ad, S, h)) := met_x htr (by decide) (Nat.le_of_ble_eq_true rfl) (fun _ _ _ => rfl) (fun X C E K T => by
  refine j_vl (lv' := [(0, .ref (ad 0)), (1, .int a0), (2, .int a1), (3, .int a2)]) ?_ ⟨rfl, rfl, rfl, rfl, trivial⟩
  have t50 : vCode a0 a1 a2 h = 1 → ∀ lv, FJ X Y ad n S h 50 lv [] := fun e lv => fj_xg1 (T eIA (n, ad, S, h) 0 0 ⟨Or.inl ⟨rfl, e⟩, rfl⟩ (by decide) (by decide) (by decide) 50 lv [] (by decide) th_va50)
  refine j_aload_n C dX11_value_0 rfl rfl ?_
  refine gCRX11_116 C dX11_value_1 (W.lt 0 (by decide)) (sh_0 W) rfl rfl ?_
  refine j_if_ne (tgt := 17) C dX11_value_4 (by decide) (fun c0 => ?_) (fun c0 => fj_xg1 (T eIS (n, ad, S, h) 0 0 ⟨Or.inr ⟨rfl, by unfold vCode; rw [if_pos c0]⟩, rfl⟩ (by decide) (by decide) (by decide) 7 _ [] (by decide) th_va7))
  have at36 : ∀ s : Int32, s = vSlot a0 a1 → iv (-1) 27 s → FJ X Y ad n S h 34 [(0, .ref (ad 0)), (1, .int a0), (2, .int a1), (3, .int a2)] [.int s] := fun s es fs => by
    refine j_istore C dX11_value_34 (by decide) rfl ?_
    refine j_iload C dX11_value_36 rfl ?_
    refine j_if_lt (tgt := 50) C dX11_value_38 (by decide) (fun c => t50 (by unfold vCode; rw [if_neg c0, if_pos (by rw [← es]; exact c)]) _) (fun c1 => ?_)
    refine j_iload_n C dX11_value_41 rfl rfl ?_
    refine j_if_lt (tgt := 50) C dX11_value_42 (by decide) (fun c => t50 (by unfold vCode; rw [if_neg c0, if_neg (by rw [← es]; exact c1), if_pos c]) _) (fun c2 => ?_)
    refine j_iload_n C dX11_value_45 rfl rfl ?_
    refine j_iconst (v := 1) C dX11_value_46 (by decide) ?_
    refine j_icmp_le (tgt := 60) C dX11_value_47 (by decide) (fun c3 => ?_) (fun c => t50 (by unfold vCode; rw [if_neg c0, if_neg (by rw [← es]; exact c1), if_neg c2, if_neg c]) _)
    have ok : vCode a0 a1 a2 h = 0 := by unfold vCode; rw [if_neg c0, if_neg (by rw [← es]; exact c1), if_neg c2, if_pos c3]
    have fs2 : iv 0 27 s := by
      have z : (0 : Int32).toInt = 0 := by decide
      rw [Int32.lt_iff_toInt_lt] at c1
      unfold iv at *
      omega
    refine j_aload_n C dX11_value_60 rfl rfl ?_
    refine j_aload_n C dX11_value_61 rfl rfl ?_
    refine gCRX11_126 C dX11_value_62 (W.lt 0 (by decide)) (sh_0 W) rfl rfl ?_
    refine j_callVr C (MX11_seenBehind W (h 0 10) h (SX11_seenBehind _ h I (ICv I 0 10)).1) dX11_value_65 (CKX11_seenBehind (by decide)) ⟨rfl, rfl⟩ lk_RX11_200 in_X11_seenBehind se_X11_seenBehind (W.lt 0 (by decide)) (sh_0 W) rfl rfl (Nat.le_of_ble_eq_true rfl) ?_
    intro S' h' hq
    obtain ⟨e1, e2⟩ := hq
    rw [e1, e2]
    refine j_astore C dX11_value_68 (by decide) rfl ?_
    refine j_iload_n C dX11_value_70 rfl rfl ?_
    refine j_if_ne (tgt := 85) C dX11_value_71 (by decide) (fun c4 => ?_) (fun c4 => ?_)
    · refine j_aload C dX11_value_85 rfl ?_
      refine gCRX11_207 C dX11_value_87 (W.lt 15 (by decide)) (sh_15 W) rfl ?_
      refine j_iload C dX11_value_90 rfl ?_
      refine j_iald (k := 17) C dX11_value_92 (W.lt 17 (by decide)) (sh_17 W) (iv_in fs2 rfl) rfl ?_
      exact fj_xg1 (K _ (n, ad, S, FX11_seenBehind (h 0 10) h) 0 0 ⟨ok, by unfold vR; rw [if_neg c4, es], rfl⟩ (Nat.zero_le _) (Nat.zero_le _) _ _ dX11_value_93)
    · refine j_aload C dX11_value_74 rfl ?_
      refine gCRX11_204 C dX11_value_76 (W.lt 15 (by decide)) (sh_15 W) rfl ?_
      refine j_iload C dX11_value_79 rfl ?_
      refine j_iald (k := 16) C dX11_value_81 (W.lt 16 (by decide)) (sh_16 W) (iv_in fs2 rfl) rfl ?_
      refine j_goto (tgt := 93) C dX11_value_82 (by decide) ?_
      exact fj_xg1 (K _ (n, ad, S, FX11_seenBehind (h 0 10) h) 0 0 ⟨ok, by unfold vR; rw [if_pos c4, es], rfl⟩ (Nat.zero_le _) (Nat.zero_le _) _ _ dX11_value_93)
  refine j_iload_n C dX11_value_17 rfl rfl ?_
  refine j_iconst (v := (-1)) C dX11_value_18 (by decide) ?_
  refine j_icmp_ne (tgt := 29) C dX11_value_19 (by decide) (fun c => ?_) (fun c => ?_)
  · refine j_iload_n C dX11_value_29 rfl rfl ?_
    refine j_iload_n C dX11_value_30 rfl rfl ?_
    have s := SX11_localSlot a0 a1
    refine j_callS C (MX11_localSlot W a0 a1 h s.1) dX11_value_31 (CKX11_localSlot (by decide)) ⟨rfl, rfl⟩ lk_RX11_192 st_X11_localSlot rfl (Nat.le_of_ble_eq_true rfl) ?_
    intro r S' h' hq
    obtain ⟨e1, e2, e3⟩ := hq
    rw [e1, e2, e3]
    exact at36 _ (by unfold vSlot; rw [if_neg c]) s.2
  · refine j_iload_n C dX11_value_22 rfl rfl ?_
    have s := SX11_cellSlot a1
    refine j_callS C (MX11_cellSlot W a1 h s.1) dX11_value_23 (CKX11_cellSlot (by decide)) ⟨rfl, rfl⟩ lk_RX11_189 st_X11_cellSlot rfl (Nat.le_of_ble_eq_true rfl) ?_
    intro r S' h' hq
    obtain ⟨e1, e2, e3⟩ := hq
    rw [e1, e2, e3]
    refine j_goto (tgt := 34) C dX11_value_26 (by decide) ?_
    exact at36 _ (by unfold vSlot; rw [if_pos c]) (iv_w s.2 rfl))
def pH (h : ph_H) : ph_H := if h 0 8 = 0 then h else FX11_seenBehind (h 0 10) h
def pCode (a0 a1 : Int32) (h : ph_H) : Nat := if h 0 8 = 0 then 2 else if FX3_hasRowPlace_s a0 a1 (FX11_seenBehind (h 0 10) h) = 0 then 1 else 0
def pR (a0 a1 : Int32) (h : ph_H) : Int32 := FX11_seenBehind (h 0 10) h 24 (a0 * 16 + a1).toNatClampNeg
set_option maxRecDepth 100000 in
theorem GX11_place (htr : l0.stackTraces = false) (W : WS pr n S) (I : IC z h) (a0 a1 : Int32) : XM l0 yX11_place (.code yX11_place cX11_place 4 (some .int)) (mkR 6 1 6 143) Y ad n S h [.ref (ad 0), .int a0, .int a1] (gQi Y ad n S h (fun r u => pCode a0 a1 h = 0 ∧ r = pR a0 a1 h ∧ u = (n, ad, S, pH h))) (fun Ex u => xCode Ex (pCode a0 a1 h) ∧ u = (n, ad, S, pH h)) := met_x htr (by decide) (Nat.le_of_ble_eq_true rfl) (fun _ _ _ => rfl) (fun X C E K T => by
  refine j_vl (lv' := [(0, .ref (ad 0)), (1, .int a0), (2, .int a1)]) ?_ ⟨rfl, rfl, rfl, trivial⟩
  refine j_aload_n C dX11_place_0 rfl rfl ?_
  refine gCRX11_116 C dX11_place_1 (W.lt 0 (by decide)) (sh_0 W) rfl rfl ?_
  refine j_if_ne (tgt := 17) C dX11_place_4 (by decide) (fun c0 => ?_) (fun c0 => fj_xg1 (T eIS (n, ad, S, h) 0 0 ⟨Or.inr ⟨rfl, by unfold pCode; rw [if_pos c0]⟩, by unfold pH; rw [if_pos c0]⟩ (by decide) (by decide) (by decide) 7 _ [] (by decide) th_pl7))
  have eh : pH h = FX11_seenBehind (h 0 10) h := by unfold pH; rw [if_neg c0]
  have sb := SX11_seenBehind _ h I (ICv I 0 10)
  refine j_aload_n C dX11_place_17 rfl rfl ?_
  refine j_aload_n C dX11_place_18 rfl rfl ?_
  refine gCRX11_126 C dX11_place_19 (W.lt 0 (by decide)) (sh_0 W) rfl rfl ?_
  refine j_callVr C (MX11_seenBehind W (h 0 10) h sb.1) dX11_place_22 (CKX11_seenBehind (by decide)) ⟨rfl, rfl⟩ lk_RX11_200 in_X11_seenBehind se_X11_seenBehind (W.lt 0 (by decide)) (sh_0 W) rfl rfl (Nat.le_of_ble_eq_true rfl) ?_
  intro S' h' hq
  obtain ⟨e1, e2⟩ := hq
  rw [e1, e2]
  refine j_astore_n C dX11_place_25 rfl (by decide) rfl ?_
  refine j_aload_n C dX11_place_26 rfl rfl ?_
  refine j_iload_n C dX11_place_27 rfl rfl ?_
  refine j_iload_n C dX11_place_28 rfl rfl ?_
  have s := SX3_hasRowPlace_s (z := z) a0 a1 _ sb.2
  refine j_callV C (MX3_hasRowPlace_s W a0 a1 _ s.1) dX11_place_29 (CKX3_hasRowPlace (by decide)) ⟨rfl, rfl⟩ lk_RX11_222 in_X3_hasRowPlace se_X3_hasRowPlace (W.lt 15 (by decide)) (sh_15 W) rfl rfl (Nat.le_of_ble_eq_true rfl) ?_
  intro r S' h' hq
  obtain ⟨e1, e2, e3, -⟩ := hq
  rw [e1, e2, e3]
  refine j_if_ne (tgt := 45) C dX11_place_32 (by decide) (fun c1 => ?_) (fun c1 => fj_xg1 (T eIA (n, ad, S, FX11_seenBehind (h 0 10) h) 0 0 ⟨Or.inl ⟨rfl, by unfold pCode; rw [if_neg c0, if_pos c1]⟩, by rw [eh]⟩ (by decide) (by decide) (by decide) 35 _ [] (by decide) th_pl35))
  have f := s.2.2 c1
  refine j_aload_n C dX11_place_45 rfl rfl ?_
  refine gCRX11_228 C dX11_place_46 (W.lt 15 (by decide)) (sh_15 W) rfl ?_
  refine j_iload_n C dX11_place_49 rfl rfl ?_
  refine j_bipush (v := 16) C dX11_place_50 (by decide) ?_
  refine j_imul C dX11_place_52 ?_
  refine j_iload_n C dX11_place_53 rfl rfl ?_
  refine j_iadd C dX11_place_54 ?_
  have fm : iv 0 176 (a0 * 16) := iv_mulr (c := 16) rfl f.1 rfl
  refine j_iald (k := 24) C dX11_place_55 (W.lt 24 (by decide)) (sh_24 W) (iv_in (iv_add (lo := 0) (hi := 191) fm f.2 rfl) rfl) rfl ?_
  exact fj_xg1 (K _ (n, ad, S, FX11_seenBehind (h 0 10) h) 0 0 ⟨by unfold pCode; rw [if_neg c0, if_neg c1], rfl, by rw [eh]⟩ (Nat.zero_le _) (Nat.zero_le _) _ _ dX11_place_56))
end BOX4
end MG_39_box4
