section MG_15_cdec0
def dncX3_begin : Nat := 0xb14300b5032a4000b51c2a3c00b5032a4f04031500b42a2b00b8031500b42a2b00b8031200b42a3600b80c10030f00b42a033100b42b2b00b8030f00b42a2b00b8030900b42a2700b52b2a
theorem dmcX3_begin : dkc dncX3_begin 75 cX3_begin.data.toList 0 = true := by decide +kernel
theorem dX3_begin_0 : decode cX3_begin 0 = .ok (.aload_n 0, 1) := dk_42 (dkn dmcX3_begin (by decide +kernel))
theorem dX3_begin_1 : decode cX3_begin 1 = .ok (.aload_n 1, 1) := dk_43 (dkn dmcX3_begin (by decide +kernel))
theorem dX3_begin_2 : decode cX3_begin 2 = .ok (.putfield 39, 3) := dk_181 (a := 0) (b := 39) (dkn dmcX3_begin (by decide +kernel)) rfl
theorem dX3_begin_5 : decode cX3_begin 5 = .ok (.aload_n 0, 1) := dk_42 (dkn dmcX3_begin (by decide +kernel))
theorem dX3_begin_6 : decode cX3_begin 6 = .ok (.getfield 9, 3) := dk_180 (a := 0) (b := 9) (dkn dmcX3_begin (by decide +kernel)) rfl
theorem dX3_begin_9 : decode cX3_begin 9 = .ok (.iconst 0, 1) := dk_3 (dkn dmcX3_begin (by decide +kernel))
theorem dX3_begin_10 : decode cX3_begin 10 = .ok (.invokestatic 43, 3) := dk_184 (a := 0) (b := 43) (dkn dmcX3_begin (by decide +kernel)) rfl
theorem dX3_begin_13 : decode cX3_begin 13 = .ok (.aload_n 0, 1) := dk_42 (dkn dmcX3_begin (by decide +kernel))
theorem dX3_begin_14 : decode cX3_begin 14 = .ok (.getfield 15, 3) := dk_180 (a := 0) (b := 15) (dkn dmcX3_begin (by decide +kernel)) rfl
theorem dX3_begin_17 : decode cX3_begin 17 = .ok (.iconst 0, 1) := dk_3 (dkn dmcX3_begin (by decide +kernel))
theorem dX3_begin_18 : decode cX3_begin 18 = .ok (.invokestatic 43, 3) := dk_184 (a := 0) (b := 43) (dkn dmcX3_begin (by decide +kernel)) rfl
theorem dX3_begin_21 : decode cX3_begin 21 = .ok (.aload_n 1, 1) := dk_43 (dkn dmcX3_begin (by decide +kernel))
theorem dX3_begin_22 : decode cX3_begin 22 = .ok (.getfield 49, 3) := dk_180 (a := 0) (b := 49) (dkn dmcX3_begin (by decide +kernel)) rfl
theorem dX3_begin_25 : decode cX3_begin 25 = .ok (.iconst 0, 1) := dk_3 (dkn dmcX3_begin (by decide +kernel))
theorem dX3_begin_26 : decode cX3_begin 26 = .ok (.aload_n 0, 1) := dk_42 (dkn dmcX3_begin (by decide +kernel))
theorem dX3_begin_27 : decode cX3_begin 27 = .ok (.getfield 15, 3) := dk_180 (a := 0) (b := 15) (dkn dmcX3_begin (by decide +kernel)) rfl
theorem dX3_begin_30 : decode cX3_begin 30 = .ok (.iconst 0, 1) := dk_3 (dkn dmcX3_begin (by decide +kernel))
theorem dX3_begin_31 : decode cX3_begin 31 = .ok (.bipush 12, 2) := dk_16 (a := 12) (dkn dmcX3_begin (by decide +kernel)) rfl
theorem dX3_begin_33 : decode cX3_begin 33 = .ok (.invokestatic 54, 3) := dk_184 (a := 0) (b := 54) (dkn dmcX3_begin (by decide +kernel)) rfl
theorem dX3_begin_36 : decode cX3_begin 36 = .ok (.aload_n 0, 1) := dk_42 (dkn dmcX3_begin (by decide +kernel))
theorem dX3_begin_37 : decode cX3_begin 37 = .ok (.getfield 18, 3) := dk_180 (a := 0) (b := 18) (dkn dmcX3_begin (by decide +kernel)) rfl
theorem dX3_begin_40 : decode cX3_begin 40 = .ok (.iconst 0, 1) := dk_3 (dkn dmcX3_begin (by decide +kernel))
theorem dX3_begin_41 : decode cX3_begin 41 = .ok (.invokestatic 43, 3) := dk_184 (a := 0) (b := 43) (dkn dmcX3_begin (by decide +kernel)) rfl
theorem dX3_begin_44 : decode cX3_begin 44 = .ok (.aload_n 0, 1) := dk_42 (dkn dmcX3_begin (by decide +kernel))
theorem dX3_begin_45 : decode cX3_begin 45 = .ok (.getfield 21, 3) := dk_180 (a := 0) (b := 21) (dkn dmcX3_begin (by decide +kernel)) rfl
theorem dX3_begin_48 : decode cX3_begin 48 = .ok (.iconst 0, 1) := dk_3 (dkn dmcX3_begin (by decide +kernel))
theorem dX3_begin_49 : decode cX3_begin 49 = .ok (.invokestatic 43, 3) := dk_184 (a := 0) (b := 43) (dkn dmcX3_begin (by decide +kernel)) rfl
theorem dX3_begin_52 : decode cX3_begin 52 = .ok (.aload_n 0, 1) := dk_42 (dkn dmcX3_begin (by decide +kernel))
theorem dX3_begin_53 : decode cX3_begin 53 = .ok (.getfield 21, 3) := dk_180 (a := 0) (b := 21) (dkn dmcX3_begin (by decide +kernel)) rfl
theorem dX3_begin_56 : decode cX3_begin 56 = .ok (.iconst 0, 1) := dk_3 (dkn dmcX3_begin (by decide +kernel))
theorem dX3_begin_57 : decode cX3_begin 57 = .ok (.iconst 1, 1) := dk_4 (dkn dmcX3_begin (by decide +kernel))
theorem dX3_begin_58 : decode cX3_begin 58 = .ok (.iastore, 1) := dk_79 (dkn dmcX3_begin (by decide +kernel))
theorem dX3_begin_59 : decode cX3_begin 59 = .ok (.aload_n 0, 1) := dk_42 (dkn dmcX3_begin (by decide +kernel))
theorem dX3_begin_60 : decode cX3_begin 60 = .ok (.iconst 0, 1) := dk_3 (dkn dmcX3_begin (by decide +kernel))
theorem dX3_begin_61 : decode cX3_begin 61 = .ok (.putfield 60, 3) := dk_181 (a := 0) (b := 60) (dkn dmcX3_begin (by decide +kernel)) rfl
theorem dX3_begin_64 : decode cX3_begin 64 = .ok (.aload_n 0, 1) := dk_42 (dkn dmcX3_begin (by decide +kernel))
theorem dX3_begin_65 : decode cX3_begin 65 = .ok (.iload_n 2, 1) := dk_28 (dkn dmcX3_begin (by decide +kernel))
theorem dX3_begin_66 : decode cX3_begin 66 = .ok (.putfield 64, 3) := dk_181 (a := 0) (b := 64) (dkn dmcX3_begin (by decide +kernel)) rfl
theorem dX3_begin_69 : decode cX3_begin 69 = .ok (.aload_n 0, 1) := dk_42 (dkn dmcX3_begin (by decide +kernel))
theorem dX3_begin_70 : decode cX3_begin 70 = .ok (.iconst 0, 1) := dk_3 (dkn dmcX3_begin (by decide +kernel))
theorem dX3_begin_71 : decode cX3_begin 71 = .ok (.putfield 67, 3) := dk_181 (a := 0) (b := 67) (dkn dmcX3_begin (by decide +kernel)) rfl
theorem dX3_begin_74 : decode cX3_begin 74 = .ok (.return_, 1) := dk_177 (dkn dmcX3_begin (by decide +kernel))
theorem dX3_hasEnded_0 : decode cX3_hasEnded 0 = .ok (.aload_n 0, 1) := dk_42 (by decide +kernel)
theorem dX3_hasEnded_1 : decode cX3_hasEnded 1 = .ok (.getfield 39, 3) := dk_180 (a := 0) (b := 39) (by decide +kernel) rfl
theorem dX3_hasEnded_4 : decode cX3_hasEnded 4 = .ok (.iload_n 1, 1) := dk_27 (by decide +kernel)
theorem dX3_hasEnded_5 : decode cX3_hasEnded 5 = .ok (.aload_n 0, 1) := dk_42 (by decide +kernel)
theorem dX3_hasEnded_6 : decode cX3_hasEnded 6 = .ok (.getfield 18, 3) := dk_180 (a := 0) (b := 18) (by decide +kernel) rfl
theorem dX3_hasEnded_9 : decode cX3_hasEnded 9 = .ok (.iload_n 1, 1) := dk_27 (by decide +kernel)
theorem dX3_hasEnded_10 : decode cX3_hasEnded 10 = .ok (.iaload, 1) := dk_46 (by decide +kernel)
theorem dX3_hasEnded_11 : decode cX3_hasEnded 11 = .ok (.invokevirtual 70, 3) := dk_182 (a := 0) (b := 70) (by decide +kernel) rfl
theorem dX3_hasEnded_14 : decode cX3_hasEnded 14 = .ok (.ifCond .ne 7, 3) := dk_154 (a := 0) (b := 7) (by decide +kernel) rfl
theorem dX3_hasEnded_17 : decode cX3_hasEnded 17 = .ok (.iconst 1, 1) := dk_4 (by decide +kernel)
theorem dX3_hasEnded_18 : decode cX3_hasEnded 18 = .ok (.goto 4, 3) := dk_167 (a := 0) (b := 4) (by decide +kernel) rfl
theorem dX3_hasEnded_21 : decode cX3_hasEnded 21 = .ok (.iconst 0, 1) := dk_3 (by decide +kernel)
theorem dX3_hasEnded_22 : decode cX3_hasEnded 22 = .ok (.ireturn, 1) := dk_172 (by decide +kernel)
theorem dX3_nextInstruction_0 : decode cX3_nextInstruction 0 = .ok (.aload_n 0, 1) := dk_42 (by decide +kernel)
theorem dX3_nextInstruction_1 : decode cX3_nextInstruction 1 = .ok (.iload_n 1, 1) := dk_27 (by decide +kernel)
theorem dX3_nextInstruction_2 : decode cX3_nextInstruction 2 = .ok (.invokevirtual 74, 3) := dk_182 (a := 0) (b := 74) (by decide +kernel) rfl
theorem dX3_nextInstruction_5 : decode cX3_nextInstruction 5 = .ok (.ifCond .eq 8, 3) := dk_153 (a := 0) (b := 8) (by decide +kernel) rfl
theorem dX3_nextInstruction_8 : decode cX3_nextInstruction 8 = .ok (.bipush 24, 2) := dk_16 (a := 24) (by decide +kernel) rfl
theorem dX3_nextInstruction_10 : decode cX3_nextInstruction 10 = .ok (.goto 9, 3) := dk_167 (a := 0) (b := 9) (by decide +kernel) rfl
theorem dX3_nextInstruction_13 : decode cX3_nextInstruction 13 = .ok (.aload_n 0, 1) := dk_42 (by decide +kernel)
theorem dX3_nextInstruction_14 : decode cX3_nextInstruction 14 = .ok (.getfield 18, 3) := dk_180 (a := 0) (b := 18) (by decide +kernel) rfl
theorem dX3_nextInstruction_17 : decode cX3_nextInstruction 17 = .ok (.iload_n 1, 1) := dk_27 (by decide +kernel)
theorem dX3_nextInstruction_18 : decode cX3_nextInstruction 18 = .ok (.iaload, 1) := dk_46 (by decide +kernel)
theorem dX3_nextInstruction_19 : decode cX3_nextInstruction 19 = .ok (.ireturn, 1) := dk_172 (by decide +kernel)
def dncX3_canGo : Nat := 0xac030400a7040700a01b2e1d2100b42a0d009ffe102e1d2100b42a18009b1d3e5800b65500b82e60041c5200b42700b42a1b2aac0405009f0c102e1c5200b42700b42a3d4e00b62e1b1200b42a1b2700b42aac030400a7040700a0fe102e2e1b1800b42a2100b42a1900a0062e1b1500b42aac030500994a00b61b2a0b009f052e1b1500b42a1500992e1b1500b42a
theorem dmcX3_canGo : dkc dncX3_canGo 143 cX3_canGo.data.toList 0 = true := by decide +kernel
theorem dX3_canGo_0 : decode cX3_canGo 0 = .ok (.aload_n 0, 1) := dk_42 (dkn dmcX3_canGo (by decide +kernel))
theorem dX3_canGo_1 : decode cX3_canGo 1 = .ok (.getfield 21, 3) := dk_180 (a := 0) (b := 21) (dkn dmcX3_canGo (by decide +kernel)) rfl
theorem dX3_canGo_4 : decode cX3_canGo 4 = .ok (.iload_n 1, 1) := dk_27 (dkn dmcX3_canGo (by decide +kernel))
theorem dX3_canGo_5 : decode cX3_canGo 5 = .ok (.iaload, 1) := dk_46 (dkn dmcX3_canGo (by decide +kernel))
theorem dX3_canGo_6 : decode cX3_canGo 6 = .ok (.ifCond .eq 21, 3) := dk_153 (a := 0) (b := 21) (dkn dmcX3_canGo (by decide +kernel)) rfl
theorem dX3_canGo_9 : decode cX3_canGo 9 = .ok (.aload_n 0, 1) := dk_42 (dkn dmcX3_canGo (by decide +kernel))
theorem dX3_canGo_10 : decode cX3_canGo 10 = .ok (.getfield 21, 3) := dk_180 (a := 0) (b := 21) (dkn dmcX3_canGo (by decide +kernel)) rfl
theorem dX3_canGo_13 : decode cX3_canGo 13 = .ok (.iload_n 1, 1) := dk_27 (dkn dmcX3_canGo (by decide +kernel))
theorem dX3_canGo_14 : decode cX3_canGo 14 = .ok (.iaload, 1) := dk_46 (dkn dmcX3_canGo (by decide +kernel))
theorem dX3_canGo_15 : decode cX3_canGo 15 = .ok (.iconst 2, 1) := dk_5 (dkn dmcX3_canGo (by decide +kernel))
theorem dX3_canGo_16 : decode cX3_canGo 16 = .ok (.if_icmp .eq 11, 3) := dk_159 (a := 0) (b := 11) (dkn dmcX3_canGo (by decide +kernel)) rfl
theorem dX3_canGo_19 : decode cX3_canGo 19 = .ok (.aload_n 0, 1) := dk_42 (dkn dmcX3_canGo (by decide +kernel))
theorem dX3_canGo_20 : decode cX3_canGo 20 = .ok (.iload_n 1, 1) := dk_27 (dkn dmcX3_canGo (by decide +kernel))
theorem dX3_canGo_21 : decode cX3_canGo 21 = .ok (.invokevirtual 74, 3) := dk_182 (a := 0) (b := 74) (dkn dmcX3_canGo (by decide +kernel)) rfl
theorem dX3_canGo_24 : decode cX3_canGo 24 = .ok (.ifCond .eq 5, 3) := dk_153 (a := 0) (b := 5) (dkn dmcX3_canGo (by decide +kernel)) rfl
theorem dX3_canGo_27 : decode cX3_canGo 27 = .ok (.iconst 0, 1) := dk_3 (dkn dmcX3_canGo (by decide +kernel))
theorem dX3_canGo_28 : decode cX3_canGo 28 = .ok (.ireturn, 1) := dk_172 (dkn dmcX3_canGo (by decide +kernel))
theorem dX3_canGo_29 : decode cX3_canGo 29 = .ok (.aload_n 0, 1) := dk_42 (dkn dmcX3_canGo (by decide +kernel))
theorem dX3_canGo_30 : decode cX3_canGo 30 = .ok (.getfield 21, 3) := dk_180 (a := 0) (b := 21) (dkn dmcX3_canGo (by decide +kernel)) rfl
theorem dX3_canGo_33 : decode cX3_canGo 33 = .ok (.iload_n 1, 1) := dk_27 (dkn dmcX3_canGo (by decide +kernel))
theorem dX3_canGo_34 : decode cX3_canGo 34 = .ok (.iaload, 1) := dk_46 (dkn dmcX3_canGo (by decide +kernel))
theorem dX3_canGo_35 : decode cX3_canGo 35 = .ok (.iconst 3, 1) := dk_6 (dkn dmcX3_canGo (by decide +kernel))
theorem dX3_canGo_36 : decode cX3_canGo 36 = .ok (.if_icmp .ne 25, 3) := dk_160 (a := 0) (b := 25) (dkn dmcX3_canGo (by decide +kernel)) rfl
theorem dX3_canGo_39 : decode cX3_canGo 39 = .ok (.aload_n 0, 1) := dk_42 (dkn dmcX3_canGo (by decide +kernel))
theorem dX3_canGo_40 : decode cX3_canGo 40 = .ok (.getfield 33, 3) := dk_180 (a := 0) (b := 33) (dkn dmcX3_canGo (by decide +kernel)) rfl
theorem dX3_canGo_43 : decode cX3_canGo 43 = .ok (.aload_n 0, 1) := dk_42 (dkn dmcX3_canGo (by decide +kernel))
theorem dX3_canGo_44 : decode cX3_canGo 44 = .ok (.getfield 24, 3) := dk_180 (a := 0) (b := 24) (dkn dmcX3_canGo (by decide +kernel)) rfl
theorem dX3_canGo_47 : decode cX3_canGo 47 = .ok (.iload_n 1, 1) := dk_27 (dkn dmcX3_canGo (by decide +kernel))
theorem dX3_canGo_48 : decode cX3_canGo 48 = .ok (.iaload, 1) := dk_46 (dkn dmcX3_canGo (by decide +kernel))
theorem dX3_canGo_49 : decode cX3_canGo 49 = .ok (.iaload, 1) := dk_46 (dkn dmcX3_canGo (by decide +kernel))
theorem dX3_canGo_50 : decode cX3_canGo 50 = .ok (.bipush (-2), 2) := dk_16 (a := 254) (dkn dmcX3_canGo (by decide +kernel)) rfl
theorem dX3_canGo_52 : decode cX3_canGo 52 = .ok (.if_icmp .ne 7, 3) := dk_160 (a := 0) (b := 7) (dkn dmcX3_canGo (by decide +kernel)) rfl
theorem dX3_canGo_55 : decode cX3_canGo 55 = .ok (.iconst 1, 1) := dk_4 (dkn dmcX3_canGo (by decide +kernel))
theorem dX3_canGo_56 : decode cX3_canGo 56 = .ok (.goto 4, 3) := dk_167 (a := 0) (b := 4) (dkn dmcX3_canGo (by decide +kernel)) rfl
theorem dX3_canGo_59 : decode cX3_canGo 59 = .ok (.iconst 0, 1) := dk_3 (dkn dmcX3_canGo (by decide +kernel))
theorem dX3_canGo_60 : decode cX3_canGo 60 = .ok (.ireturn, 1) := dk_172 (dkn dmcX3_canGo (by decide +kernel))
theorem dX3_canGo_61 : decode cX3_canGo 61 = .ok (.aload_n 0, 1) := dk_42 (dkn dmcX3_canGo (by decide +kernel))
theorem dX3_canGo_62 : decode cX3_canGo 62 = .ok (.getfield 39, 3) := dk_180 (a := 0) (b := 39) (dkn dmcX3_canGo (by decide +kernel)) rfl
theorem dX3_canGo_65 : decode cX3_canGo 65 = .ok (.iload_n 1, 1) := dk_27 (dkn dmcX3_canGo (by decide +kernel))
theorem dX3_canGo_66 : decode cX3_canGo 66 = .ok (.aload_n 0, 1) := dk_42 (dkn dmcX3_canGo (by decide +kernel))
theorem dX3_canGo_67 : decode cX3_canGo 67 = .ok (.getfield 18, 3) := dk_180 (a := 0) (b := 18) (dkn dmcX3_canGo (by decide +kernel)) rfl
theorem dX3_canGo_70 : decode cX3_canGo 70 = .ok (.iload_n 1, 1) := dk_27 (dkn dmcX3_canGo (by decide +kernel))
theorem dX3_canGo_71 : decode cX3_canGo 71 = .ok (.iaload, 1) := dk_46 (dkn dmcX3_canGo (by decide +kernel))
theorem dX3_canGo_72 : decode cX3_canGo 72 = .ok (.invokevirtual 78, 3) := dk_182 (a := 0) (b := 78) (dkn dmcX3_canGo (by decide +kernel)) rfl
theorem dX3_canGo_75 : decode cX3_canGo 75 = .ok (.istore_n 2, 1) := dk_61 (dkn dmcX3_canGo (by decide +kernel))
theorem dX3_canGo_76 : decode cX3_canGo 76 = .ok (.aload_n 0, 1) := dk_42 (dkn dmcX3_canGo (by decide +kernel))
theorem dX3_canGo_77 : decode cX3_canGo 77 = .ok (.getfield 39, 3) := dk_180 (a := 0) (b := 39) (dkn dmcX3_canGo (by decide +kernel)) rfl
theorem dX3_canGo_80 : decode cX3_canGo 80 = .ok (.getfield 82, 3) := dk_180 (a := 0) (b := 82) (dkn dmcX3_canGo (by decide +kernel)) rfl
theorem dX3_canGo_83 : decode cX3_canGo 83 = .ok (.iload_n 2, 1) := dk_28 (dkn dmcX3_canGo (by decide +kernel))
theorem dX3_canGo_84 : decode cX3_canGo 84 = .ok (.iaload, 1) := dk_46 (dkn dmcX3_canGo (by decide +kernel))
theorem dX3_canGo_85 : decode cX3_canGo 85 = .ok (.bipush 12, 2) := dk_16 (a := 12) (dkn dmcX3_canGo (by decide +kernel)) rfl
theorem dX3_canGo_87 : decode cX3_canGo 87 = .ok (.if_icmp .eq 5, 3) := dk_159 (a := 0) (b := 5) (dkn dmcX3_canGo (by decide +kernel)) rfl
theorem dX3_canGo_90 : decode cX3_canGo 90 = .ok (.iconst 1, 1) := dk_4 (dkn dmcX3_canGo (by decide +kernel))
theorem dX3_canGo_91 : decode cX3_canGo 91 = .ok (.ireturn, 1) := dk_172 (dkn dmcX3_canGo (by decide +kernel))
theorem dX3_canGo_92 : decode cX3_canGo 92 = .ok (.aload_n 0, 1) := dk_42 (dkn dmcX3_canGo (by decide +kernel))
theorem dX3_canGo_93 : decode cX3_canGo 93 = .ok (.iload_n 1, 1) := dk_27 (dkn dmcX3_canGo (by decide +kernel))
theorem dX3_canGo_94 : decode cX3_canGo 94 = .ok (.aload_n 0, 1) := dk_42 (dkn dmcX3_canGo (by decide +kernel))
theorem dX3_canGo_95 : decode cX3_canGo 95 = .ok (.getfield 39, 3) := dk_180 (a := 0) (b := 39) (dkn dmcX3_canGo (by decide +kernel)) rfl
theorem dX3_canGo_98 : decode cX3_canGo 98 = .ok (.getfield 82, 3) := dk_180 (a := 0) (b := 82) (dkn dmcX3_canGo (by decide +kernel)) rfl
theorem dX3_canGo_101 : decode cX3_canGo 101 = .ok (.iload_n 2, 1) := dk_28 (dkn dmcX3_canGo (by decide +kernel))
theorem dX3_canGo_102 : decode cX3_canGo 102 = .ok (.iconst 1, 1) := dk_4 (dkn dmcX3_canGo (by decide +kernel))
theorem dX3_canGo_103 : decode cX3_canGo 103 = .ok (.iadd, 1) := dk_96 (dkn dmcX3_canGo (by decide +kernel))
theorem dX3_canGo_104 : decode cX3_canGo 104 = .ok (.iaload, 1) := dk_46 (dkn dmcX3_canGo (by decide +kernel))
theorem dX3_canGo_105 : decode cX3_canGo 105 = .ok (.invokestatic 85, 3) := dk_184 (a := 0) (b := 85) (dkn dmcX3_canGo (by decide +kernel)) rfl
theorem dX3_canGo_108 : decode cX3_canGo 108 = .ok (.invokevirtual 88, 3) := dk_182 (a := 0) (b := 88) (dkn dmcX3_canGo (by decide +kernel)) rfl
theorem dX3_canGo_111 : decode cX3_canGo 111 = .ok (.istore_n 3, 1) := dk_62 (dkn dmcX3_canGo (by decide +kernel))
theorem dX3_canGo_112 : decode cX3_canGo 112 = .ok (.iload_n 3, 1) := dk_29 (dkn dmcX3_canGo (by decide +kernel))
theorem dX3_canGo_113 : decode cX3_canGo 113 = .ok (.ifCond .lt 24, 3) := dk_155 (a := 0) (b := 24) (dkn dmcX3_canGo (by decide +kernel)) rfl
theorem dX3_canGo_116 : decode cX3_canGo 116 = .ok (.aload_n 0, 1) := dk_42 (dkn dmcX3_canGo (by decide +kernel))
theorem dX3_canGo_117 : decode cX3_canGo 117 = .ok (.getfield 33, 3) := dk_180 (a := 0) (b := 33) (dkn dmcX3_canGo (by decide +kernel)) rfl
theorem dX3_canGo_120 : decode cX3_canGo 120 = .ok (.iload_n 3, 1) := dk_29 (dkn dmcX3_canGo (by decide +kernel))
theorem dX3_canGo_121 : decode cX3_canGo 121 = .ok (.iaload, 1) := dk_46 (dkn dmcX3_canGo (by decide +kernel))
theorem dX3_canGo_122 : decode cX3_canGo 122 = .ok (.bipush (-2), 2) := dk_16 (a := 254) (dkn dmcX3_canGo (by decide +kernel)) rfl
theorem dX3_canGo_124 : decode cX3_canGo 124 = .ok (.if_icmp .eq 13, 3) := dk_159 (a := 0) (b := 13) (dkn dmcX3_canGo (by decide +kernel)) rfl
theorem dX3_canGo_127 : decode cX3_canGo 127 = .ok (.aload_n 0, 1) := dk_42 (dkn dmcX3_canGo (by decide +kernel))
theorem dX3_canGo_128 : decode cX3_canGo 128 = .ok (.getfield 33, 3) := dk_180 (a := 0) (b := 33) (dkn dmcX3_canGo (by decide +kernel)) rfl
theorem dX3_canGo_131 : decode cX3_canGo 131 = .ok (.iload_n 3, 1) := dk_29 (dkn dmcX3_canGo (by decide +kernel))
theorem dX3_canGo_132 : decode cX3_canGo 132 = .ok (.iaload, 1) := dk_46 (dkn dmcX3_canGo (by decide +kernel))
theorem dX3_canGo_133 : decode cX3_canGo 133 = .ok (.iload_n 1, 1) := dk_27 (dkn dmcX3_canGo (by decide +kernel))
theorem dX3_canGo_134 : decode cX3_canGo 134 = .ok (.if_icmp .ne 7, 3) := dk_160 (a := 0) (b := 7) (dkn dmcX3_canGo (by decide +kernel)) rfl
theorem dX3_canGo_137 : decode cX3_canGo 137 = .ok (.iconst 1, 1) := dk_4 (dkn dmcX3_canGo (by decide +kernel))
theorem dX3_canGo_138 : decode cX3_canGo 138 = .ok (.goto 4, 3) := dk_167 (a := 0) (b := 4) (dkn dmcX3_canGo (by decide +kernel)) rfl
theorem dX3_canGo_141 : decode cX3_canGo 141 = .ok (.iconst 0, 1) := dk_3 (dkn dmcX3_canGo (by decide +kernel))
theorem dX3_canGo_142 : decode cX3_canGo 142 = .ok (.ireturn, 1) := dk_172 (dkn dmcX3_canGo (by decide +kernel))
def dncX3_whoGoes : Nat := 0xac02eeffa7010284ac1c0500995c00b61c2a1300a2071c3d03ac1b0500995c00b61b2a0d00a2071b12009b1b
theorem dmcX3_whoGoes : dkc dncX3_whoGoes 44 cX3_whoGoes.data.toList 0 = true := by decide +kernel
theorem dX3_whoGoes_0 : decode cX3_whoGoes 0 = .ok (.iload_n 1, 1) := dk_27 (dkn dmcX3_whoGoes (by decide +kernel))
theorem dX3_whoGoes_1 : decode cX3_whoGoes 1 = .ok (.ifCond .lt 18, 3) := dk_155 (a := 0) (b := 18) (dkn dmcX3_whoGoes (by decide +kernel)) rfl
theorem dX3_whoGoes_4 : decode cX3_whoGoes 4 = .ok (.iload_n 1, 1) := dk_27 (dkn dmcX3_whoGoes (by decide +kernel))
theorem dX3_whoGoes_5 : decode cX3_whoGoes 5 = .ok (.iconst 4, 1) := dk_7 (dkn dmcX3_whoGoes (by decide +kernel))
theorem dX3_whoGoes_6 : decode cX3_whoGoes 6 = .ok (.if_icmp .ge 13, 3) := dk_162 (a := 0) (b := 13) (dkn dmcX3_whoGoes (by decide +kernel)) rfl
theorem dX3_whoGoes_9 : decode cX3_whoGoes 9 = .ok (.aload_n 0, 1) := dk_42 (dkn dmcX3_whoGoes (by decide +kernel))
theorem dX3_whoGoes_10 : decode cX3_whoGoes 10 = .ok (.iload_n 1, 1) := dk_27 (dkn dmcX3_whoGoes (by decide +kernel))
theorem dX3_whoGoes_11 : decode cX3_whoGoes 11 = .ok (.invokevirtual 92, 3) := dk_182 (a := 0) (b := 92) (dkn dmcX3_whoGoes (by decide +kernel)) rfl
theorem dX3_whoGoes_14 : decode cX3_whoGoes 14 = .ok (.ifCond .eq 5, 3) := dk_153 (a := 0) (b := 5) (dkn dmcX3_whoGoes (by decide +kernel)) rfl
theorem dX3_whoGoes_17 : decode cX3_whoGoes 17 = .ok (.iload_n 1, 1) := dk_27 (dkn dmcX3_whoGoes (by decide +kernel))
theorem dX3_whoGoes_18 : decode cX3_whoGoes 18 = .ok (.ireturn, 1) := dk_172 (dkn dmcX3_whoGoes (by decide +kernel))
theorem dX3_whoGoes_19 : decode cX3_whoGoes 19 = .ok (.iconst 0, 1) := dk_3 (dkn dmcX3_whoGoes (by decide +kernel))
theorem dX3_whoGoes_20 : decode cX3_whoGoes 20 = .ok (.istore_n 2, 1) := dk_61 (dkn dmcX3_whoGoes (by decide +kernel))
theorem dX3_whoGoes_21 : decode cX3_whoGoes 21 = .ok (.iload_n 2, 1) := dk_28 (dkn dmcX3_whoGoes (by decide +kernel))
theorem dX3_whoGoes_22 : decode cX3_whoGoes 22 = .ok (.iconst 4, 1) := dk_7 (dkn dmcX3_whoGoes (by decide +kernel))
theorem dX3_whoGoes_23 : decode cX3_whoGoes 23 = .ok (.if_icmp .ge 19, 3) := dk_162 (a := 0) (b := 19) (dkn dmcX3_whoGoes (by decide +kernel)) rfl
theorem dX3_whoGoes_26 : decode cX3_whoGoes 26 = .ok (.aload_n 0, 1) := dk_42 (dkn dmcX3_whoGoes (by decide +kernel))
theorem dX3_whoGoes_27 : decode cX3_whoGoes 27 = .ok (.iload_n 2, 1) := dk_28 (dkn dmcX3_whoGoes (by decide +kernel))
theorem dX3_whoGoes_28 : decode cX3_whoGoes 28 = .ok (.invokevirtual 92, 3) := dk_182 (a := 0) (b := 92) (dkn dmcX3_whoGoes (by decide +kernel)) rfl
theorem dX3_whoGoes_31 : decode cX3_whoGoes 31 = .ok (.ifCond .eq 5, 3) := dk_153 (a := 0) (b := 5) (dkn dmcX3_whoGoes (by decide +kernel)) rfl
theorem dX3_whoGoes_34 : decode cX3_whoGoes 34 = .ok (.iload_n 2, 1) := dk_28 (dkn dmcX3_whoGoes (by decide +kernel))
theorem dX3_whoGoes_35 : decode cX3_whoGoes 35 = .ok (.ireturn, 1) := dk_172 (dkn dmcX3_whoGoes (by decide +kernel))
theorem dX3_whoGoes_36 : decode cX3_whoGoes 36 = .ok (.iinc 2 1, 3) := dk_132 (b := 1) (dkn dmcX3_whoGoes (by decide +kernel)) rfl
theorem dX3_whoGoes_39 : decode cX3_whoGoes 39 = .ok (.goto (-18), 3) := dk_167 (a := 255) (b := 238) (dkn dmcX3_whoGoes (by decide +kernel)) rfl
theorem dX3_whoGoes_42 : decode cX3_whoGoes 42 = .ok (.iconst (-1), 1) := dk_2 (dkn dmcX3_whoGoes (by decide +kernel))
theorem dX3_whoGoes_43 : decode cX3_whoGoes 43 = .ok (.ireturn, 1) := dk_172 (dkn dmcX3_whoGoes (by decide +kernel))
def dncX3_rivalsOf : Nat := 0xac1ce5ffa70103843d80781d041c0900995c00b61d2a11009f1b1d1c00a2071d3e033d03
theorem dmcX3_rivalsOf : dkc dncX3_rivalsOf 36 cX3_rivalsOf.data.toList 0 = true := by decide +kernel
theorem dX3_rivalsOf_0 : decode cX3_rivalsOf 0 = .ok (.iconst 0, 1) := dk_3 (dkn dmcX3_rivalsOf (by decide +kernel))
theorem dX3_rivalsOf_1 : decode cX3_rivalsOf 1 = .ok (.istore_n 2, 1) := dk_61 (dkn dmcX3_rivalsOf (by decide +kernel))
theorem dX3_rivalsOf_2 : decode cX3_rivalsOf 2 = .ok (.iconst 0, 1) := dk_3 (dkn dmcX3_rivalsOf (by decide +kernel))
theorem dX3_rivalsOf_3 : decode cX3_rivalsOf 3 = .ok (.istore_n 3, 1) := dk_62 (dkn dmcX3_rivalsOf (by decide +kernel))
theorem dX3_rivalsOf_4 : decode cX3_rivalsOf 4 = .ok (.iload_n 3, 1) := dk_29 (dkn dmcX3_rivalsOf (by decide +kernel))
theorem dX3_rivalsOf_5 : decode cX3_rivalsOf 5 = .ok (.iconst 4, 1) := dk_7 (dkn dmcX3_rivalsOf (by decide +kernel))
theorem dX3_rivalsOf_6 : decode cX3_rivalsOf 6 = .ok (.if_icmp .ge 28, 3) := dk_162 (a := 0) (b := 28) (dkn dmcX3_rivalsOf (by decide +kernel)) rfl
theorem dX3_rivalsOf_9 : decode cX3_rivalsOf 9 = .ok (.iload_n 3, 1) := dk_29 (dkn dmcX3_rivalsOf (by decide +kernel))
theorem dX3_rivalsOf_10 : decode cX3_rivalsOf 10 = .ok (.iload_n 1, 1) := dk_27 (dkn dmcX3_rivalsOf (by decide +kernel))
theorem dX3_rivalsOf_11 : decode cX3_rivalsOf 11 = .ok (.if_icmp .eq 17, 3) := dk_159 (a := 0) (b := 17) (dkn dmcX3_rivalsOf (by decide +kernel)) rfl
theorem dX3_rivalsOf_14 : decode cX3_rivalsOf 14 = .ok (.aload_n 0, 1) := dk_42 (dkn dmcX3_rivalsOf (by decide +kernel))
theorem dX3_rivalsOf_15 : decode cX3_rivalsOf 15 = .ok (.iload_n 3, 1) := dk_29 (dkn dmcX3_rivalsOf (by decide +kernel))
theorem dX3_rivalsOf_16 : decode cX3_rivalsOf 16 = .ok (.invokevirtual 92, 3) := dk_182 (a := 0) (b := 92) (dkn dmcX3_rivalsOf (by decide +kernel)) rfl
theorem dX3_rivalsOf_19 : decode cX3_rivalsOf 19 = .ok (.ifCond .eq 9, 3) := dk_153 (a := 0) (b := 9) (dkn dmcX3_rivalsOf (by decide +kernel)) rfl
theorem dX3_rivalsOf_22 : decode cX3_rivalsOf 22 = .ok (.iload_n 2, 1) := dk_28 (dkn dmcX3_rivalsOf (by decide +kernel))
theorem dX3_rivalsOf_23 : decode cX3_rivalsOf 23 = .ok (.iconst 1, 1) := dk_4 (dkn dmcX3_rivalsOf (by decide +kernel))
theorem dX3_rivalsOf_24 : decode cX3_rivalsOf 24 = .ok (.iload_n 3, 1) := dk_29 (dkn dmcX3_rivalsOf (by decide +kernel))
theorem dX3_rivalsOf_25 : decode cX3_rivalsOf 25 = .ok (.ishl, 1) := by decide +kernel
theorem dX3_rivalsOf_26 : decode cX3_rivalsOf 26 = .ok (.ior, 1) := by decide +kernel
theorem dX3_rivalsOf_27 : decode cX3_rivalsOf 27 = .ok (.istore_n 2, 1) := dk_61 (dkn dmcX3_rivalsOf (by decide +kernel))
theorem dX3_rivalsOf_28 : decode cX3_rivalsOf 28 = .ok (.iinc 3 1, 3) := dk_132 (b := 1) (dkn dmcX3_rivalsOf (by decide +kernel)) rfl
theorem dX3_rivalsOf_31 : decode cX3_rivalsOf 31 = .ok (.goto (-27), 3) := dk_167 (a := 255) (b := 229) (dkn dmcX3_rivalsOf (by decide +kernel)) rfl
theorem dX3_rivalsOf_34 : decode cX3_rivalsOf 34 = .ok (.iload_n 2, 1) := dk_28 (dkn dmcX3_rivalsOf (by decide +kernel))
theorem dX3_rivalsOf_35 : decode cX3_rivalsOf 35 = .ok (.ireturn, 1) := dk_172 (dkn dmcX3_rivalsOf (by decide +kernel))
def dncX3_allStartedHaveEnded : Nat := 0xac04e5ffa7010184ac0305009a4a00b61b2a0d00992e1b1500b42a1c00a2071b3c03
theorem dmcX3_allStartedHaveEnded : dkc dncX3_allStartedHaveEnded 34 cX3_allStartedHaveEnded.data.toList 0 = true := by decide +kernel
theorem dX3_allStartedHaveEnded_0 : decode cX3_allStartedHaveEnded 0 = .ok (.iconst 0, 1) := dk_3 (dkn dmcX3_allStartedHaveEnded (by decide +kernel))
theorem dX3_allStartedHaveEnded_1 : decode cX3_allStartedHaveEnded 1 = .ok (.istore_n 1, 1) := dk_60 (dkn dmcX3_allStartedHaveEnded (by decide +kernel))
theorem dX3_allStartedHaveEnded_2 : decode cX3_allStartedHaveEnded 2 = .ok (.iload_n 1, 1) := dk_27 (dkn dmcX3_allStartedHaveEnded (by decide +kernel))
theorem dX3_allStartedHaveEnded_3 : decode cX3_allStartedHaveEnded 3 = .ok (.iconst 4, 1) := dk_7 (dkn dmcX3_allStartedHaveEnded (by decide +kernel))
theorem dX3_allStartedHaveEnded_4 : decode cX3_allStartedHaveEnded 4 = .ok (.if_icmp .ge 28, 3) := dk_162 (a := 0) (b := 28) (dkn dmcX3_allStartedHaveEnded (by decide +kernel)) rfl
theorem dX3_allStartedHaveEnded_7 : decode cX3_allStartedHaveEnded 7 = .ok (.aload_n 0, 1) := dk_42 (dkn dmcX3_allStartedHaveEnded (by decide +kernel))
theorem dX3_allStartedHaveEnded_8 : decode cX3_allStartedHaveEnded 8 = .ok (.getfield 21, 3) := dk_180 (a := 0) (b := 21) (dkn dmcX3_allStartedHaveEnded (by decide +kernel)) rfl
theorem dX3_allStartedHaveEnded_11 : decode cX3_allStartedHaveEnded 11 = .ok (.iload_n 1, 1) := dk_27 (dkn dmcX3_allStartedHaveEnded (by decide +kernel))
theorem dX3_allStartedHaveEnded_12 : decode cX3_allStartedHaveEnded 12 = .ok (.iaload, 1) := dk_46 (dkn dmcX3_allStartedHaveEnded (by decide +kernel))
theorem dX3_allStartedHaveEnded_13 : decode cX3_allStartedHaveEnded 13 = .ok (.ifCond .eq 13, 3) := dk_153 (a := 0) (b := 13) (dkn dmcX3_allStartedHaveEnded (by decide +kernel)) rfl
theorem dX3_allStartedHaveEnded_16 : decode cX3_allStartedHaveEnded 16 = .ok (.aload_n 0, 1) := dk_42 (dkn dmcX3_allStartedHaveEnded (by decide +kernel))
theorem dX3_allStartedHaveEnded_17 : decode cX3_allStartedHaveEnded 17 = .ok (.iload_n 1, 1) := dk_27 (dkn dmcX3_allStartedHaveEnded (by decide +kernel))
theorem dX3_allStartedHaveEnded_18 : decode cX3_allStartedHaveEnded 18 = .ok (.invokevirtual 74, 3) := dk_182 (a := 0) (b := 74) (dkn dmcX3_allStartedHaveEnded (by decide +kernel)) rfl
theorem dX3_allStartedHaveEnded_21 : decode cX3_allStartedHaveEnded 21 = .ok (.ifCond .ne 5, 3) := dk_154 (a := 0) (b := 5) (dkn dmcX3_allStartedHaveEnded (by decide +kernel)) rfl
theorem dX3_allStartedHaveEnded_24 : decode cX3_allStartedHaveEnded 24 = .ok (.iconst 0, 1) := dk_3 (dkn dmcX3_allStartedHaveEnded (by decide +kernel))
theorem dX3_allStartedHaveEnded_25 : decode cX3_allStartedHaveEnded 25 = .ok (.ireturn, 1) := dk_172 (dkn dmcX3_allStartedHaveEnded (by decide +kernel))
theorem dX3_allStartedHaveEnded_26 : decode cX3_allStartedHaveEnded 26 = .ok (.iinc 1 1, 3) := dk_132 (b := 1) (dkn dmcX3_allStartedHaveEnded (by decide +kernel)) rfl
theorem dX3_allStartedHaveEnded_29 : decode cX3_allStartedHaveEnded 29 = .ok (.goto (-27), 3) := dk_167 (a := 255) (b := 229) (dkn dmcX3_allStartedHaveEnded (by decide +kernel)) rfl
theorem dX3_allStartedHaveEnded_32 : decode cX3_allStartedHaveEnded 32 = .ok (.iconst 1, 1) := dk_4 (dkn dmcX3_allStartedHaveEnded (by decide +kernel))
theorem dX3_allStartedHaveEnded_33 : decode cX3_allStartedHaveEnded 33 = .ok (.ireturn, 1) := dk_172 (dkn dmcX3_allStartedHaveEnded (by decide +kernel))
def dncX3_standing : Nat := 0xac050400a7040700995c00b61b2aac070500994a00b61b2aac060500a0052e1b1500b42aac0305009a2e1b1500b42a
theorem dmcX3_standing : dkc dncX3_standing 47 cX3_standing.data.toList 0 = true := by decide +kernel
theorem dX3_standing_0 : decode cX3_standing 0 = .ok (.aload_n 0, 1) := dk_42 (dkn dmcX3_standing (by decide +kernel))
theorem dX3_standing_1 : decode cX3_standing 1 = .ok (.getfield 21, 3) := dk_180 (a := 0) (b := 21) (dkn dmcX3_standing (by decide +kernel)) rfl
theorem dX3_standing_4 : decode cX3_standing 4 = .ok (.iload_n 1, 1) := dk_27 (dkn dmcX3_standing (by decide +kernel))
theorem dX3_standing_5 : decode cX3_standing 5 = .ok (.iaload, 1) := dk_46 (dkn dmcX3_standing (by decide +kernel))
theorem dX3_standing_6 : decode cX3_standing 6 = .ok (.ifCond .ne 5, 3) := dk_154 (a := 0) (b := 5) (dkn dmcX3_standing (by decide +kernel)) rfl
theorem dX3_standing_9 : decode cX3_standing 9 = .ok (.iconst 0, 1) := dk_3 (dkn dmcX3_standing (by decide +kernel))
theorem dX3_standing_10 : decode cX3_standing 10 = .ok (.ireturn, 1) := dk_172 (dkn dmcX3_standing (by decide +kernel))
theorem dX3_standing_11 : decode cX3_standing 11 = .ok (.aload_n 0, 1) := dk_42 (dkn dmcX3_standing (by decide +kernel))
theorem dX3_standing_12 : decode cX3_standing 12 = .ok (.getfield 21, 3) := dk_180 (a := 0) (b := 21) (dkn dmcX3_standing (by decide +kernel)) rfl
theorem dX3_standing_15 : decode cX3_standing 15 = .ok (.iload_n 1, 1) := dk_27 (dkn dmcX3_standing (by decide +kernel))
theorem dX3_standing_16 : decode cX3_standing 16 = .ok (.iaload, 1) := dk_46 (dkn dmcX3_standing (by decide +kernel))
theorem dX3_standing_17 : decode cX3_standing 17 = .ok (.iconst 2, 1) := dk_5 (dkn dmcX3_standing (by decide +kernel))
theorem dX3_standing_18 : decode cX3_standing 18 = .ok (.if_icmp .ne 5, 3) := dk_160 (a := 0) (b := 5) (dkn dmcX3_standing (by decide +kernel)) rfl
theorem dX3_standing_21 : decode cX3_standing 21 = .ok (.iconst 3, 1) := dk_6 (dkn dmcX3_standing (by decide +kernel))
theorem dX3_standing_22 : decode cX3_standing 22 = .ok (.ireturn, 1) := dk_172 (dkn dmcX3_standing (by decide +kernel))
theorem dX3_standing_23 : decode cX3_standing 23 = .ok (.aload_n 0, 1) := dk_42 (dkn dmcX3_standing (by decide +kernel))
theorem dX3_standing_24 : decode cX3_standing 24 = .ok (.iload_n 1, 1) := dk_27 (dkn dmcX3_standing (by decide +kernel))
theorem dX3_standing_25 : decode cX3_standing 25 = .ok (.invokevirtual 74, 3) := dk_182 (a := 0) (b := 74) (dkn dmcX3_standing (by decide +kernel)) rfl
theorem dX3_standing_28 : decode cX3_standing 28 = .ok (.ifCond .eq 5, 3) := dk_153 (a := 0) (b := 5) (dkn dmcX3_standing (by decide +kernel)) rfl
theorem dX3_standing_31 : decode cX3_standing 31 = .ok (.iconst 4, 1) := dk_7 (dkn dmcX3_standing (by decide +kernel))
theorem dX3_standing_32 : decode cX3_standing 32 = .ok (.ireturn, 1) := dk_172 (dkn dmcX3_standing (by decide +kernel))
theorem dX3_standing_33 : decode cX3_standing 33 = .ok (.aload_n 0, 1) := dk_42 (dkn dmcX3_standing (by decide +kernel))
theorem dX3_standing_34 : decode cX3_standing 34 = .ok (.iload_n 1, 1) := dk_27 (dkn dmcX3_standing (by decide +kernel))
theorem dX3_standing_35 : decode cX3_standing 35 = .ok (.invokevirtual 92, 3) := dk_182 (a := 0) (b := 92) (dkn dmcX3_standing (by decide +kernel)) rfl
theorem dX3_standing_38 : decode cX3_standing 38 = .ok (.ifCond .eq 7, 3) := dk_153 (a := 0) (b := 7) (dkn dmcX3_standing (by decide +kernel)) rfl
theorem dX3_standing_41 : decode cX3_standing 41 = .ok (.iconst 1, 1) := dk_4 (dkn dmcX3_standing (by decide +kernel))
theorem dX3_standing_42 : decode cX3_standing 42 = .ok (.goto 4, 3) := dk_167 (a := 0) (b := 4) (dkn dmcX3_standing (by decide +kernel)) rfl
theorem dX3_standing_45 : decode cX3_standing 45 = .ok (.iconst 2, 1) := dk_5 (dkn dmcX3_standing (by decide +kernel))
theorem dX3_standing_46 : decode cX3_standing 46 = .ok (.ireturn, 1) := dk_172 (dkn dmcX3_standing (by decide +kernel))
theorem dX3_hasThing_0 : decode cX3_hasThing 0 = .ok (.iload_n 1, 1) := dk_27 (by decide +kernel)
theorem dX3_hasThing_1 : decode cX3_hasThing 1 = .ok (.ifCond .lt 15, 3) := dk_155 (a := 0) (b := 15) (by decide +kernel) rfl
theorem dX3_hasThing_4 : decode cX3_hasThing 4 = .ok (.iload_n 1, 1) := dk_27 (by decide +kernel)
theorem dX3_hasThing_5 : decode cX3_hasThing 5 = .ok (.aload_n 0, 1) := dk_42 (by decide +kernel)
theorem dX3_hasThing_6 : decode cX3_hasThing 6 = .ok (.getfield 60, 3) := dk_180 (a := 0) (b := 60) (by decide +kernel) rfl
theorem dX3_hasThing_9 : decode cX3_hasThing 9 = .ok (.if_icmp .ge 7, 3) := dk_162 (a := 0) (b := 7) (by decide +kernel) rfl
theorem dX3_hasThing_12 : decode cX3_hasThing 12 = .ok (.iconst 1, 1) := dk_4 (by decide +kernel)
theorem dX3_hasThing_13 : decode cX3_hasThing 13 = .ok (.goto 4, 3) := dk_167 (a := 0) (b := 4) (by decide +kernel) rfl
theorem dX3_hasThing_16 : decode cX3_hasThing 16 = .ok (.iconst 0, 1) := dk_3 (by decide +kernel)
theorem dX3_hasThing_17 : decode cX3_hasThing 17 = .ok (.ireturn, 1) := dk_172 (by decide +kernel)
def dncX3_hasRowPlace : Nat := 0xac030400a7040700a22e1b1e00b42a1c11009b1c1500a0042e1b1b00b42a1f00a23c00b42a1b27009b1b
theorem dmcX3_hasRowPlace : dkc dncX3_hasRowPlace 42 cX3_hasRowPlace.data.toList 0 = true := by decide +kernel
theorem dX3_hasRowPlace_0 : decode cX3_hasRowPlace 0 = .ok (.iload_n 1, 1) := dk_27 (dkn dmcX3_hasRowPlace (by decide +kernel))
theorem dX3_hasRowPlace_1 : decode cX3_hasRowPlace 1 = .ok (.ifCond .lt 39, 3) := dk_155 (a := 0) (b := 39) (dkn dmcX3_hasRowPlace (by decide +kernel)) rfl
theorem dX3_hasRowPlace_4 : decode cX3_hasRowPlace 4 = .ok (.iload_n 1, 1) := dk_27 (dkn dmcX3_hasRowPlace (by decide +kernel))
theorem dX3_hasRowPlace_5 : decode cX3_hasRowPlace 5 = .ok (.aload_n 0, 1) := dk_42 (dkn dmcX3_hasRowPlace (by decide +kernel))
theorem dX3_hasRowPlace_6 : decode cX3_hasRowPlace 6 = .ok (.getfield 60, 3) := dk_180 (a := 0) (b := 60) (dkn dmcX3_hasRowPlace (by decide +kernel)) rfl
theorem dX3_hasRowPlace_9 : decode cX3_hasRowPlace 9 = .ok (.if_icmp .ge 31, 3) := dk_162 (a := 0) (b := 31) (dkn dmcX3_hasRowPlace (by decide +kernel)) rfl
theorem dX3_hasRowPlace_12 : decode cX3_hasRowPlace 12 = .ok (.aload_n 0, 1) := dk_42 (dkn dmcX3_hasRowPlace (by decide +kernel))
theorem dX3_hasRowPlace_13 : decode cX3_hasRowPlace 13 = .ok (.getfield 27, 3) := dk_180 (a := 0) (b := 27) (dkn dmcX3_hasRowPlace (by decide +kernel)) rfl
theorem dX3_hasRowPlace_16 : decode cX3_hasRowPlace 16 = .ok (.iload_n 1, 1) := dk_27 (dkn dmcX3_hasRowPlace (by decide +kernel))
theorem dX3_hasRowPlace_17 : decode cX3_hasRowPlace 17 = .ok (.iaload, 1) := dk_46 (dkn dmcX3_hasRowPlace (by decide +kernel))
theorem dX3_hasRowPlace_18 : decode cX3_hasRowPlace 18 = .ok (.iconst 1, 1) := dk_4 (dkn dmcX3_hasRowPlace (by decide +kernel))
theorem dX3_hasRowPlace_19 : decode cX3_hasRowPlace 19 = .ok (.if_icmp .ne 21, 3) := dk_160 (a := 0) (b := 21) (dkn dmcX3_hasRowPlace (by decide +kernel)) rfl
theorem dX3_hasRowPlace_22 : decode cX3_hasRowPlace 22 = .ok (.iload_n 2, 1) := dk_28 (dkn dmcX3_hasRowPlace (by decide +kernel))
theorem dX3_hasRowPlace_23 : decode cX3_hasRowPlace 23 = .ok (.ifCond .lt 17, 3) := dk_155 (a := 0) (b := 17) (dkn dmcX3_hasRowPlace (by decide +kernel)) rfl
theorem dX3_hasRowPlace_26 : decode cX3_hasRowPlace 26 = .ok (.iload_n 2, 1) := dk_28 (dkn dmcX3_hasRowPlace (by decide +kernel))
theorem dX3_hasRowPlace_27 : decode cX3_hasRowPlace 27 = .ok (.aload_n 0, 1) := dk_42 (dkn dmcX3_hasRowPlace (by decide +kernel))
theorem dX3_hasRowPlace_28 : decode cX3_hasRowPlace 28 = .ok (.getfield 30, 3) := dk_180 (a := 0) (b := 30) (dkn dmcX3_hasRowPlace (by decide +kernel)) rfl
theorem dX3_hasRowPlace_31 : decode cX3_hasRowPlace 31 = .ok (.iload_n 1, 1) := dk_27 (dkn dmcX3_hasRowPlace (by decide +kernel))
theorem dX3_hasRowPlace_32 : decode cX3_hasRowPlace 32 = .ok (.iaload, 1) := dk_46 (dkn dmcX3_hasRowPlace (by decide +kernel))
theorem dX3_hasRowPlace_33 : decode cX3_hasRowPlace 33 = .ok (.if_icmp .ge 7, 3) := dk_162 (a := 0) (b := 7) (dkn dmcX3_hasRowPlace (by decide +kernel)) rfl
theorem dX3_hasRowPlace_36 : decode cX3_hasRowPlace 36 = .ok (.iconst 1, 1) := dk_4 (dkn dmcX3_hasRowPlace (by decide +kernel))
theorem dX3_hasRowPlace_37 : decode cX3_hasRowPlace 37 = .ok (.goto 4, 3) := dk_167 (a := 0) (b := 4) (dkn dmcX3_hasRowPlace (by decide +kernel)) rfl
theorem dX3_hasRowPlace_40 : decode cX3_hasRowPlace 40 = .ok (.iconst 0, 1) := dk_3 (dkn dmcX3_hasRowPlace (by decide +kernel))
theorem dX3_hasRowPlace_41 : decode cX3_hasRowPlace 41 = .ok (.ireturn, 1) := dk_172 (dkn dmcX3_hasRowPlace (by decide +kernel))
def dncX3_differences : Nat := 0xac1ce8ffa701038401028406009f6f00b61d2b6f00b61d2a1900a2071d3e03d6ffa701038401028406009f2e1d0f00b42b2e1d0f00b42a1200a02e1d0900b42b2e1d0900b42a2a00a21c101d3e033d03
theorem dmcX3_differences : dkc dncX3_differences 80 cX3_differences.data.toList 0 = true := by decide +kernel
theorem dX3_differences_0 : decode cX3_differences 0 = .ok (.iconst 0, 1) := dk_3 (dkn dmcX3_differences (by decide +kernel))
theorem dX3_differences_1 : decode cX3_differences 1 = .ok (.istore_n 2, 1) := dk_61 (dkn dmcX3_differences (by decide +kernel))
theorem dX3_differences_2 : decode cX3_differences 2 = .ok (.iconst 0, 1) := dk_3 (dkn dmcX3_differences (by decide +kernel))
theorem dX3_differences_3 : decode cX3_differences 3 = .ok (.istore_n 3, 1) := dk_62 (dkn dmcX3_differences (by decide +kernel))
theorem dX3_differences_4 : decode cX3_differences 4 = .ok (.iload_n 3, 1) := dk_29 (dkn dmcX3_differences (by decide +kernel))
theorem dX3_differences_5 : decode cX3_differences 5 = .ok (.bipush 28, 2) := dk_16 (a := 28) (dkn dmcX3_differences (by decide +kernel)) rfl
theorem dX3_differences_7 : decode cX3_differences 7 = .ok (.if_icmp .ge 42, 3) := dk_162 (a := 0) (b := 42) (dkn dmcX3_differences (by decide +kernel)) rfl
theorem dX3_differences_10 : decode cX3_differences 10 = .ok (.aload_n 0, 1) := dk_42 (dkn dmcX3_differences (by decide +kernel))
theorem dX3_differences_11 : decode cX3_differences 11 = .ok (.getfield 9, 3) := dk_180 (a := 0) (b := 9) (dkn dmcX3_differences (by decide +kernel)) rfl
theorem dX3_differences_14 : decode cX3_differences 14 = .ok (.iload_n 3, 1) := dk_29 (dkn dmcX3_differences (by decide +kernel))
theorem dX3_differences_15 : decode cX3_differences 15 = .ok (.iaload, 1) := dk_46 (dkn dmcX3_differences (by decide +kernel))
theorem dX3_differences_16 : decode cX3_differences 16 = .ok (.aload_n 1, 1) := dk_43 (dkn dmcX3_differences (by decide +kernel))
theorem dX3_differences_17 : decode cX3_differences 17 = .ok (.getfield 9, 3) := dk_180 (a := 0) (b := 9) (dkn dmcX3_differences (by decide +kernel)) rfl
theorem dX3_differences_20 : decode cX3_differences 20 = .ok (.iload_n 3, 1) := dk_29 (dkn dmcX3_differences (by decide +kernel))
theorem dX3_differences_21 : decode cX3_differences 21 = .ok (.iaload, 1) := dk_46 (dkn dmcX3_differences (by decide +kernel))
theorem dX3_differences_22 : decode cX3_differences 22 = .ok (.if_icmp .ne 18, 3) := dk_160 (a := 0) (b := 18) (dkn dmcX3_differences (by decide +kernel)) rfl
theorem dX3_differences_25 : decode cX3_differences 25 = .ok (.aload_n 0, 1) := dk_42 (dkn dmcX3_differences (by decide +kernel))
theorem dX3_differences_26 : decode cX3_differences 26 = .ok (.getfield 15, 3) := dk_180 (a := 0) (b := 15) (dkn dmcX3_differences (by decide +kernel)) rfl
theorem dX3_differences_29 : decode cX3_differences 29 = .ok (.iload_n 3, 1) := dk_29 (dkn dmcX3_differences (by decide +kernel))
theorem dX3_differences_30 : decode cX3_differences 30 = .ok (.iaload, 1) := dk_46 (dkn dmcX3_differences (by decide +kernel))
theorem dX3_differences_31 : decode cX3_differences 31 = .ok (.aload_n 1, 1) := dk_43 (dkn dmcX3_differences (by decide +kernel))
theorem dX3_differences_32 : decode cX3_differences 32 = .ok (.getfield 15, 3) := dk_180 (a := 0) (b := 15) (dkn dmcX3_differences (by decide +kernel)) rfl
theorem dX3_differences_35 : decode cX3_differences 35 = .ok (.iload_n 3, 1) := dk_29 (dkn dmcX3_differences (by decide +kernel))
theorem dX3_differences_36 : decode cX3_differences 36 = .ok (.iaload, 1) := dk_46 (dkn dmcX3_differences (by decide +kernel))
theorem dX3_differences_37 : decode cX3_differences 37 = .ok (.if_icmp .eq 6, 3) := dk_159 (a := 0) (b := 6) (dkn dmcX3_differences (by decide +kernel)) rfl
theorem dX3_differences_40 : decode cX3_differences 40 = .ok (.iinc 2 1, 3) := dk_132 (b := 1) (dkn dmcX3_differences (by decide +kernel)) rfl
theorem dX3_differences_43 : decode cX3_differences 43 = .ok (.iinc 3 1, 3) := dk_132 (b := 1) (dkn dmcX3_differences (by decide +kernel)) rfl
theorem dX3_differences_46 : decode cX3_differences 46 = .ok (.goto (-42), 3) := dk_167 (a := 255) (b := 214) (dkn dmcX3_differences (by decide +kernel)) rfl
theorem dX3_differences_49 : decode cX3_differences 49 = .ok (.iconst 0, 1) := dk_3 (dkn dmcX3_differences (by decide +kernel))
theorem dX3_differences_50 : decode cX3_differences 50 = .ok (.istore_n 3, 1) := dk_62 (dkn dmcX3_differences (by decide +kernel))
theorem dX3_differences_51 : decode cX3_differences 51 = .ok (.iload_n 3, 1) := dk_29 (dkn dmcX3_differences (by decide +kernel))
theorem dX3_differences_52 : decode cX3_differences 52 = .ok (.iconst 4, 1) := dk_7 (dkn dmcX3_differences (by decide +kernel))
theorem dX3_differences_53 : decode cX3_differences 53 = .ok (.if_icmp .ge 25, 3) := dk_162 (a := 0) (b := 25) (dkn dmcX3_differences (by decide +kernel)) rfl
theorem dX3_differences_56 : decode cX3_differences 56 = .ok (.aload_n 0, 1) := dk_42 (dkn dmcX3_differences (by decide +kernel))
theorem dX3_differences_57 : decode cX3_differences 57 = .ok (.iload_n 3, 1) := dk_29 (dkn dmcX3_differences (by decide +kernel))
theorem dX3_differences_58 : decode cX3_differences 58 = .ok (.invokevirtual 111, 3) := dk_182 (a := 0) (b := 111) (dkn dmcX3_differences (by decide +kernel)) rfl
theorem dX3_differences_61 : decode cX3_differences 61 = .ok (.aload_n 1, 1) := dk_43 (dkn dmcX3_differences (by decide +kernel))
theorem dX3_differences_62 : decode cX3_differences 62 = .ok (.iload_n 3, 1) := dk_29 (dkn dmcX3_differences (by decide +kernel))
theorem dX3_differences_63 : decode cX3_differences 63 = .ok (.invokevirtual 111, 3) := dk_182 (a := 0) (b := 111) (dkn dmcX3_differences (by decide +kernel)) rfl
theorem dX3_differences_66 : decode cX3_differences 66 = .ok (.if_icmp .eq 6, 3) := dk_159 (a := 0) (b := 6) (dkn dmcX3_differences (by decide +kernel)) rfl
theorem dX3_differences_69 : decode cX3_differences 69 = .ok (.iinc 2 1, 3) := dk_132 (b := 1) (dkn dmcX3_differences (by decide +kernel)) rfl
theorem dX3_differences_72 : decode cX3_differences 72 = .ok (.iinc 3 1, 3) := dk_132 (b := 1) (dkn dmcX3_differences (by decide +kernel)) rfl
theorem dX3_differences_75 : decode cX3_differences 75 = .ok (.goto (-24), 3) := dk_167 (a := 255) (b := 232) (dkn dmcX3_differences (by decide +kernel)) rfl
theorem dX3_differences_78 : decode cX3_differences 78 = .ok (.iload_n 2, 1) := dk_28 (dkn dmcX3_differences (by decide +kernel))
theorem dX3_differences_79 : decode cX3_differences 79 = .ok (.ireturn, 1) := dk_172 (dkn dmcX3_differences (by decide +kernel))
def dncX3_go : Nat := 0xac1c4f7e00b42a1b1200b42a0d009a1c3d8400b61b2a0800a78100b61b2a0b00a0062e1b1500b42a7e00b560042e1b1200b42a2a7b00b5032a7800b5032a7500b5fe102a7200b5fe102aac0205009a5c00b61b2a
theorem dmcX3_go : dkc dncX3_go 84 cX3_go.data.toList 0 = true := by decide +kernel
theorem dX3_go_0 : decode cX3_go 0 = .ok (.aload_n 0, 1) := dk_42 (dkn dmcX3_go (by decide +kernel))
theorem dX3_go_1 : decode cX3_go 1 = .ok (.iload_n 1, 1) := dk_27 (dkn dmcX3_go (by decide +kernel))
theorem dX3_go_2 : decode cX3_go 2 = .ok (.invokevirtual 92, 3) := dk_182 (a := 0) (b := 92) (dkn dmcX3_go (by decide +kernel)) rfl
theorem dX3_go_5 : decode cX3_go 5 = .ok (.ifCond .ne 5, 3) := dk_154 (a := 0) (b := 5) (dkn dmcX3_go (by decide +kernel)) rfl
theorem dX3_go_8 : decode cX3_go 8 = .ok (.iconst (-1), 1) := dk_2 (dkn dmcX3_go (by decide +kernel))
theorem dX3_go_9 : decode cX3_go 9 = .ok (.ireturn, 1) := dk_172 (dkn dmcX3_go (by decide +kernel))
theorem dX3_go_10 : decode cX3_go 10 = .ok (.aload_n 0, 1) := dk_42 (dkn dmcX3_go (by decide +kernel))
theorem dX3_go_11 : decode cX3_go 11 = .ok (.bipush (-2), 2) := dk_16 (a := 254) (dkn dmcX3_go (by decide +kernel)) rfl
theorem dX3_go_13 : decode cX3_go 13 = .ok (.putfield 114, 3) := dk_181 (a := 0) (b := 114) (dkn dmcX3_go (by decide +kernel)) rfl
theorem dX3_go_16 : decode cX3_go 16 = .ok (.aload_n 0, 1) := dk_42 (dkn dmcX3_go (by decide +kernel))
theorem dX3_go_17 : decode cX3_go 17 = .ok (.bipush (-2), 2) := dk_16 (a := 254) (dkn dmcX3_go (by decide +kernel)) rfl
theorem dX3_go_19 : decode cX3_go 19 = .ok (.putfield 117, 3) := dk_181 (a := 0) (b := 117) (dkn dmcX3_go (by decide +kernel)) rfl
theorem dX3_go_22 : decode cX3_go 22 = .ok (.aload_n 0, 1) := dk_42 (dkn dmcX3_go (by decide +kernel))
theorem dX3_go_23 : decode cX3_go 23 = .ok (.iconst 0, 1) := dk_3 (dkn dmcX3_go (by decide +kernel))
theorem dX3_go_24 : decode cX3_go 24 = .ok (.putfield 120, 3) := dk_181 (a := 0) (b := 120) (dkn dmcX3_go (by decide +kernel)) rfl
theorem dX3_go_27 : decode cX3_go 27 = .ok (.aload_n 0, 1) := dk_42 (dkn dmcX3_go (by decide +kernel))
theorem dX3_go_28 : decode cX3_go 28 = .ok (.iconst 0, 1) := dk_3 (dkn dmcX3_go (by decide +kernel))
theorem dX3_go_29 : decode cX3_go 29 = .ok (.putfield 123, 3) := dk_181 (a := 0) (b := 123) (dkn dmcX3_go (by decide +kernel)) rfl
theorem dX3_go_32 : decode cX3_go 32 = .ok (.aload_n 0, 1) := dk_42 (dkn dmcX3_go (by decide +kernel))
theorem dX3_go_33 : decode cX3_go 33 = .ok (.aload_n 0, 1) := dk_42 (dkn dmcX3_go (by decide +kernel))
theorem dX3_go_34 : decode cX3_go 34 = .ok (.getfield 18, 3) := dk_180 (a := 0) (b := 18) (dkn dmcX3_go (by decide +kernel)) rfl
theorem dX3_go_37 : decode cX3_go 37 = .ok (.iload_n 1, 1) := dk_27 (dkn dmcX3_go (by decide +kernel))
theorem dX3_go_38 : decode cX3_go 38 = .ok (.iaload, 1) := dk_46 (dkn dmcX3_go (by decide +kernel))
theorem dX3_go_39 : decode cX3_go 39 = .ok (.iconst 1, 1) := dk_4 (dkn dmcX3_go (by decide +kernel))
theorem dX3_go_40 : decode cX3_go 40 = .ok (.iadd, 1) := dk_96 (dkn dmcX3_go (by decide +kernel))
theorem dX3_go_41 : decode cX3_go 41 = .ok (.putfield 126, 3) := dk_181 (a := 0) (b := 126) (dkn dmcX3_go (by decide +kernel)) rfl
theorem dX3_go_44 : decode cX3_go 44 = .ok (.aload_n 0, 1) := dk_42 (dkn dmcX3_go (by decide +kernel))
theorem dX3_go_45 : decode cX3_go 45 = .ok (.getfield 21, 3) := dk_180 (a := 0) (b := 21) (dkn dmcX3_go (by decide +kernel)) rfl
theorem dX3_go_48 : decode cX3_go 48 = .ok (.iload_n 1, 1) := dk_27 (dkn dmcX3_go (by decide +kernel))
theorem dX3_go_49 : decode cX3_go 49 = .ok (.iaload, 1) := dk_46 (dkn dmcX3_go (by decide +kernel))
theorem dX3_go_50 : decode cX3_go 50 = .ok (.iconst 3, 1) := dk_6 (dkn dmcX3_go (by decide +kernel))
theorem dX3_go_51 : decode cX3_go 51 = .ok (.if_icmp .ne 11, 3) := dk_160 (a := 0) (b := 11) (dkn dmcX3_go (by decide +kernel)) rfl
theorem dX3_go_54 : decode cX3_go 54 = .ok (.aload_n 0, 1) := dk_42 (dkn dmcX3_go (by decide +kernel))
theorem dX3_go_55 : decode cX3_go 55 = .ok (.iload_n 1, 1) := dk_27 (dkn dmcX3_go (by decide +kernel))
theorem dX3_go_56 : decode cX3_go 56 = .ok (.invokevirtual 129, 3) := dk_182 (a := 0) (b := 129) (dkn dmcX3_go (by decide +kernel)) rfl
theorem dX3_go_59 : decode cX3_go 59 = .ok (.goto 8, 3) := dk_167 (a := 0) (b := 8) (dkn dmcX3_go (by decide +kernel)) rfl
theorem dX3_go_62 : decode cX3_go 62 = .ok (.aload_n 0, 1) := dk_42 (dkn dmcX3_go (by decide +kernel))
theorem dX3_go_63 : decode cX3_go 63 = .ok (.iload_n 1, 1) := dk_27 (dkn dmcX3_go (by decide +kernel))
theorem dX3_go_64 : decode cX3_go 64 = .ok (.invokevirtual 132, 3) := dk_182 (a := 0) (b := 132) (dkn dmcX3_go (by decide +kernel)) rfl
theorem dX3_go_67 : decode cX3_go 67 = .ok (.istore_n 2, 1) := dk_61 (dkn dmcX3_go (by decide +kernel))
theorem dX3_go_68 : decode cX3_go 68 = .ok (.iload_n 2, 1) := dk_28 (dkn dmcX3_go (by decide +kernel))
theorem dX3_go_69 : decode cX3_go 69 = .ok (.ifCond .ne 13, 3) := dk_154 (a := 0) (b := 13) (dkn dmcX3_go (by decide +kernel)) rfl
theorem dX3_go_72 : decode cX3_go 72 = .ok (.aload_n 0, 1) := dk_42 (dkn dmcX3_go (by decide +kernel))
theorem dX3_go_73 : decode cX3_go 73 = .ok (.getfield 18, 3) := dk_180 (a := 0) (b := 18) (dkn dmcX3_go (by decide +kernel)) rfl
theorem dX3_go_76 : decode cX3_go 76 = .ok (.iload_n 1, 1) := dk_27 (dkn dmcX3_go (by decide +kernel))
theorem dX3_go_77 : decode cX3_go 77 = .ok (.aload_n 0, 1) := dk_42 (dkn dmcX3_go (by decide +kernel))
theorem dX3_go_78 : decode cX3_go 78 = .ok (.getfield 126, 3) := dk_180 (a := 0) (b := 126) (dkn dmcX3_go (by decide +kernel)) rfl
theorem dX3_go_81 : decode cX3_go 81 = .ok (.iastore, 1) := dk_79 (dkn dmcX3_go (by decide +kernel))
theorem dX3_go_82 : decode cX3_go 82 = .ok (.iload_n 2, 1) := dk_28 (dkn dmcX3_go (by decide +kernel))
theorem dX3_go_83 : decode cX3_go 83 = .ok (.ireturn, 1) := dk_172 (dkn dmcX3_go (by decide +kernel))
def dncX3_perform : Nat := 0xac9900b618102aac608b00b80a1004150a10acbb00b68b00b8071d2aacb800b605152aacb500b605151b2aacb200b605151b2aacaf00b605151b2aacac00b605151b2aaca800b6030400a7040700997e04041505152aaca500b60715061505152aaca200b60715061505152aac9f00b6061505152aac9c00b6041505152aac9900b61d2aac9600b6061505152e1c5200b42700b42a2aac9300b606158b00b80c101d2aac9000b68b00b80c10041505152aac8700b604150305152a04010000fa000000f3000000eb000000e3000000db000000d3000000c0000000b5000000aa000000a1000000980000009200000080000000800000008000000073000000650000005b00000012000000000000000f0100000000aa2e1c5200b42700b42a07365500b82e60061c5200b42700b42a1b06365500b804151b05365500b81d1b04362e60051c5200b42700b42a3e2e60041c5200b42700b42a3d4e00b62e1b1200b42a1b2700b42a
theorem dmcX3_perform : dkc dncX3_perform 359 cX3_perform.data.toList 0 = true := by decide +kernel
theorem dX3_perform_0 : decode cX3_perform 0 = .ok (.aload_n 0, 1) := dk_42 (dkn dmcX3_perform (by decide +kernel))
theorem dX3_perform_1 : decode cX3_perform 1 = .ok (.getfield 39, 3) := dk_180 (a := 0) (b := 39) (dkn dmcX3_perform (by decide +kernel)) rfl
theorem dX3_perform_4 : decode cX3_perform 4 = .ok (.iload_n 1, 1) := dk_27 (dkn dmcX3_perform (by decide +kernel))
theorem dX3_perform_5 : decode cX3_perform 5 = .ok (.aload_n 0, 1) := dk_42 (dkn dmcX3_perform (by decide +kernel))
theorem dX3_perform_6 : decode cX3_perform 6 = .ok (.getfield 18, 3) := dk_180 (a := 0) (b := 18) (dkn dmcX3_perform (by decide +kernel)) rfl
theorem dX3_perform_9 : decode cX3_perform 9 = .ok (.iload_n 1, 1) := dk_27 (dkn dmcX3_perform (by decide +kernel))
theorem dX3_perform_10 : decode cX3_perform 10 = .ok (.iaload, 1) := dk_46 (dkn dmcX3_perform (by decide +kernel))
theorem dX3_perform_11 : decode cX3_perform 11 = .ok (.invokevirtual 78, 3) := dk_182 (a := 0) (b := 78) (dkn dmcX3_perform (by decide +kernel)) rfl
theorem dX3_perform_14 : decode cX3_perform 14 = .ok (.istore_n 2, 1) := dk_61 (dkn dmcX3_perform (by decide +kernel))
theorem dX3_perform_15 : decode cX3_perform 15 = .ok (.aload_n 0, 1) := dk_42 (dkn dmcX3_perform (by decide +kernel))
theorem dX3_perform_16 : decode cX3_perform 16 = .ok (.getfield 39, 3) := dk_180 (a := 0) (b := 39) (dkn dmcX3_perform (by decide +kernel)) rfl
theorem dX3_perform_19 : decode cX3_perform 19 = .ok (.getfield 82, 3) := dk_180 (a := 0) (b := 82) (dkn dmcX3_perform (by decide +kernel)) rfl
theorem dX3_perform_22 : decode cX3_perform 22 = .ok (.iload_n 2, 1) := dk_28 (dkn dmcX3_perform (by decide +kernel))
theorem dX3_perform_23 : decode cX3_perform 23 = .ok (.iconst 1, 1) := dk_4 (dkn dmcX3_perform (by decide +kernel))
theorem dX3_perform_24 : decode cX3_perform 24 = .ok (.iadd, 1) := dk_96 (dkn dmcX3_perform (by decide +kernel))
theorem dX3_perform_25 : decode cX3_perform 25 = .ok (.iaload, 1) := dk_46 (dkn dmcX3_perform (by decide +kernel))
theorem dX3_perform_26 : decode cX3_perform 26 = .ok (.istore_n 3, 1) := dk_62 (dkn dmcX3_perform (by decide +kernel))
theorem dX3_perform_27 : decode cX3_perform 27 = .ok (.aload_n 0, 1) := dk_42 (dkn dmcX3_perform (by decide +kernel))
theorem dX3_perform_28 : decode cX3_perform 28 = .ok (.getfield 39, 3) := dk_180 (a := 0) (b := 39) (dkn dmcX3_perform (by decide +kernel)) rfl
theorem dX3_perform_31 : decode cX3_perform 31 = .ok (.getfield 82, 3) := dk_180 (a := 0) (b := 82) (dkn dmcX3_perform (by decide +kernel)) rfl
theorem dX3_perform_34 : decode cX3_perform 34 = .ok (.iload_n 2, 1) := dk_28 (dkn dmcX3_perform (by decide +kernel))
theorem dX3_perform_35 : decode cX3_perform 35 = .ok (.iconst 2, 1) := dk_5 (dkn dmcX3_perform (by decide +kernel))
theorem dX3_perform_36 : decode cX3_perform 36 = .ok (.iadd, 1) := dk_96 (dkn dmcX3_perform (by decide +kernel))
theorem dX3_perform_37 : decode cX3_perform 37 = .ok (.iaload, 1) := dk_46 (dkn dmcX3_perform (by decide +kernel))
theorem dX3_perform_38 : decode cX3_perform 38 = .ok (.istore 4, 2) := dk_54 (dkn dmcX3_perform (by decide +kernel))
theorem dX3_perform_40 : decode cX3_perform 40 = .ok (.iload_n 1, 1) := dk_27 (dkn dmcX3_perform (by decide +kernel))
theorem dX3_perform_41 : decode cX3_perform 41 = .ok (.iload_n 3, 1) := dk_29 (dkn dmcX3_perform (by decide +kernel))
theorem dX3_perform_42 : decode cX3_perform 42 = .ok (.invokestatic 85, 3) := dk_184 (a := 0) (b := 85) (dkn dmcX3_perform (by decide +kernel)) rfl
theorem dX3_perform_45 : decode cX3_perform 45 = .ok (.istore 5, 2) := dk_54 (dkn dmcX3_perform (by decide +kernel))
theorem dX3_perform_47 : decode cX3_perform 47 = .ok (.iload_n 1, 1) := dk_27 (dkn dmcX3_perform (by decide +kernel))
theorem dX3_perform_48 : decode cX3_perform 48 = .ok (.iload 4, 2) := dk_21 (dkn dmcX3_perform (by decide +kernel))
theorem dX3_perform_50 : decode cX3_perform 50 = .ok (.invokestatic 85, 3) := dk_184 (a := 0) (b := 85) (dkn dmcX3_perform (by decide +kernel)) rfl
theorem dX3_perform_53 : decode cX3_perform 53 = .ok (.istore 6, 2) := dk_54 (dkn dmcX3_perform (by decide +kernel))
theorem dX3_perform_55 : decode cX3_perform 55 = .ok (.iload_n 1, 1) := dk_27 (dkn dmcX3_perform (by decide +kernel))
theorem dX3_perform_56 : decode cX3_perform 56 = .ok (.aload_n 0, 1) := dk_42 (dkn dmcX3_perform (by decide +kernel))
theorem dX3_perform_57 : decode cX3_perform 57 = .ok (.getfield 39, 3) := dk_180 (a := 0) (b := 39) (dkn dmcX3_perform (by decide +kernel)) rfl
theorem dX3_perform_60 : decode cX3_perform 60 = .ok (.getfield 82, 3) := dk_180 (a := 0) (b := 82) (dkn dmcX3_perform (by decide +kernel)) rfl
theorem dX3_perform_63 : decode cX3_perform 63 = .ok (.iload_n 2, 1) := dk_28 (dkn dmcX3_perform (by decide +kernel))
theorem dX3_perform_64 : decode cX3_perform 64 = .ok (.iconst 3, 1) := dk_6 (dkn dmcX3_perform (by decide +kernel))
theorem dX3_perform_65 : decode cX3_perform 65 = .ok (.iadd, 1) := dk_96 (dkn dmcX3_perform (by decide +kernel))
theorem dX3_perform_66 : decode cX3_perform 66 = .ok (.iaload, 1) := dk_46 (dkn dmcX3_perform (by decide +kernel))
theorem dX3_perform_67 : decode cX3_perform 67 = .ok (.invokestatic 85, 3) := dk_184 (a := 0) (b := 85) (dkn dmcX3_perform (by decide +kernel)) rfl
theorem dX3_perform_70 : decode cX3_perform 70 = .ok (.istore 7, 2) := dk_54 (dkn dmcX3_perform (by decide +kernel))
theorem dX3_perform_72 : decode cX3_perform 72 = .ok (.aload_n 0, 1) := dk_42 (dkn dmcX3_perform (by decide +kernel))
theorem dX3_perform_73 : decode cX3_perform 73 = .ok (.getfield 39, 3) := dk_180 (a := 0) (b := 39) (dkn dmcX3_perform (by decide +kernel)) rfl
theorem dX3_perform_76 : decode cX3_perform 76 = .ok (.getfield 82, 3) := dk_180 (a := 0) (b := 82) (dkn dmcX3_perform (by decide +kernel)) rfl
theorem dX3_perform_79 : decode cX3_perform 79 = .ok (.iload_n 2, 1) := dk_28 (dkn dmcX3_perform (by decide +kernel))
theorem dX3_perform_80 : decode cX3_perform 80 = .ok (.iaload, 1) := dk_46 (dkn dmcX3_perform (by decide +kernel))
theorem dX3_perform_81 : decode cX3_perform 81 = .ok (.tableswitch 271 0 18 #[91, 101, 115, 128, 128, 128, 146, 152, 161, 170, 181, 192, 211, 219, 227, 235, 243, 250, 260], 91) := by decide +kernel
theorem dX3_perform_172 : decode cX3_perform 172 = .ok (.aload_n 0, 1) := dk_42 (dkn dmcX3_perform (by decide +kernel))
theorem dX3_perform_173 : decode cX3_perform 173 = .ok (.iload 5, 2) := dk_21 (dkn dmcX3_perform (by decide +kernel))
theorem dX3_perform_175 : decode cX3_perform 175 = .ok (.iconst 0, 1) := dk_3 (dkn dmcX3_perform (by decide +kernel))
theorem dX3_perform_176 : decode cX3_perform 176 = .ok (.iload 4, 2) := dk_21 (dkn dmcX3_perform (by decide +kernel))
theorem dX3_perform_178 : decode cX3_perform 178 = .ok (.invokevirtual 135, 3) := dk_182 (a := 0) (b := 135) (dkn dmcX3_perform (by decide +kernel)) rfl
theorem dX3_perform_181 : decode cX3_perform 181 = .ok (.ireturn, 1) := dk_172 (dkn dmcX3_perform (by decide +kernel))
theorem dX3_perform_182 : decode cX3_perform 182 = .ok (.aload_n 0, 1) := dk_42 (dkn dmcX3_perform (by decide +kernel))
theorem dX3_perform_183 : decode cX3_perform 183 = .ok (.iload 5, 2) := dk_21 (dkn dmcX3_perform (by decide +kernel))
theorem dX3_perform_185 : decode cX3_perform 185 = .ok (.iload 4, 2) := dk_21 (dkn dmcX3_perform (by decide +kernel))
theorem dX3_perform_187 : decode cX3_perform 187 = .ok (.bipush 12, 2) := dk_16 (a := 12) (dkn dmcX3_perform (by decide +kernel)) rfl
theorem dX3_perform_189 : decode cX3_perform 189 = .ok (.invokestatic 139, 3) := dk_184 (a := 0) (b := 139) (dkn dmcX3_perform (by decide +kernel)) rfl
theorem dX3_perform_192 : decode cX3_perform 192 = .ok (.invokevirtual 144, 3) := dk_182 (a := 0) (b := 144) (dkn dmcX3_perform (by decide +kernel)) rfl
theorem dX3_perform_195 : decode cX3_perform 195 = .ok (.ireturn, 1) := dk_172 (dkn dmcX3_perform (by decide +kernel))
theorem dX3_perform_196 : decode cX3_perform 196 = .ok (.aload_n 0, 1) := dk_42 (dkn dmcX3_perform (by decide +kernel))
theorem dX3_perform_197 : decode cX3_perform 197 = .ok (.iload_n 3, 1) := dk_29 (dkn dmcX3_perform (by decide +kernel))
theorem dX3_perform_198 : decode cX3_perform 198 = .ok (.bipush 12, 2) := dk_16 (a := 12) (dkn dmcX3_perform (by decide +kernel)) rfl
theorem dX3_perform_200 : decode cX3_perform 200 = .ok (.invokestatic 139, 3) := dk_184 (a := 0) (b := 139) (dkn dmcX3_perform (by decide +kernel)) rfl
theorem dX3_perform_203 : decode cX3_perform 203 = .ok (.iload 6, 2) := dk_21 (dkn dmcX3_perform (by decide +kernel))
theorem dX3_perform_205 : decode cX3_perform 205 = .ok (.invokevirtual 147, 3) := dk_182 (a := 0) (b := 147) (dkn dmcX3_perform (by decide +kernel)) rfl
theorem dX3_perform_208 : decode cX3_perform 208 = .ok (.ireturn, 1) := dk_172 (dkn dmcX3_perform (by decide +kernel))
theorem dX3_perform_209 : decode cX3_perform 209 = .ok (.aload_n 0, 1) := dk_42 (dkn dmcX3_perform (by decide +kernel))
theorem dX3_perform_210 : decode cX3_perform 210 = .ok (.aload_n 0, 1) := dk_42 (dkn dmcX3_perform (by decide +kernel))
theorem dX3_perform_211 : decode cX3_perform 211 = .ok (.getfield 39, 3) := dk_180 (a := 0) (b := 39) (dkn dmcX3_perform (by decide +kernel)) rfl
theorem dX3_perform_214 : decode cX3_perform 214 = .ok (.getfield 82, 3) := dk_180 (a := 0) (b := 82) (dkn dmcX3_perform (by decide +kernel)) rfl
theorem dX3_perform_217 : decode cX3_perform 217 = .ok (.iload_n 2, 1) := dk_28 (dkn dmcX3_perform (by decide +kernel))
theorem dX3_perform_218 : decode cX3_perform 218 = .ok (.iaload, 1) := dk_46 (dkn dmcX3_perform (by decide +kernel))
theorem dX3_perform_219 : decode cX3_perform 219 = .ok (.iload 5, 2) := dk_21 (dkn dmcX3_perform (by decide +kernel))
theorem dX3_perform_221 : decode cX3_perform 221 = .ok (.iload 6, 2) := dk_21 (dkn dmcX3_perform (by decide +kernel))
theorem dX3_perform_223 : decode cX3_perform 223 = .ok (.invokevirtual 150, 3) := dk_182 (a := 0) (b := 150) (dkn dmcX3_perform (by decide +kernel)) rfl
theorem dX3_perform_226 : decode cX3_perform 226 = .ok (.ireturn, 1) := dk_172 (dkn dmcX3_perform (by decide +kernel))
theorem dX3_perform_227 : decode cX3_perform 227 = .ok (.aload_n 0, 1) := dk_42 (dkn dmcX3_perform (by decide +kernel))
theorem dX3_perform_228 : decode cX3_perform 228 = .ok (.iload_n 3, 1) := dk_29 (dkn dmcX3_perform (by decide +kernel))
theorem dX3_perform_229 : decode cX3_perform 229 = .ok (.invokevirtual 153, 3) := dk_182 (a := 0) (b := 153) (dkn dmcX3_perform (by decide +kernel)) rfl
theorem dX3_perform_232 : decode cX3_perform 232 = .ok (.ireturn, 1) := dk_172 (dkn dmcX3_perform (by decide +kernel))
theorem dX3_perform_233 : decode cX3_perform 233 = .ok (.aload_n 0, 1) := dk_42 (dkn dmcX3_perform (by decide +kernel))
theorem dX3_perform_234 : decode cX3_perform 234 = .ok (.iload 5, 2) := dk_21 (dkn dmcX3_perform (by decide +kernel))
theorem dX3_perform_236 : decode cX3_perform 236 = .ok (.iload 4, 2) := dk_21 (dkn dmcX3_perform (by decide +kernel))
theorem dX3_perform_238 : decode cX3_perform 238 = .ok (.invokevirtual 156, 3) := dk_182 (a := 0) (b := 156) (dkn dmcX3_perform (by decide +kernel)) rfl
theorem dX3_perform_241 : decode cX3_perform 241 = .ok (.ireturn, 1) := dk_172 (dkn dmcX3_perform (by decide +kernel))
theorem dX3_perform_242 : decode cX3_perform 242 = .ok (.aload_n 0, 1) := dk_42 (dkn dmcX3_perform (by decide +kernel))
theorem dX3_perform_243 : decode cX3_perform 243 = .ok (.iload 5, 2) := dk_21 (dkn dmcX3_perform (by decide +kernel))
theorem dX3_perform_245 : decode cX3_perform 245 = .ok (.iload 6, 2) := dk_21 (dkn dmcX3_perform (by decide +kernel))
theorem dX3_perform_247 : decode cX3_perform 247 = .ok (.invokevirtual 159, 3) := dk_182 (a := 0) (b := 159) (dkn dmcX3_perform (by decide +kernel)) rfl
theorem dX3_perform_250 : decode cX3_perform 250 = .ok (.ireturn, 1) := dk_172 (dkn dmcX3_perform (by decide +kernel))
theorem dX3_perform_251 : decode cX3_perform 251 = .ok (.aload_n 0, 1) := dk_42 (dkn dmcX3_perform (by decide +kernel))
theorem dX3_perform_252 : decode cX3_perform 252 = .ok (.iload 5, 2) := dk_21 (dkn dmcX3_perform (by decide +kernel))
theorem dX3_perform_254 : decode cX3_perform 254 = .ok (.iload 6, 2) := dk_21 (dkn dmcX3_perform (by decide +kernel))
theorem dX3_perform_256 : decode cX3_perform 256 = .ok (.iload 7, 2) := dk_21 (dkn dmcX3_perform (by decide +kernel))
theorem dX3_perform_258 : decode cX3_perform 258 = .ok (.invokevirtual 162, 3) := dk_182 (a := 0) (b := 162) (dkn dmcX3_perform (by decide +kernel)) rfl
theorem dX3_perform_261 : decode cX3_perform 261 = .ok (.ireturn, 1) := dk_172 (dkn dmcX3_perform (by decide +kernel))
theorem dX3_perform_262 : decode cX3_perform 262 = .ok (.aload_n 0, 1) := dk_42 (dkn dmcX3_perform (by decide +kernel))
theorem dX3_perform_263 : decode cX3_perform 263 = .ok (.iload 5, 2) := dk_21 (dkn dmcX3_perform (by decide +kernel))
theorem dX3_perform_265 : decode cX3_perform 265 = .ok (.iload 6, 2) := dk_21 (dkn dmcX3_perform (by decide +kernel))
theorem dX3_perform_267 : decode cX3_perform 267 = .ok (.iload 7, 2) := dk_21 (dkn dmcX3_perform (by decide +kernel))
theorem dX3_perform_269 : decode cX3_perform 269 = .ok (.invokevirtual 165, 3) := dk_182 (a := 0) (b := 165) (dkn dmcX3_perform (by decide +kernel)) rfl
theorem dX3_perform_272 : decode cX3_perform 272 = .ok (.ireturn, 1) := dk_172 (dkn dmcX3_perform (by decide +kernel))
theorem dX3_perform_273 : decode cX3_perform 273 = .ok (.aload_n 0, 1) := dk_42 (dkn dmcX3_perform (by decide +kernel))
theorem dX3_perform_274 : decode cX3_perform 274 = .ok (.iload 5, 2) := dk_21 (dkn dmcX3_perform (by decide +kernel))
theorem dX3_perform_276 : decode cX3_perform 276 = .ok (.iload 4, 2) := dk_21 (dkn dmcX3_perform (by decide +kernel))
theorem dX3_perform_278 : decode cX3_perform 278 = .ok (.iconst 1, 1) := dk_4 (dkn dmcX3_perform (by decide +kernel))
theorem dX3_perform_279 : decode cX3_perform 279 = .ok (.iand, 1) := dk_126 (dkn dmcX3_perform (by decide +kernel))
theorem dX3_perform_280 : decode cX3_perform 280 = .ok (.ifCond .eq 7, 3) := dk_153 (a := 0) (b := 7) (dkn dmcX3_perform (by decide +kernel)) rfl
theorem dX3_perform_283 : decode cX3_perform 283 = .ok (.iconst 1, 1) := dk_4 (dkn dmcX3_perform (by decide +kernel))
theorem dX3_perform_284 : decode cX3_perform 284 = .ok (.goto 4, 3) := dk_167 (a := 0) (b := 4) (dkn dmcX3_perform (by decide +kernel)) rfl
theorem dX3_perform_287 : decode cX3_perform 287 = .ok (.iconst 0, 1) := dk_3 (dkn dmcX3_perform (by decide +kernel))
theorem dX3_perform_288 : decode cX3_perform 288 = .ok (.invokevirtual 168, 3) := dk_182 (a := 0) (b := 168) (dkn dmcX3_perform (by decide +kernel)) rfl
theorem dX3_perform_291 : decode cX3_perform 291 = .ok (.ireturn, 1) := dk_172 (dkn dmcX3_perform (by decide +kernel))
theorem dX3_perform_292 : decode cX3_perform 292 = .ok (.aload_n 0, 1) := dk_42 (dkn dmcX3_perform (by decide +kernel))
theorem dX3_perform_293 : decode cX3_perform 293 = .ok (.iload_n 1, 1) := dk_27 (dkn dmcX3_perform (by decide +kernel))
theorem dX3_perform_294 : decode cX3_perform 294 = .ok (.iload 5, 2) := dk_21 (dkn dmcX3_perform (by decide +kernel))
theorem dX3_perform_296 : decode cX3_perform 296 = .ok (.invokevirtual 172, 3) := dk_182 (a := 0) (b := 172) (dkn dmcX3_perform (by decide +kernel)) rfl
theorem dX3_perform_299 : decode cX3_perform 299 = .ok (.ireturn, 1) := dk_172 (dkn dmcX3_perform (by decide +kernel))
theorem dX3_perform_300 : decode cX3_perform 300 = .ok (.aload_n 0, 1) := dk_42 (dkn dmcX3_perform (by decide +kernel))
theorem dX3_perform_301 : decode cX3_perform 301 = .ok (.iload_n 1, 1) := dk_27 (dkn dmcX3_perform (by decide +kernel))
theorem dX3_perform_302 : decode cX3_perform 302 = .ok (.iload 5, 2) := dk_21 (dkn dmcX3_perform (by decide +kernel))
theorem dX3_perform_304 : decode cX3_perform 304 = .ok (.invokevirtual 175, 3) := dk_182 (a := 0) (b := 175) (dkn dmcX3_perform (by decide +kernel)) rfl
theorem dX3_perform_307 : decode cX3_perform 307 = .ok (.ireturn, 1) := dk_172 (dkn dmcX3_perform (by decide +kernel))
theorem dX3_perform_308 : decode cX3_perform 308 = .ok (.aload_n 0, 1) := dk_42 (dkn dmcX3_perform (by decide +kernel))
theorem dX3_perform_309 : decode cX3_perform 309 = .ok (.iload_n 1, 1) := dk_27 (dkn dmcX3_perform (by decide +kernel))
theorem dX3_perform_310 : decode cX3_perform 310 = .ok (.iload 5, 2) := dk_21 (dkn dmcX3_perform (by decide +kernel))
theorem dX3_perform_312 : decode cX3_perform 312 = .ok (.invokevirtual 178, 3) := dk_182 (a := 0) (b := 178) (dkn dmcX3_perform (by decide +kernel)) rfl
theorem dX3_perform_315 : decode cX3_perform 315 = .ok (.ireturn, 1) := dk_172 (dkn dmcX3_perform (by decide +kernel))
theorem dX3_perform_316 : decode cX3_perform 316 = .ok (.aload_n 0, 1) := dk_42 (dkn dmcX3_perform (by decide +kernel))
theorem dX3_perform_317 : decode cX3_perform 317 = .ok (.iload_n 1, 1) := dk_27 (dkn dmcX3_perform (by decide +kernel))
theorem dX3_perform_318 : decode cX3_perform 318 = .ok (.iload 5, 2) := dk_21 (dkn dmcX3_perform (by decide +kernel))
theorem dX3_perform_320 : decode cX3_perform 320 = .ok (.invokevirtual 181, 3) := dk_182 (a := 0) (b := 181) (dkn dmcX3_perform (by decide +kernel)) rfl
theorem dX3_perform_323 : decode cX3_perform 323 = .ok (.ireturn, 1) := dk_172 (dkn dmcX3_perform (by decide +kernel))
theorem dX3_perform_324 : decode cX3_perform 324 = .ok (.aload_n 0, 1) := dk_42 (dkn dmcX3_perform (by decide +kernel))
theorem dX3_perform_325 : decode cX3_perform 325 = .ok (.iload 5, 2) := dk_21 (dkn dmcX3_perform (by decide +kernel))
theorem dX3_perform_327 : decode cX3_perform 327 = .ok (.invokevirtual 184, 3) := dk_182 (a := 0) (b := 184) (dkn dmcX3_perform (by decide +kernel)) rfl
theorem dX3_perform_330 : decode cX3_perform 330 = .ok (.ireturn, 1) := dk_172 (dkn dmcX3_perform (by decide +kernel))
theorem dX3_perform_331 : decode cX3_perform 331 = .ok (.aload_n 0, 1) := dk_42 (dkn dmcX3_perform (by decide +kernel))
theorem dX3_perform_332 : decode cX3_perform 332 = .ok (.iload_n 3, 1) := dk_29 (dkn dmcX3_perform (by decide +kernel))
theorem dX3_perform_333 : decode cX3_perform 333 = .ok (.iconst 4, 1) := dk_7 (dkn dmcX3_perform (by decide +kernel))
theorem dX3_perform_334 : decode cX3_perform 334 = .ok (.invokestatic 139, 3) := dk_184 (a := 0) (b := 139) (dkn dmcX3_perform (by decide +kernel)) rfl
theorem dX3_perform_337 : decode cX3_perform 337 = .ok (.invokevirtual 187, 3) := dk_182 (a := 0) (b := 187) (dkn dmcX3_perform (by decide +kernel)) rfl
theorem dX3_perform_340 : decode cX3_perform 340 = .ok (.ireturn, 1) := dk_172 (dkn dmcX3_perform (by decide +kernel))
theorem dX3_perform_341 : decode cX3_perform 341 = .ok (.bipush 10, 2) := dk_16 (a := 10) (dkn dmcX3_perform (by decide +kernel)) rfl
theorem dX3_perform_343 : decode cX3_perform 343 = .ok (.iload 4, 2) := dk_21 (dkn dmcX3_perform (by decide +kernel))
theorem dX3_perform_345 : decode cX3_perform 345 = .ok (.bipush 10, 2) := dk_16 (a := 10) (dkn dmcX3_perform (by decide +kernel)) rfl
theorem dX3_perform_347 : decode cX3_perform 347 = .ok (.invokestatic 139, 3) := dk_184 (a := 0) (b := 139) (dkn dmcX3_perform (by decide +kernel)) rfl
theorem dX3_perform_350 : decode cX3_perform 350 = .ok (.iadd, 1) := dk_96 (dkn dmcX3_perform (by decide +kernel))
theorem dX3_perform_351 : decode cX3_perform 351 = .ok (.ireturn, 1) := dk_172 (dkn dmcX3_perform (by decide +kernel))
theorem dX3_perform_352 : decode cX3_perform 352 = .ok (.aload_n 0, 1) := dk_42 (dkn dmcX3_perform (by decide +kernel))
theorem dX3_perform_353 : decode cX3_perform 353 = .ok (.bipush 24, 2) := dk_16 (a := 24) (dkn dmcX3_perform (by decide +kernel)) rfl
theorem dX3_perform_355 : decode cX3_perform 355 = .ok (.invokevirtual 153, 3) := dk_182 (a := 0) (b := 153) (dkn dmcX3_perform (by decide +kernel)) rfl
theorem dX3_perform_358 : decode cX3_perform 358 = .ok (.ireturn, 1) := dk_172 (dkn dmcX3_perform (by decide +kernel))
theorem dX3_slotOf_0 : decode cX3_slotOf 0 = .ok (.bipush 12, 2) := dk_16 (a := 12) (by decide +kernel) rfl
theorem dX3_slotOf_2 : decode cX3_slotOf 2 = .ok (.iload_n 0, 1) := dk_26 (by decide +kernel)
theorem dX3_slotOf_3 : decode cX3_slotOf 3 = .ok (.iconst 4, 1) := dk_7 (by decide +kernel)
theorem dX3_slotOf_4 : decode cX3_slotOf 4 = .ok (.imul, 1) := dk_104 (by decide +kernel)
theorem dX3_slotOf_5 : decode cX3_slotOf 5 = .ok (.iadd, 1) := dk_96 (by decide +kernel)
theorem dX3_slotOf_6 : decode cX3_slotOf 6 = .ok (.iload_n 1, 1) := dk_27 (by decide +kernel)
theorem dX3_slotOf_7 : decode cX3_slotOf 7 = .ok (.iconst 4, 1) := dk_7 (by decide +kernel)
theorem dX3_slotOf_8 : decode cX3_slotOf 8 = .ok (.invokestatic 139, 3) := dk_184 (a := 0) (b := 139) (by decide +kernel) rfl
theorem dX3_slotOf_11 : decode cX3_slotOf 11 = .ok (.iadd, 1) := dk_96 (by decide +kernel)
theorem dX3_slotOf_12 : decode cX3_slotOf 12 = .ok (.ireturn, 1) := dk_172 (by decide +kernel)
def dncX3_bothNumbers : Nat := 0xac030400a70407009a2e1c0900b42a10009a2e1b0900b42a
theorem dmcX3_bothNumbers : dkc dncX3_bothNumbers 24 cX3_bothNumbers.data.toList 0 = true := by decide +kernel
theorem dX3_bothNumbers_0 : decode cX3_bothNumbers 0 = .ok (.aload_n 0, 1) := dk_42 (dkn dmcX3_bothNumbers (by decide +kernel))
theorem dX3_bothNumbers_1 : decode cX3_bothNumbers 1 = .ok (.getfield 9, 3) := dk_180 (a := 0) (b := 9) (dkn dmcX3_bothNumbers (by decide +kernel)) rfl
theorem dX3_bothNumbers_4 : decode cX3_bothNumbers 4 = .ok (.iload_n 1, 1) := dk_27 (dkn dmcX3_bothNumbers (by decide +kernel))
theorem dX3_bothNumbers_5 : decode cX3_bothNumbers 5 = .ok (.iaload, 1) := dk_46 (dkn dmcX3_bothNumbers (by decide +kernel))
theorem dX3_bothNumbers_6 : decode cX3_bothNumbers 6 = .ok (.ifCond .ne 16, 3) := dk_154 (a := 0) (b := 16) (dkn dmcX3_bothNumbers (by decide +kernel)) rfl
theorem dX3_bothNumbers_9 : decode cX3_bothNumbers 9 = .ok (.aload_n 0, 1) := dk_42 (dkn dmcX3_bothNumbers (by decide +kernel))
theorem dX3_bothNumbers_10 : decode cX3_bothNumbers 10 = .ok (.getfield 9, 3) := dk_180 (a := 0) (b := 9) (dkn dmcX3_bothNumbers (by decide +kernel)) rfl
theorem dX3_bothNumbers_13 : decode cX3_bothNumbers 13 = .ok (.iload_n 2, 1) := dk_28 (dkn dmcX3_bothNumbers (by decide +kernel))
theorem dX3_bothNumbers_14 : decode cX3_bothNumbers 14 = .ok (.iaload, 1) := dk_46 (dkn dmcX3_bothNumbers (by decide +kernel))
theorem dX3_bothNumbers_15 : decode cX3_bothNumbers 15 = .ok (.ifCond .ne 7, 3) := dk_154 (a := 0) (b := 7) (dkn dmcX3_bothNumbers (by decide +kernel)) rfl
theorem dX3_bothNumbers_18 : decode cX3_bothNumbers 18 = .ok (.iconst 1, 1) := dk_4 (dkn dmcX3_bothNumbers (by decide +kernel))
theorem dX3_bothNumbers_19 : decode cX3_bothNumbers 19 = .ok (.goto 4, 3) := dk_167 (a := 0) (b := 4) (dkn dmcX3_bothNumbers (by decide +kernel)) rfl
theorem dX3_bothNumbers_22 : decode cX3_bothNumbers 22 = .ok (.iconst 0, 1) := dk_3 (dkn dmcX3_bothNumbers (by decide +kernel))
theorem dX3_bothNumbers_23 : decode cX3_bothNumbers 23 = .ok (.ireturn, 1) := dk_172 (dkn dmcX3_bothNumbers (by decide +kernel))
def dncX3_lockIn : Nat := 0xac020400a72e1b0f00b42a0c00a0062e1b0900b42a0d009f052e1b0900b42a
theorem dmcX3_lockIn : dkc dncX3_lockIn 31 cX3_lockIn.data.toList 0 = true := by decide +kernel
theorem dX3_lockIn_0 : decode cX3_lockIn 0 = .ok (.aload_n 0, 1) := dk_42 (dkn dmcX3_lockIn (by decide +kernel))
theorem dX3_lockIn_1 : decode cX3_lockIn 1 = .ok (.getfield 9, 3) := dk_180 (a := 0) (b := 9) (dkn dmcX3_lockIn (by decide +kernel)) rfl
theorem dX3_lockIn_4 : decode cX3_lockIn 4 = .ok (.iload_n 1, 1) := dk_27 (dkn dmcX3_lockIn (by decide +kernel))
theorem dX3_lockIn_5 : decode cX3_lockIn 5 = .ok (.iaload, 1) := dk_46 (dkn dmcX3_lockIn (by decide +kernel))
theorem dX3_lockIn_6 : decode cX3_lockIn 6 = .ok (.iconst 2, 1) := dk_5 (dkn dmcX3_lockIn (by decide +kernel))
theorem dX3_lockIn_7 : decode cX3_lockIn 7 = .ok (.if_icmp .eq 13, 3) := dk_159 (a := 0) (b := 13) (dkn dmcX3_lockIn (by decide +kernel)) rfl
theorem dX3_lockIn_10 : decode cX3_lockIn 10 = .ok (.aload_n 0, 1) := dk_42 (dkn dmcX3_lockIn (by decide +kernel))
theorem dX3_lockIn_11 : decode cX3_lockIn 11 = .ok (.getfield 9, 3) := dk_180 (a := 0) (b := 9) (dkn dmcX3_lockIn (by decide +kernel)) rfl
theorem dX3_lockIn_14 : decode cX3_lockIn 14 = .ok (.iload_n 1, 1) := dk_27 (dkn dmcX3_lockIn (by decide +kernel))
theorem dX3_lockIn_15 : decode cX3_lockIn 15 = .ok (.iaload, 1) := dk_46 (dkn dmcX3_lockIn (by decide +kernel))
theorem dX3_lockIn_16 : decode cX3_lockIn 16 = .ok (.iconst 3, 1) := dk_6 (dkn dmcX3_lockIn (by decide +kernel))
theorem dX3_lockIn_17 : decode cX3_lockIn 17 = .ok (.if_icmp .ne 12, 3) := dk_160 (a := 0) (b := 12) (dkn dmcX3_lockIn (by decide +kernel)) rfl
theorem dX3_lockIn_20 : decode cX3_lockIn 20 = .ok (.aload_n 0, 1) := dk_42 (dkn dmcX3_lockIn (by decide +kernel))
theorem dX3_lockIn_21 : decode cX3_lockIn 21 = .ok (.getfield 15, 3) := dk_180 (a := 0) (b := 15) (dkn dmcX3_lockIn (by decide +kernel)) rfl
theorem dX3_lockIn_24 : decode cX3_lockIn 24 = .ok (.iload_n 1, 1) := dk_27 (dkn dmcX3_lockIn (by decide +kernel))
theorem dX3_lockIn_25 : decode cX3_lockIn 25 = .ok (.iaload, 1) := dk_46 (dkn dmcX3_lockIn (by decide +kernel))
theorem dX3_lockIn_26 : decode cX3_lockIn 26 = .ok (.goto 4, 3) := dk_167 (a := 0) (b := 4) (dkn dmcX3_lockIn (by decide +kernel)) rfl
theorem dX3_lockIn_29 : decode cX3_lockIn 29 = .ok (.iconst (-1), 1) := dk_2 (dkn dmcX3_lockIn (by decide +kernel))
theorem dX3_lockIn_30 : decode cX3_lockIn 30 = .ok (.ireturn, 1) := dk_172 (dkn dmcX3_lockIn (by decide +kernel))
theorem dX3_gateIn_0 : decode cX3_gateIn 0 = .ok (.aload_n 0, 1) := dk_42 (by decide +kernel)
theorem dX3_gateIn_1 : decode cX3_gateIn 1 = .ok (.getfield 9, 3) := dk_180 (a := 0) (b := 9) (by decide +kernel) rfl
theorem dX3_gateIn_4 : decode cX3_gateIn 4 = .ok (.iload_n 1, 1) := dk_27 (by decide +kernel)
theorem dX3_gateIn_5 : decode cX3_gateIn 5 = .ok (.iaload, 1) := dk_46 (by decide +kernel)
theorem dX3_gateIn_6 : decode cX3_gateIn 6 = .ok (.iconst 3, 1) := dk_6 (by decide +kernel)
theorem dX3_gateIn_7 : decode cX3_gateIn 7 = .ok (.if_icmp .ne 12, 3) := dk_160 (a := 0) (b := 12) (by decide +kernel) rfl
theorem dX3_gateIn_10 : decode cX3_gateIn 10 = .ok (.aload_n 0, 1) := dk_42 (by decide +kernel)
theorem dX3_gateIn_11 : decode cX3_gateIn 11 = .ok (.getfield 15, 3) := dk_180 (a := 0) (b := 15) (by decide +kernel) rfl
theorem dX3_gateIn_14 : decode cX3_gateIn 14 = .ok (.iload_n 1, 1) := dk_27 (by decide +kernel)
theorem dX3_gateIn_15 : decode cX3_gateIn 15 = .ok (.iaload, 1) := dk_46 (by decide +kernel)
theorem dX3_gateIn_16 : decode cX3_gateIn 16 = .ok (.goto 4, 3) := dk_167 (a := 0) (b := 4) (by decide +kernel) rfl
theorem dX3_gateIn_19 : decode cX3_gateIn 19 = .ok (.iconst (-1), 1) := dk_2 (by decide +kernel)
theorem dX3_gateIn_20 : decode cX3_gateIn 20 = .ok (.ireturn, 1) := dk_172 (by decide +kernel)
theorem dX3_hold_0 : decode cX3_hold 0 = .ok (.aload_n 0, 1) := dk_42 (by decide +kernel)
theorem dX3_hold_1 : decode cX3_hold 1 = .ok (.getfield 9, 3) := dk_180 (a := 0) (b := 9) (by decide +kernel) rfl
theorem dX3_hold_4 : decode cX3_hold 4 = .ok (.iload_n 1, 1) := dk_27 (by decide +kernel)
theorem dX3_hold_5 : decode cX3_hold 5 = .ok (.iload_n 2, 1) := dk_28 (by decide +kernel)
theorem dX3_hold_6 : decode cX3_hold 6 = .ok (.iastore, 1) := dk_79 (by decide +kernel)
theorem dX3_hold_7 : decode cX3_hold 7 = .ok (.aload_n 0, 1) := dk_42 (by decide +kernel)
theorem dX3_hold_8 : decode cX3_hold 8 = .ok (.getfield 15, 3) := dk_180 (a := 0) (b := 15) (by decide +kernel) rfl
theorem dX3_hold_11 : decode cX3_hold 11 = .ok (.iload_n 1, 1) := dk_27 (by decide +kernel)
theorem dX3_hold_12 : decode cX3_hold 12 = .ok (.iload_n 3, 1) := dk_29 (by decide +kernel)
theorem dX3_hold_13 : decode cX3_hold 13 = .ok (.iastore, 1) := dk_79 (by decide +kernel)
theorem dX3_hold_14 : decode cX3_hold 14 = .ok (.iconst 0, 1) := dk_3 (by decide +kernel)
theorem dX3_hold_15 : decode cX3_hold 15 = .ok (.ireturn, 1) := dk_172 (by decide +kernel)
theorem dX3_getCell_0 : decode cX3_getCell 0 = .ok (.aload_n 0, 1) := dk_42 (by decide +kernel)
theorem dX3_getCell_1 : decode cX3_getCell 1 = .ok (.iload_n 2, 1) := dk_28 (by decide +kernel)
theorem dX3_getCell_2 : decode cX3_getCell 2 = .ok (.putfield 114, 3) := dk_181 (a := 0) (b := 114) (by decide +kernel) rfl
theorem dX3_getCell_5 : decode cX3_getCell 5 = .ok (.aload_n 0, 1) := dk_42 (by decide +kernel)
theorem dX3_getCell_6 : decode cX3_getCell 6 = .ok (.iload_n 1, 1) := dk_27 (by decide +kernel)
theorem dX3_getCell_7 : decode cX3_getCell 7 = .ok (.aload_n 0, 1) := dk_42 (by decide +kernel)
theorem dX3_getCell_8 : decode cX3_getCell 8 = .ok (.getfield 9, 3) := dk_180 (a := 0) (b := 9) (by decide +kernel) rfl
theorem dX3_getCell_11 : decode cX3_getCell 11 = .ok (.iload_n 2, 1) := dk_28 (by decide +kernel)
theorem dX3_getCell_12 : decode cX3_getCell 12 = .ok (.iaload, 1) := dk_46 (by decide +kernel)
theorem dX3_getCell_13 : decode cX3_getCell 13 = .ok (.aload_n 0, 1) := dk_42 (by decide +kernel)
theorem dX3_getCell_14 : decode cX3_getCell 14 = .ok (.getfield 15, 3) := dk_180 (a := 0) (b := 15) (by decide +kernel) rfl
theorem dX3_getCell_17 : decode cX3_getCell 17 = .ok (.iload_n 2, 1) := dk_28 (by decide +kernel)
theorem dX3_getCell_18 : decode cX3_getCell 18 = .ok (.iaload, 1) := dk_46 (by decide +kernel)
theorem dX3_getCell_19 : decode cX3_getCell 19 = .ok (.invokevirtual 135, 3) := dk_182 (a := 0) (b := 135) (by decide +kernel) rfl
theorem dX3_getCell_22 : decode cX3_getCell 22 = .ok (.ireturn, 1) := dk_172 (by decide +kernel)
theorem dX3_putCell_0 : decode cX3_putCell 0 = .ok (.aload_n 0, 1) := dk_42 (by decide +kernel)
theorem dX3_putCell_1 : decode cX3_putCell 1 = .ok (.iload_n 1, 1) := dk_27 (by decide +kernel)
theorem dX3_putCell_2 : decode cX3_putCell 2 = .ok (.putfield 117, 3) := dk_181 (a := 0) (b := 117) (by decide +kernel) rfl
theorem dX3_putCell_5 : decode cX3_putCell 5 = .ok (.aload_n 0, 1) := dk_42 (by decide +kernel)
theorem dX3_putCell_6 : decode cX3_putCell 6 = .ok (.iload_n 1, 1) := dk_27 (by decide +kernel)
theorem dX3_putCell_7 : decode cX3_putCell 7 = .ok (.aload_n 0, 1) := dk_42 (by decide +kernel)
theorem dX3_putCell_8 : decode cX3_putCell 8 = .ok (.getfield 9, 3) := dk_180 (a := 0) (b := 9) (by decide +kernel) rfl
theorem dX3_putCell_11 : decode cX3_putCell 11 = .ok (.iload_n 2, 1) := dk_28 (by decide +kernel)
theorem dX3_putCell_12 : decode cX3_putCell 12 = .ok (.iaload, 1) := dk_46 (by decide +kernel)
theorem dX3_putCell_13 : decode cX3_putCell 13 = .ok (.aload_n 0, 1) := dk_42 (by decide +kernel)
theorem dX3_putCell_14 : decode cX3_putCell 14 = .ok (.getfield 15, 3) := dk_180 (a := 0) (b := 15) (by decide +kernel) rfl
theorem dX3_putCell_17 : decode cX3_putCell 17 = .ok (.iload_n 2, 1) := dk_28 (by decide +kernel)
theorem dX3_putCell_18 : decode cX3_putCell 18 = .ok (.iaload, 1) := dk_46 (by decide +kernel)
theorem dX3_putCell_19 : decode cX3_putCell 19 = .ok (.invokevirtual 135, 3) := dk_182 (a := 0) (b := 135) (by decide +kernel) rfl
theorem dX3_putCell_22 : decode cX3_putCell 22 = .ok (.ireturn, 1) := dk_172 (by decide +kernel)
def dncX3_reckon : Nat := 0xac8700b60615031c2a063668051504150800a764051504150b00a0071b1500a760051504150b00a0061b05362e1d0f00b42a04362e1c0f00b42aac0405009abe00b61d1c2a
theorem dmcX3_reckon : dkc dncX3_reckon 69 cX3_reckon.data.toList 0 = true := by decide +kernel
theorem dX3_reckon_0 : decode cX3_reckon 0 = .ok (.aload_n 0, 1) := dk_42 (dkn dmcX3_reckon (by decide +kernel))
theorem dX3_reckon_1 : decode cX3_reckon 1 = .ok (.iload_n 2, 1) := dk_28 (dkn dmcX3_reckon (by decide +kernel))
theorem dX3_reckon_2 : decode cX3_reckon 2 = .ok (.iload_n 3, 1) := dk_29 (dkn dmcX3_reckon (by decide +kernel))
theorem dX3_reckon_3 : decode cX3_reckon 3 = .ok (.invokevirtual 190, 3) := dk_182 (a := 0) (b := 190) (dkn dmcX3_reckon (by decide +kernel)) rfl
theorem dX3_reckon_6 : decode cX3_reckon 6 = .ok (.ifCond .ne 5, 3) := dk_154 (a := 0) (b := 5) (dkn dmcX3_reckon (by decide +kernel)) rfl
theorem dX3_reckon_9 : decode cX3_reckon 9 = .ok (.iconst 1, 1) := dk_4 (dkn dmcX3_reckon (by decide +kernel))
theorem dX3_reckon_10 : decode cX3_reckon 10 = .ok (.ireturn, 1) := dk_172 (dkn dmcX3_reckon (by decide +kernel))
theorem dX3_reckon_11 : decode cX3_reckon 11 = .ok (.aload_n 0, 1) := dk_42 (dkn dmcX3_reckon (by decide +kernel))
theorem dX3_reckon_12 : decode cX3_reckon 12 = .ok (.getfield 15, 3) := dk_180 (a := 0) (b := 15) (dkn dmcX3_reckon (by decide +kernel)) rfl
theorem dX3_reckon_15 : decode cX3_reckon 15 = .ok (.iload_n 2, 1) := dk_28 (dkn dmcX3_reckon (by decide +kernel))
theorem dX3_reckon_16 : decode cX3_reckon 16 = .ok (.iaload, 1) := dk_46 (dkn dmcX3_reckon (by decide +kernel))
theorem dX3_reckon_17 : decode cX3_reckon 17 = .ok (.istore 4, 2) := dk_54 (dkn dmcX3_reckon (by decide +kernel))
theorem dX3_reckon_19 : decode cX3_reckon 19 = .ok (.aload_n 0, 1) := dk_42 (dkn dmcX3_reckon (by decide +kernel))
theorem dX3_reckon_20 : decode cX3_reckon 20 = .ok (.getfield 15, 3) := dk_180 (a := 0) (b := 15) (dkn dmcX3_reckon (by decide +kernel)) rfl
theorem dX3_reckon_23 : decode cX3_reckon 23 = .ok (.iload_n 3, 1) := dk_29 (dkn dmcX3_reckon (by decide +kernel))
theorem dX3_reckon_24 : decode cX3_reckon 24 = .ok (.iaload, 1) := dk_46 (dkn dmcX3_reckon (by decide +kernel))
theorem dX3_reckon_25 : decode cX3_reckon 25 = .ok (.istore 5, 2) := dk_54 (dkn dmcX3_reckon (by decide +kernel))
theorem dX3_reckon_27 : decode cX3_reckon 27 = .ok (.iload_n 1, 1) := dk_27 (dkn dmcX3_reckon (by decide +kernel))
theorem dX3_reckon_28 : decode cX3_reckon 28 = .ok (.iconst 3, 1) := dk_6 (dkn dmcX3_reckon (by decide +kernel))
theorem dX3_reckon_29 : decode cX3_reckon 29 = .ok (.if_icmp .ne 11, 3) := dk_160 (a := 0) (b := 11) (dkn dmcX3_reckon (by decide +kernel)) rfl
theorem dX3_reckon_32 : decode cX3_reckon 32 = .ok (.iload 4, 2) := dk_21 (dkn dmcX3_reckon (by decide +kernel))
theorem dX3_reckon_34 : decode cX3_reckon 34 = .ok (.iload 5, 2) := dk_21 (dkn dmcX3_reckon (by decide +kernel))
theorem dX3_reckon_36 : decode cX3_reckon 36 = .ok (.iadd, 1) := dk_96 (dkn dmcX3_reckon (by decide +kernel))
theorem dX3_reckon_37 : decode cX3_reckon 37 = .ok (.goto 21, 3) := dk_167 (a := 0) (b := 21) (dkn dmcX3_reckon (by decide +kernel)) rfl
theorem dX3_reckon_40 : decode cX3_reckon 40 = .ok (.iload_n 1, 1) := dk_27 (dkn dmcX3_reckon (by decide +kernel))
theorem dX3_reckon_41 : decode cX3_reckon 41 = .ok (.iconst 4, 1) := dk_7 (dkn dmcX3_reckon (by decide +kernel))
theorem dX3_reckon_42 : decode cX3_reckon 42 = .ok (.if_icmp .ne 11, 3) := dk_160 (a := 0) (b := 11) (dkn dmcX3_reckon (by decide +kernel)) rfl
theorem dX3_reckon_45 : decode cX3_reckon 45 = .ok (.iload 4, 2) := dk_21 (dkn dmcX3_reckon (by decide +kernel))
theorem dX3_reckon_47 : decode cX3_reckon 47 = .ok (.iload 5, 2) := dk_21 (dkn dmcX3_reckon (by decide +kernel))
theorem dX3_reckon_49 : decode cX3_reckon 49 = .ok (.isub, 1) := dk_100 (dkn dmcX3_reckon (by decide +kernel))
theorem dX3_reckon_50 : decode cX3_reckon 50 = .ok (.goto 8, 3) := dk_167 (a := 0) (b := 8) (dkn dmcX3_reckon (by decide +kernel)) rfl
theorem dX3_reckon_53 : decode cX3_reckon 53 = .ok (.iload 4, 2) := dk_21 (dkn dmcX3_reckon (by decide +kernel))
theorem dX3_reckon_55 : decode cX3_reckon 55 = .ok (.iload 5, 2) := dk_21 (dkn dmcX3_reckon (by decide +kernel))
theorem dX3_reckon_57 : decode cX3_reckon 57 = .ok (.imul, 1) := dk_104 (dkn dmcX3_reckon (by decide +kernel))
theorem dX3_reckon_58 : decode cX3_reckon 58 = .ok (.istore 6, 2) := dk_54 (dkn dmcX3_reckon (by decide +kernel))
theorem dX3_reckon_60 : decode cX3_reckon 60 = .ok (.aload_n 0, 1) := dk_42 (dkn dmcX3_reckon (by decide +kernel))
theorem dX3_reckon_61 : decode cX3_reckon 61 = .ok (.iload_n 2, 1) := dk_28 (dkn dmcX3_reckon (by decide +kernel))
theorem dX3_reckon_62 : decode cX3_reckon 62 = .ok (.iconst 0, 1) := dk_3 (dkn dmcX3_reckon (by decide +kernel))
theorem dX3_reckon_63 : decode cX3_reckon 63 = .ok (.iload 6, 2) := dk_21 (dkn dmcX3_reckon (by decide +kernel))
theorem dX3_reckon_65 : decode cX3_reckon 65 = .ok (.invokevirtual 135, 3) := dk_182 (a := 0) (b := 135) (dkn dmcX3_reckon (by decide +kernel)) rfl
theorem dX3_reckon_68 : decode cX3_reckon 68 = .ok (.ireturn, 1) := dk_172 (dkn dmcX3_reckon (by decide +kernel))
theorem dX3_goTo_0 : decode cX3_goTo 0 = .ok (.aload_n 0, 1) := dk_42 (by decide +kernel)
theorem dX3_goTo_1 : decode cX3_goTo 1 = .ok (.iload_n 1, 1) := dk_27 (by decide +kernel)
theorem dX3_goTo_2 : decode cX3_goTo 2 = .ok (.putfield 126, 3) := dk_181 (a := 0) (b := 126) (by decide +kernel) rfl
theorem dX3_goTo_5 : decode cX3_goTo 5 = .ok (.iconst 0, 1) := dk_3 (by decide +kernel)
theorem dX3_goTo_6 : decode cX3_goTo 6 = .ok (.ireturn, 1) := dk_172 (by decide +kernel)
def dncX3_goUnless : Nat := 0xac030400a79900b61c2a0b009a2e1b0f00b42aac040500992e1b0900b42a
theorem dmcX3_goUnless : dkc dncX3_goUnless 30 cX3_goUnless.data.toList 0 = true := by decide +kernel
theorem dX3_goUnless_0 : decode cX3_goUnless 0 = .ok (.aload_n 0, 1) := dk_42 (dkn dmcX3_goUnless (by decide +kernel))
theorem dX3_goUnless_1 : decode cX3_goUnless 1 = .ok (.getfield 9, 3) := dk_180 (a := 0) (b := 9) (dkn dmcX3_goUnless (by decide +kernel)) rfl
theorem dX3_goUnless_4 : decode cX3_goUnless 4 = .ok (.iload_n 1, 1) := dk_27 (dkn dmcX3_goUnless (by decide +kernel))
theorem dX3_goUnless_5 : decode cX3_goUnless 5 = .ok (.iaload, 1) := dk_46 (dkn dmcX3_goUnless (by decide +kernel))
theorem dX3_goUnless_6 : decode cX3_goUnless 6 = .ok (.ifCond .eq 5, 3) := dk_153 (a := 0) (b := 5) (dkn dmcX3_goUnless (by decide +kernel)) rfl
theorem dX3_goUnless_9 : decode cX3_goUnless 9 = .ok (.iconst 1, 1) := dk_4 (dkn dmcX3_goUnless (by decide +kernel))
theorem dX3_goUnless_10 : decode cX3_goUnless 10 = .ok (.ireturn, 1) := dk_172 (dkn dmcX3_goUnless (by decide +kernel))
theorem dX3_goUnless_11 : decode cX3_goUnless 11 = .ok (.aload_n 0, 1) := dk_42 (dkn dmcX3_goUnless (by decide +kernel))
theorem dX3_goUnless_12 : decode cX3_goUnless 12 = .ok (.getfield 15, 3) := dk_180 (a := 0) (b := 15) (dkn dmcX3_goUnless (by decide +kernel)) rfl
theorem dX3_goUnless_15 : decode cX3_goUnless 15 = .ok (.iload_n 1, 1) := dk_27 (dkn dmcX3_goUnless (by decide +kernel))
theorem dX3_goUnless_16 : decode cX3_goUnless 16 = .ok (.iaload, 1) := dk_46 (dkn dmcX3_goUnless (by decide +kernel))
theorem dX3_goUnless_17 : decode cX3_goUnless 17 = .ok (.ifCond .ne 11, 3) := dk_154 (a := 0) (b := 11) (dkn dmcX3_goUnless (by decide +kernel)) rfl
theorem dX3_goUnless_20 : decode cX3_goUnless 20 = .ok (.aload_n 0, 1) := dk_42 (dkn dmcX3_goUnless (by decide +kernel))
theorem dX3_goUnless_21 : decode cX3_goUnless 21 = .ok (.iload_n 2, 1) := dk_28 (dkn dmcX3_goUnless (by decide +kernel))
theorem dX3_goUnless_22 : decode cX3_goUnless 22 = .ok (.invokevirtual 153, 3) := dk_182 (a := 0) (b := 153) (dkn dmcX3_goUnless (by decide +kernel)) rfl
theorem dX3_goUnless_25 : decode cX3_goUnless 25 = .ok (.goto 4, 3) := dk_167 (a := 0) (b := 4) (dkn dmcX3_goUnless (by decide +kernel)) rfl
theorem dX3_goUnless_28 : decode cX3_goUnless 28 = .ok (.iconst 0, 1) := dk_3 (dkn dmcX3_goUnless (by decide +kernel))
theorem dX3_goUnless_29 : decode cX3_goUnless 29 = .ok (.ireturn, 1) := dk_172 (dkn dmcX3_goUnless (by decide +kernel))
def dncX3_makeThing : Nat := 0xac034f04151b0f00b42a4f1c1b0900b42a4ffe1004152100b42a4f1d04151e00b42a4f1c04151b00b42a3c00b560043c00b4592a04363c00b42a
theorem dmcX3_makeThing : dkc dncX3_makeThing 58 cX3_makeThing.data.toList 0 = true := by decide +kernel
theorem dX3_makeThing_0 : decode cX3_makeThing 0 = .ok (.aload_n 0, 1) := dk_42 (dkn dmcX3_makeThing (by decide +kernel))
theorem dX3_makeThing_1 : decode cX3_makeThing 1 = .ok (.getfield 60, 3) := dk_180 (a := 0) (b := 60) (dkn dmcX3_makeThing (by decide +kernel)) rfl
theorem dX3_makeThing_4 : decode cX3_makeThing 4 = .ok (.istore 4, 2) := dk_54 (dkn dmcX3_makeThing (by decide +kernel))
theorem dX3_makeThing_6 : decode cX3_makeThing 6 = .ok (.aload_n 0, 1) := dk_42 (dkn dmcX3_makeThing (by decide +kernel))
theorem dX3_makeThing_7 : decode cX3_makeThing 7 = .ok (.dup, 1) := dk_89 (dkn dmcX3_makeThing (by decide +kernel))
theorem dX3_makeThing_8 : decode cX3_makeThing 8 = .ok (.getfield 60, 3) := dk_180 (a := 0) (b := 60) (dkn dmcX3_makeThing (by decide +kernel)) rfl
theorem dX3_makeThing_11 : decode cX3_makeThing 11 = .ok (.iconst 1, 1) := dk_4 (dkn dmcX3_makeThing (by decide +kernel))
theorem dX3_makeThing_12 : decode cX3_makeThing 12 = .ok (.iadd, 1) := dk_96 (dkn dmcX3_makeThing (by decide +kernel))
theorem dX3_makeThing_13 : decode cX3_makeThing 13 = .ok (.putfield 60, 3) := dk_181 (a := 0) (b := 60) (dkn dmcX3_makeThing (by decide +kernel)) rfl
theorem dX3_makeThing_16 : decode cX3_makeThing 16 = .ok (.aload_n 0, 1) := dk_42 (dkn dmcX3_makeThing (by decide +kernel))
theorem dX3_makeThing_17 : decode cX3_makeThing 17 = .ok (.getfield 27, 3) := dk_180 (a := 0) (b := 27) (dkn dmcX3_makeThing (by decide +kernel)) rfl
theorem dX3_makeThing_20 : decode cX3_makeThing 20 = .ok (.iload 4, 2) := dk_21 (dkn dmcX3_makeThing (by decide +kernel))
theorem dX3_makeThing_22 : decode cX3_makeThing 22 = .ok (.iload_n 2, 1) := dk_28 (dkn dmcX3_makeThing (by decide +kernel))
theorem dX3_makeThing_23 : decode cX3_makeThing 23 = .ok (.iastore, 1) := dk_79 (dkn dmcX3_makeThing (by decide +kernel))
theorem dX3_makeThing_24 : decode cX3_makeThing 24 = .ok (.aload_n 0, 1) := dk_42 (dkn dmcX3_makeThing (by decide +kernel))
theorem dX3_makeThing_25 : decode cX3_makeThing 25 = .ok (.getfield 30, 3) := dk_180 (a := 0) (b := 30) (dkn dmcX3_makeThing (by decide +kernel)) rfl
theorem dX3_makeThing_28 : decode cX3_makeThing 28 = .ok (.iload 4, 2) := dk_21 (dkn dmcX3_makeThing (by decide +kernel))
theorem dX3_makeThing_30 : decode cX3_makeThing 30 = .ok (.iload_n 3, 1) := dk_29 (dkn dmcX3_makeThing (by decide +kernel))
theorem dX3_makeThing_31 : decode cX3_makeThing 31 = .ok (.iastore, 1) := dk_79 (dkn dmcX3_makeThing (by decide +kernel))
theorem dX3_makeThing_32 : decode cX3_makeThing 32 = .ok (.aload_n 0, 1) := dk_42 (dkn dmcX3_makeThing (by decide +kernel))
theorem dX3_makeThing_33 : decode cX3_makeThing 33 = .ok (.getfield 33, 3) := dk_180 (a := 0) (b := 33) (dkn dmcX3_makeThing (by decide +kernel)) rfl
theorem dX3_makeThing_36 : decode cX3_makeThing 36 = .ok (.iload 4, 2) := dk_21 (dkn dmcX3_makeThing (by decide +kernel))
theorem dX3_makeThing_38 : decode cX3_makeThing 38 = .ok (.bipush (-2), 2) := dk_16 (a := 254) (dkn dmcX3_makeThing (by decide +kernel)) rfl
theorem dX3_makeThing_40 : decode cX3_makeThing 40 = .ok (.iastore, 1) := dk_79 (dkn dmcX3_makeThing (by decide +kernel))
theorem dX3_makeThing_41 : decode cX3_makeThing 41 = .ok (.aload_n 0, 1) := dk_42 (dkn dmcX3_makeThing (by decide +kernel))
theorem dX3_makeThing_42 : decode cX3_makeThing 42 = .ok (.getfield 9, 3) := dk_180 (a := 0) (b := 9) (dkn dmcX3_makeThing (by decide +kernel)) rfl
theorem dX3_makeThing_45 : decode cX3_makeThing 45 = .ok (.iload_n 1, 1) := dk_27 (dkn dmcX3_makeThing (by decide +kernel))
theorem dX3_makeThing_46 : decode cX3_makeThing 46 = .ok (.iload_n 2, 1) := dk_28 (dkn dmcX3_makeThing (by decide +kernel))
theorem dX3_makeThing_47 : decode cX3_makeThing 47 = .ok (.iastore, 1) := dk_79 (dkn dmcX3_makeThing (by decide +kernel))
theorem dX3_makeThing_48 : decode cX3_makeThing 48 = .ok (.aload_n 0, 1) := dk_42 (dkn dmcX3_makeThing (by decide +kernel))
theorem dX3_makeThing_49 : decode cX3_makeThing 49 = .ok (.getfield 15, 3) := dk_180 (a := 0) (b := 15) (dkn dmcX3_makeThing (by decide +kernel)) rfl
theorem dX3_makeThing_52 : decode cX3_makeThing 52 = .ok (.iload_n 1, 1) := dk_27 (dkn dmcX3_makeThing (by decide +kernel))
theorem dX3_makeThing_53 : decode cX3_makeThing 53 = .ok (.iload 4, 2) := dk_21 (dkn dmcX3_makeThing (by decide +kernel))
theorem dX3_makeThing_55 : decode cX3_makeThing 55 = .ok (.iastore, 1) := dk_79 (dkn dmcX3_makeThing (by decide +kernel))
theorem dX3_makeThing_56 : decode cX3_makeThing 56 = .ok (.iconst 0, 1) := dk_3 (dkn dmcX3_makeThing (by decide +kernel))
theorem dX3_makeThing_57 : decode cX3_makeThing 57 = .ok (.ireturn, 1) := dk_172 (dkn dmcX3_makeThing (by decide +kernel))
def dncX3_makeRow : Nat := 0xacc100b61d041b2ae7ffa70104844f036004156810103c00b42a2400b42a1900a21d0415043603ac060500a10c103c00b42a0c00a310101dac0505009c1d3e2e1c0f00b42aac040500992e1c0900b42a
theorem dmcX3_makeRow : dkc dncX3_makeRow 80 cX3_makeRow.data.toList 0 = true := by decide +kernel
theorem dX3_makeRow_0 : decode cX3_makeRow 0 = .ok (.aload_n 0, 1) := dk_42 (dkn dmcX3_makeRow (by decide +kernel))
theorem dX3_makeRow_1 : decode cX3_makeRow 1 = .ok (.getfield 9, 3) := dk_180 (a := 0) (b := 9) (dkn dmcX3_makeRow (by decide +kernel)) rfl
theorem dX3_makeRow_4 : decode cX3_makeRow 4 = .ok (.iload_n 2, 1) := dk_28 (dkn dmcX3_makeRow (by decide +kernel))
theorem dX3_makeRow_5 : decode cX3_makeRow 5 = .ok (.iaload, 1) := dk_46 (dkn dmcX3_makeRow (by decide +kernel))
theorem dX3_makeRow_6 : decode cX3_makeRow 6 = .ok (.ifCond .eq 5, 3) := dk_153 (a := 0) (b := 5) (dkn dmcX3_makeRow (by decide +kernel)) rfl
theorem dX3_makeRow_9 : decode cX3_makeRow 9 = .ok (.iconst 1, 1) := dk_4 (dkn dmcX3_makeRow (by decide +kernel))
theorem dX3_makeRow_10 : decode cX3_makeRow 10 = .ok (.ireturn, 1) := dk_172 (dkn dmcX3_makeRow (by decide +kernel))
theorem dX3_makeRow_11 : decode cX3_makeRow 11 = .ok (.aload_n 0, 1) := dk_42 (dkn dmcX3_makeRow (by decide +kernel))
theorem dX3_makeRow_12 : decode cX3_makeRow 12 = .ok (.getfield 15, 3) := dk_180 (a := 0) (b := 15) (dkn dmcX3_makeRow (by decide +kernel)) rfl
theorem dX3_makeRow_15 : decode cX3_makeRow 15 = .ok (.iload_n 2, 1) := dk_28 (dkn dmcX3_makeRow (by decide +kernel))
theorem dX3_makeRow_16 : decode cX3_makeRow 16 = .ok (.iaload, 1) := dk_46 (dkn dmcX3_makeRow (by decide +kernel))
theorem dX3_makeRow_17 : decode cX3_makeRow 17 = .ok (.istore_n 3, 1) := dk_62 (dkn dmcX3_makeRow (by decide +kernel))
theorem dX3_makeRow_18 : decode cX3_makeRow 18 = .ok (.iload_n 3, 1) := dk_29 (dkn dmcX3_makeRow (by decide +kernel))
theorem dX3_makeRow_19 : decode cX3_makeRow 19 = .ok (.ifCond .ge 5, 3) := dk_156 (a := 0) (b := 5) (dkn dmcX3_makeRow (by decide +kernel)) rfl
theorem dX3_makeRow_22 : decode cX3_makeRow 22 = .ok (.iconst 2, 1) := dk_5 (dkn dmcX3_makeRow (by decide +kernel))
theorem dX3_makeRow_23 : decode cX3_makeRow 23 = .ok (.ireturn, 1) := dk_172 (dkn dmcX3_makeRow (by decide +kernel))
theorem dX3_makeRow_24 : decode cX3_makeRow 24 = .ok (.iload_n 3, 1) := dk_29 (dkn dmcX3_makeRow (by decide +kernel))
theorem dX3_makeRow_25 : decode cX3_makeRow 25 = .ok (.bipush 16, 2) := dk_16 (a := 16) (dkn dmcX3_makeRow (by decide +kernel)) rfl
theorem dX3_makeRow_27 : decode cX3_makeRow 27 = .ok (.if_icmp .gt 12, 3) := dk_163 (a := 0) (b := 12) (dkn dmcX3_makeRow (by decide +kernel)) rfl
theorem dX3_makeRow_30 : decode cX3_makeRow 30 = .ok (.aload_n 0, 1) := dk_42 (dkn dmcX3_makeRow (by decide +kernel))
theorem dX3_makeRow_31 : decode cX3_makeRow 31 = .ok (.getfield 60, 3) := dk_180 (a := 0) (b := 60) (dkn dmcX3_makeRow (by decide +kernel)) rfl
theorem dX3_makeRow_34 : decode cX3_makeRow 34 = .ok (.bipush 12, 2) := dk_16 (a := 12) (dkn dmcX3_makeRow (by decide +kernel)) rfl
theorem dX3_makeRow_36 : decode cX3_makeRow 36 = .ok (.if_icmp .lt 5, 3) := dk_161 (a := 0) (b := 5) (dkn dmcX3_makeRow (by decide +kernel)) rfl
theorem dX3_makeRow_39 : decode cX3_makeRow 39 = .ok (.iconst 3, 1) := dk_6 (dkn dmcX3_makeRow (by decide +kernel))
theorem dX3_makeRow_40 : decode cX3_makeRow 40 = .ok (.ireturn, 1) := dk_172 (dkn dmcX3_makeRow (by decide +kernel))
theorem dX3_makeRow_41 : decode cX3_makeRow 41 = .ok (.iconst 0, 1) := dk_3 (dkn dmcX3_makeRow (by decide +kernel))
theorem dX3_makeRow_42 : decode cX3_makeRow 42 = .ok (.istore 4, 2) := dk_54 (dkn dmcX3_makeRow (by decide +kernel))
theorem dX3_makeRow_44 : decode cX3_makeRow 44 = .ok (.iload 4, 2) := dk_21 (dkn dmcX3_makeRow (by decide +kernel))
theorem dX3_makeRow_46 : decode cX3_makeRow 46 = .ok (.iload_n 3, 1) := dk_29 (dkn dmcX3_makeRow (by decide +kernel))
theorem dX3_makeRow_47 : decode cX3_makeRow 47 = .ok (.if_icmp .ge 25, 3) := dk_162 (a := 0) (b := 25) (dkn dmcX3_makeRow (by decide +kernel)) rfl
theorem dX3_makeRow_50 : decode cX3_makeRow 50 = .ok (.aload_n 0, 1) := dk_42 (dkn dmcX3_makeRow (by decide +kernel))
theorem dX3_makeRow_51 : decode cX3_makeRow 51 = .ok (.getfield 36, 3) := dk_180 (a := 0) (b := 36) (dkn dmcX3_makeRow (by decide +kernel)) rfl
theorem dX3_makeRow_54 : decode cX3_makeRow 54 = .ok (.aload_n 0, 1) := dk_42 (dkn dmcX3_makeRow (by decide +kernel))
theorem dX3_makeRow_55 : decode cX3_makeRow 55 = .ok (.getfield 60, 3) := dk_180 (a := 0) (b := 60) (dkn dmcX3_makeRow (by decide +kernel)) rfl
theorem dX3_makeRow_58 : decode cX3_makeRow 58 = .ok (.bipush 16, 2) := dk_16 (a := 16) (dkn dmcX3_makeRow (by decide +kernel)) rfl
theorem dX3_makeRow_60 : decode cX3_makeRow 60 = .ok (.imul, 1) := dk_104 (dkn dmcX3_makeRow (by decide +kernel))
theorem dX3_makeRow_61 : decode cX3_makeRow 61 = .ok (.iload 4, 2) := dk_21 (dkn dmcX3_makeRow (by decide +kernel))
theorem dX3_makeRow_63 : decode cX3_makeRow 63 = .ok (.iadd, 1) := dk_96 (dkn dmcX3_makeRow (by decide +kernel))
theorem dX3_makeRow_64 : decode cX3_makeRow 64 = .ok (.iconst 0, 1) := dk_3 (dkn dmcX3_makeRow (by decide +kernel))
theorem dX3_makeRow_65 : decode cX3_makeRow 65 = .ok (.iastore, 1) := dk_79 (dkn dmcX3_makeRow (by decide +kernel))
theorem dX3_makeRow_66 : decode cX3_makeRow 66 = .ok (.iinc 4 1, 3) := dk_132 (b := 1) (dkn dmcX3_makeRow (by decide +kernel)) rfl
theorem dX3_makeRow_69 : decode cX3_makeRow 69 = .ok (.goto (-25), 3) := dk_167 (a := 255) (b := 231) (dkn dmcX3_makeRow (by decide +kernel)) rfl
theorem dX3_makeRow_72 : decode cX3_makeRow 72 = .ok (.aload_n 0, 1) := dk_42 (dkn dmcX3_makeRow (by decide +kernel))
theorem dX3_makeRow_73 : decode cX3_makeRow 73 = .ok (.iload_n 1, 1) := dk_27 (dkn dmcX3_makeRow (by decide +kernel))
theorem dX3_makeRow_74 : decode cX3_makeRow 74 = .ok (.iconst 1, 1) := dk_4 (dkn dmcX3_makeRow (by decide +kernel))
theorem dX3_makeRow_75 : decode cX3_makeRow 75 = .ok (.iload_n 3, 1) := dk_29 (dkn dmcX3_makeRow (by decide +kernel))
theorem dX3_makeRow_76 : decode cX3_makeRow 76 = .ok (.invokevirtual 193, 3) := dk_182 (a := 0) (b := 193) (dkn dmcX3_makeRow (by decide +kernel)) rfl
theorem dX3_makeRow_79 : decode cX3_makeRow 79 = .ok (.ireturn, 1) := dk_172 (dkn dmcX3_makeRow (by decide +kernel))
def dncX3_makeLock : Nat := 0xacc100b603050400a7060700991c1b2aac060500a10c103c00b42a
theorem dmcX3_makeLock : dkc dncX3_makeLock 27 cX3_makeLock.data.toList 0 = true := by decide +kernel
theorem dX3_makeLock_0 : decode cX3_makeLock 0 = .ok (.aload_n 0, 1) := dk_42 (dkn dmcX3_makeLock (by decide +kernel))
theorem dX3_makeLock_1 : decode cX3_makeLock 1 = .ok (.getfield 60, 3) := dk_180 (a := 0) (b := 60) (dkn dmcX3_makeLock (by decide +kernel)) rfl
theorem dX3_makeLock_4 : decode cX3_makeLock 4 = .ok (.bipush 12, 2) := dk_16 (a := 12) (dkn dmcX3_makeLock (by decide +kernel)) rfl
theorem dX3_makeLock_6 : decode cX3_makeLock 6 = .ok (.if_icmp .lt 5, 3) := dk_161 (a := 0) (b := 5) (dkn dmcX3_makeLock (by decide +kernel)) rfl
theorem dX3_makeLock_9 : decode cX3_makeLock 9 = .ok (.iconst 3, 1) := dk_6 (dkn dmcX3_makeLock (by decide +kernel))
theorem dX3_makeLock_10 : decode cX3_makeLock 10 = .ok (.ireturn, 1) := dk_172 (dkn dmcX3_makeLock (by decide +kernel))
theorem dX3_makeLock_11 : decode cX3_makeLock 11 = .ok (.aload_n 0, 1) := dk_42 (dkn dmcX3_makeLock (by decide +kernel))
theorem dX3_makeLock_12 : decode cX3_makeLock 12 = .ok (.iload_n 1, 1) := dk_27 (dkn dmcX3_makeLock (by decide +kernel))
theorem dX3_makeLock_13 : decode cX3_makeLock 13 = .ok (.iload_n 2, 1) := dk_28 (dkn dmcX3_makeLock (by decide +kernel))
theorem dX3_makeLock_14 : decode cX3_makeLock 14 = .ok (.ifCond .eq 7, 3) := dk_153 (a := 0) (b := 7) (dkn dmcX3_makeLock (by decide +kernel)) rfl
theorem dX3_makeLock_17 : decode cX3_makeLock 17 = .ok (.iconst 3, 1) := dk_6 (dkn dmcX3_makeLock (by decide +kernel))
theorem dX3_makeLock_18 : decode cX3_makeLock 18 = .ok (.goto 4, 3) := dk_167 (a := 0) (b := 4) (dkn dmcX3_makeLock (by decide +kernel)) rfl
theorem dX3_makeLock_21 : decode cX3_makeLock 21 = .ok (.iconst 2, 1) := dk_5 (dkn dmcX3_makeLock (by decide +kernel))
theorem dX3_makeLock_22 : decode cX3_makeLock 22 = .ok (.iconst 0, 1) := dk_3 (dkn dmcX3_makeLock (by decide +kernel))
theorem dX3_makeLock_23 : decode cX3_makeLock 23 = .ok (.invokevirtual 193, 3) := dk_182 (a := 0) (b := 193) (dkn dmcX3_makeLock (by decide +kernel)) rfl
theorem dX3_makeLock_26 : decode cX3_makeLock 26 = .ok (.ireturn, 1) := dk_172 (dkn dmcX3_makeLock (by decide +kernel))
def dncX3_readRow : Nat := 0xac8700b62e60051568101004152400b42a031b2a7200b560051560681410041564102aac0705009ac400b6051504152a05362e1d0f00b42a04362e1c0f00b42aac040500992e1d0900b42a0c00a0042e1c0900b42a
theorem dmcX3_readRow : dkc dncX3_readRow 85 cX3_readRow.data.toList 0 = true := by decide +kernel
theorem dX3_readRow_0 : decode cX3_readRow 0 = .ok (.aload_n 0, 1) := dk_42 (dkn dmcX3_readRow (by decide +kernel))
theorem dX3_readRow_1 : decode cX3_readRow 1 = .ok (.getfield 9, 3) := dk_180 (a := 0) (b := 9) (dkn dmcX3_readRow (by decide +kernel)) rfl
theorem dX3_readRow_4 : decode cX3_readRow 4 = .ok (.iload_n 2, 1) := dk_28 (dkn dmcX3_readRow (by decide +kernel))
theorem dX3_readRow_5 : decode cX3_readRow 5 = .ok (.iaload, 1) := dk_46 (dkn dmcX3_readRow (by decide +kernel))
theorem dX3_readRow_6 : decode cX3_readRow 6 = .ok (.iconst 1, 1) := dk_4 (dkn dmcX3_readRow (by decide +kernel))
theorem dX3_readRow_7 : decode cX3_readRow 7 = .ok (.if_icmp .ne 12, 3) := dk_160 (a := 0) (b := 12) (dkn dmcX3_readRow (by decide +kernel)) rfl
theorem dX3_readRow_10 : decode cX3_readRow 10 = .ok (.aload_n 0, 1) := dk_42 (dkn dmcX3_readRow (by decide +kernel))
theorem dX3_readRow_11 : decode cX3_readRow 11 = .ok (.getfield 9, 3) := dk_180 (a := 0) (b := 9) (dkn dmcX3_readRow (by decide +kernel)) rfl
theorem dX3_readRow_14 : decode cX3_readRow 14 = .ok (.iload_n 3, 1) := dk_29 (dkn dmcX3_readRow (by decide +kernel))
theorem dX3_readRow_15 : decode cX3_readRow 15 = .ok (.iaload, 1) := dk_46 (dkn dmcX3_readRow (by decide +kernel))
theorem dX3_readRow_16 : decode cX3_readRow 16 = .ok (.ifCond .eq 5, 3) := dk_153 (a := 0) (b := 5) (dkn dmcX3_readRow (by decide +kernel)) rfl
theorem dX3_readRow_19 : decode cX3_readRow 19 = .ok (.iconst 1, 1) := dk_4 (dkn dmcX3_readRow (by decide +kernel))
theorem dX3_readRow_20 : decode cX3_readRow 20 = .ok (.ireturn, 1) := dk_172 (dkn dmcX3_readRow (by decide +kernel))
theorem dX3_readRow_21 : decode cX3_readRow 21 = .ok (.aload_n 0, 1) := dk_42 (dkn dmcX3_readRow (by decide +kernel))
theorem dX3_readRow_22 : decode cX3_readRow 22 = .ok (.getfield 15, 3) := dk_180 (a := 0) (b := 15) (dkn dmcX3_readRow (by decide +kernel)) rfl
theorem dX3_readRow_25 : decode cX3_readRow 25 = .ok (.iload_n 2, 1) := dk_28 (dkn dmcX3_readRow (by decide +kernel))
theorem dX3_readRow_26 : decode cX3_readRow 26 = .ok (.iaload, 1) := dk_46 (dkn dmcX3_readRow (by decide +kernel))
theorem dX3_readRow_27 : decode cX3_readRow 27 = .ok (.istore 4, 2) := dk_54 (dkn dmcX3_readRow (by decide +kernel))
theorem dX3_readRow_29 : decode cX3_readRow 29 = .ok (.aload_n 0, 1) := dk_42 (dkn dmcX3_readRow (by decide +kernel))
theorem dX3_readRow_30 : decode cX3_readRow 30 = .ok (.getfield 15, 3) := dk_180 (a := 0) (b := 15) (dkn dmcX3_readRow (by decide +kernel)) rfl
theorem dX3_readRow_33 : decode cX3_readRow 33 = .ok (.iload_n 3, 1) := dk_29 (dkn dmcX3_readRow (by decide +kernel))
theorem dX3_readRow_34 : decode cX3_readRow 34 = .ok (.iaload, 1) := dk_46 (dkn dmcX3_readRow (by decide +kernel))
theorem dX3_readRow_35 : decode cX3_readRow 35 = .ok (.istore 5, 2) := dk_54 (dkn dmcX3_readRow (by decide +kernel))
theorem dX3_readRow_37 : decode cX3_readRow 37 = .ok (.aload_n 0, 1) := dk_42 (dkn dmcX3_readRow (by decide +kernel))
theorem dX3_readRow_38 : decode cX3_readRow 38 = .ok (.iload 4, 2) := dk_21 (dkn dmcX3_readRow (by decide +kernel))
theorem dX3_readRow_40 : decode cX3_readRow 40 = .ok (.iload 5, 2) := dk_21 (dkn dmcX3_readRow (by decide +kernel))
theorem dX3_readRow_42 : decode cX3_readRow 42 = .ok (.invokevirtual 196, 3) := dk_182 (a := 0) (b := 196) (dkn dmcX3_readRow (by decide +kernel)) rfl
theorem dX3_readRow_45 : decode cX3_readRow 45 = .ok (.ifCond .ne 5, 3) := dk_154 (a := 0) (b := 5) (dkn dmcX3_readRow (by decide +kernel)) rfl
theorem dX3_readRow_48 : decode cX3_readRow 48 = .ok (.iconst 4, 1) := dk_7 (dkn dmcX3_readRow (by decide +kernel))
theorem dX3_readRow_49 : decode cX3_readRow 49 = .ok (.ireturn, 1) := dk_172 (dkn dmcX3_readRow (by decide +kernel))
theorem dX3_readRow_50 : decode cX3_readRow 50 = .ok (.aload_n 0, 1) := dk_42 (dkn dmcX3_readRow (by decide +kernel))
theorem dX3_readRow_51 : decode cX3_readRow 51 = .ok (.bipush 100, 2) := dk_16 (a := 100) (dkn dmcX3_readRow (by decide +kernel)) rfl
theorem dX3_readRow_53 : decode cX3_readRow 53 = .ok (.iload 4, 2) := dk_21 (dkn dmcX3_readRow (by decide +kernel))
theorem dX3_readRow_55 : decode cX3_readRow 55 = .ok (.bipush 20, 2) := dk_16 (a := 20) (dkn dmcX3_readRow (by decide +kernel)) rfl
theorem dX3_readRow_57 : decode cX3_readRow 57 = .ok (.imul, 1) := dk_104 (dkn dmcX3_readRow (by decide +kernel))
theorem dX3_readRow_58 : decode cX3_readRow 58 = .ok (.iadd, 1) := dk_96 (dkn dmcX3_readRow (by decide +kernel))
theorem dX3_readRow_59 : decode cX3_readRow 59 = .ok (.iload 5, 2) := dk_21 (dkn dmcX3_readRow (by decide +kernel))
theorem dX3_readRow_61 : decode cX3_readRow 61 = .ok (.iadd, 1) := dk_96 (dkn dmcX3_readRow (by decide +kernel))
theorem dX3_readRow_62 : decode cX3_readRow 62 = .ok (.putfield 114, 3) := dk_181 (a := 0) (b := 114) (dkn dmcX3_readRow (by decide +kernel)) rfl
theorem dX3_readRow_65 : decode cX3_readRow 65 = .ok (.aload_n 0, 1) := dk_42 (dkn dmcX3_readRow (by decide +kernel))
theorem dX3_readRow_66 : decode cX3_readRow 66 = .ok (.iload_n 1, 1) := dk_27 (dkn dmcX3_readRow (by decide +kernel))
theorem dX3_readRow_67 : decode cX3_readRow 67 = .ok (.iconst 0, 1) := dk_3 (dkn dmcX3_readRow (by decide +kernel))
theorem dX3_readRow_68 : decode cX3_readRow 68 = .ok (.aload_n 0, 1) := dk_42 (dkn dmcX3_readRow (by decide +kernel))
theorem dX3_readRow_69 : decode cX3_readRow 69 = .ok (.getfield 36, 3) := dk_180 (a := 0) (b := 36) (dkn dmcX3_readRow (by decide +kernel)) rfl
theorem dX3_readRow_72 : decode cX3_readRow 72 = .ok (.iload 4, 2) := dk_21 (dkn dmcX3_readRow (by decide +kernel))
theorem dX3_readRow_74 : decode cX3_readRow 74 = .ok (.bipush 16, 2) := dk_16 (a := 16) (dkn dmcX3_readRow (by decide +kernel)) rfl
theorem dX3_readRow_76 : decode cX3_readRow 76 = .ok (.imul, 1) := dk_104 (dkn dmcX3_readRow (by decide +kernel))
theorem dX3_readRow_77 : decode cX3_readRow 77 = .ok (.iload 5, 2) := dk_21 (dkn dmcX3_readRow (by decide +kernel))
theorem dX3_readRow_79 : decode cX3_readRow 79 = .ok (.iadd, 1) := dk_96 (dkn dmcX3_readRow (by decide +kernel))
theorem dX3_readRow_80 : decode cX3_readRow 80 = .ok (.iaload, 1) := dk_46 (dkn dmcX3_readRow (by decide +kernel))
theorem dX3_readRow_81 : decode cX3_readRow 81 = .ok (.invokevirtual 135, 3) := dk_182 (a := 0) (b := 135) (dkn dmcX3_readRow (by decide +kernel)) rfl
theorem dX3_readRow_84 : decode cX3_readRow 84 = .ok (.ireturn, 1) := dk_172 (dkn dmcX3_readRow (by decide +kernel))
def dncX3_writeRow : Nat := 0xac034f2e1d0f00b42a60051568101004152400b42a7500b560051560681410041564102aac0705009ac400b6051504152a05362e1c0f00b42a04362e1b0f00b42aac0405009abe00b61d1c2a0c00a0042e1b0900b42a
theorem dmcX3_writeRow : dkc dncX3_writeRow 86 cX3_writeRow.data.toList 0 = true := by decide +kernel
theorem dX3_writeRow_0 : decode cX3_writeRow 0 = .ok (.aload_n 0, 1) := dk_42 (dkn dmcX3_writeRow (by decide +kernel))
theorem dX3_writeRow_1 : decode cX3_writeRow 1 = .ok (.getfield 9, 3) := dk_180 (a := 0) (b := 9) (dkn dmcX3_writeRow (by decide +kernel)) rfl
theorem dX3_writeRow_4 : decode cX3_writeRow 4 = .ok (.iload_n 1, 1) := dk_27 (dkn dmcX3_writeRow (by decide +kernel))
theorem dX3_writeRow_5 : decode cX3_writeRow 5 = .ok (.iaload, 1) := dk_46 (dkn dmcX3_writeRow (by decide +kernel))
theorem dX3_writeRow_6 : decode cX3_writeRow 6 = .ok (.iconst 1, 1) := dk_4 (dkn dmcX3_writeRow (by decide +kernel))
theorem dX3_writeRow_7 : decode cX3_writeRow 7 = .ok (.if_icmp .ne 12, 3) := dk_160 (a := 0) (b := 12) (dkn dmcX3_writeRow (by decide +kernel)) rfl
theorem dX3_writeRow_10 : decode cX3_writeRow 10 = .ok (.aload_n 0, 1) := dk_42 (dkn dmcX3_writeRow (by decide +kernel))
theorem dX3_writeRow_11 : decode cX3_writeRow 11 = .ok (.iload_n 2, 1) := dk_28 (dkn dmcX3_writeRow (by decide +kernel))
theorem dX3_writeRow_12 : decode cX3_writeRow 12 = .ok (.iload_n 3, 1) := dk_29 (dkn dmcX3_writeRow (by decide +kernel))
theorem dX3_writeRow_13 : decode cX3_writeRow 13 = .ok (.invokevirtual 190, 3) := dk_182 (a := 0) (b := 190) (dkn dmcX3_writeRow (by decide +kernel)) rfl
theorem dX3_writeRow_16 : decode cX3_writeRow 16 = .ok (.ifCond .ne 5, 3) := dk_154 (a := 0) (b := 5) (dkn dmcX3_writeRow (by decide +kernel)) rfl
theorem dX3_writeRow_19 : decode cX3_writeRow 19 = .ok (.iconst 1, 1) := dk_4 (dkn dmcX3_writeRow (by decide +kernel))
theorem dX3_writeRow_20 : decode cX3_writeRow 20 = .ok (.ireturn, 1) := dk_172 (dkn dmcX3_writeRow (by decide +kernel))
theorem dX3_writeRow_21 : decode cX3_writeRow 21 = .ok (.aload_n 0, 1) := dk_42 (dkn dmcX3_writeRow (by decide +kernel))
theorem dX3_writeRow_22 : decode cX3_writeRow 22 = .ok (.getfield 15, 3) := dk_180 (a := 0) (b := 15) (dkn dmcX3_writeRow (by decide +kernel)) rfl
theorem dX3_writeRow_25 : decode cX3_writeRow 25 = .ok (.iload_n 1, 1) := dk_27 (dkn dmcX3_writeRow (by decide +kernel))
theorem dX3_writeRow_26 : decode cX3_writeRow 26 = .ok (.iaload, 1) := dk_46 (dkn dmcX3_writeRow (by decide +kernel))
theorem dX3_writeRow_27 : decode cX3_writeRow 27 = .ok (.istore 4, 2) := dk_54 (dkn dmcX3_writeRow (by decide +kernel))
theorem dX3_writeRow_29 : decode cX3_writeRow 29 = .ok (.aload_n 0, 1) := dk_42 (dkn dmcX3_writeRow (by decide +kernel))
theorem dX3_writeRow_30 : decode cX3_writeRow 30 = .ok (.getfield 15, 3) := dk_180 (a := 0) (b := 15) (dkn dmcX3_writeRow (by decide +kernel)) rfl
theorem dX3_writeRow_33 : decode cX3_writeRow 33 = .ok (.iload_n 2, 1) := dk_28 (dkn dmcX3_writeRow (by decide +kernel))
theorem dX3_writeRow_34 : decode cX3_writeRow 34 = .ok (.iaload, 1) := dk_46 (dkn dmcX3_writeRow (by decide +kernel))
theorem dX3_writeRow_35 : decode cX3_writeRow 35 = .ok (.istore 5, 2) := dk_54 (dkn dmcX3_writeRow (by decide +kernel))
theorem dX3_writeRow_37 : decode cX3_writeRow 37 = .ok (.aload_n 0, 1) := dk_42 (dkn dmcX3_writeRow (by decide +kernel))
theorem dX3_writeRow_38 : decode cX3_writeRow 38 = .ok (.iload 4, 2) := dk_21 (dkn dmcX3_writeRow (by decide +kernel))
theorem dX3_writeRow_40 : decode cX3_writeRow 40 = .ok (.iload 5, 2) := dk_21 (dkn dmcX3_writeRow (by decide +kernel))
theorem dX3_writeRow_42 : decode cX3_writeRow 42 = .ok (.invokevirtual 196, 3) := dk_182 (a := 0) (b := 196) (dkn dmcX3_writeRow (by decide +kernel)) rfl
theorem dX3_writeRow_45 : decode cX3_writeRow 45 = .ok (.ifCond .ne 5, 3) := dk_154 (a := 0) (b := 5) (dkn dmcX3_writeRow (by decide +kernel)) rfl
theorem dX3_writeRow_48 : decode cX3_writeRow 48 = .ok (.iconst 4, 1) := dk_7 (dkn dmcX3_writeRow (by decide +kernel))
theorem dX3_writeRow_49 : decode cX3_writeRow 49 = .ok (.ireturn, 1) := dk_172 (dkn dmcX3_writeRow (by decide +kernel))
theorem dX3_writeRow_50 : decode cX3_writeRow 50 = .ok (.aload_n 0, 1) := dk_42 (dkn dmcX3_writeRow (by decide +kernel))
theorem dX3_writeRow_51 : decode cX3_writeRow 51 = .ok (.bipush 100, 2) := dk_16 (a := 100) (dkn dmcX3_writeRow (by decide +kernel)) rfl
theorem dX3_writeRow_53 : decode cX3_writeRow 53 = .ok (.iload 4, 2) := dk_21 (dkn dmcX3_writeRow (by decide +kernel))
theorem dX3_writeRow_55 : decode cX3_writeRow 55 = .ok (.bipush 20, 2) := dk_16 (a := 20) (dkn dmcX3_writeRow (by decide +kernel)) rfl
theorem dX3_writeRow_57 : decode cX3_writeRow 57 = .ok (.imul, 1) := dk_104 (dkn dmcX3_writeRow (by decide +kernel))
theorem dX3_writeRow_58 : decode cX3_writeRow 58 = .ok (.iadd, 1) := dk_96 (dkn dmcX3_writeRow (by decide +kernel))
theorem dX3_writeRow_59 : decode cX3_writeRow 59 = .ok (.iload 5, 2) := dk_21 (dkn dmcX3_writeRow (by decide +kernel))
theorem dX3_writeRow_61 : decode cX3_writeRow 61 = .ok (.iadd, 1) := dk_96 (dkn dmcX3_writeRow (by decide +kernel))
theorem dX3_writeRow_62 : decode cX3_writeRow 62 = .ok (.putfield 117, 3) := dk_181 (a := 0) (b := 117) (dkn dmcX3_writeRow (by decide +kernel)) rfl
theorem dX3_writeRow_65 : decode cX3_writeRow 65 = .ok (.aload_n 0, 1) := dk_42 (dkn dmcX3_writeRow (by decide +kernel))
theorem dX3_writeRow_66 : decode cX3_writeRow 66 = .ok (.getfield 36, 3) := dk_180 (a := 0) (b := 36) (dkn dmcX3_writeRow (by decide +kernel)) rfl
theorem dX3_writeRow_69 : decode cX3_writeRow 69 = .ok (.iload 4, 2) := dk_21 (dkn dmcX3_writeRow (by decide +kernel))
theorem dX3_writeRow_71 : decode cX3_writeRow 71 = .ok (.bipush 16, 2) := dk_16 (a := 16) (dkn dmcX3_writeRow (by decide +kernel)) rfl
theorem dX3_writeRow_73 : decode cX3_writeRow 73 = .ok (.imul, 1) := dk_104 (dkn dmcX3_writeRow (by decide +kernel))
theorem dX3_writeRow_74 : decode cX3_writeRow 74 = .ok (.iload 5, 2) := dk_21 (dkn dmcX3_writeRow (by decide +kernel))
theorem dX3_writeRow_76 : decode cX3_writeRow 76 = .ok (.iadd, 1) := dk_96 (dkn dmcX3_writeRow (by decide +kernel))
theorem dX3_writeRow_77 : decode cX3_writeRow 77 = .ok (.aload_n 0, 1) := dk_42 (dkn dmcX3_writeRow (by decide +kernel))
theorem dX3_writeRow_78 : decode cX3_writeRow 78 = .ok (.getfield 15, 3) := dk_180 (a := 0) (b := 15) (dkn dmcX3_writeRow (by decide +kernel)) rfl
theorem dX3_writeRow_81 : decode cX3_writeRow 81 = .ok (.iload_n 3, 1) := dk_29 (dkn dmcX3_writeRow (by decide +kernel))
theorem dX3_writeRow_82 : decode cX3_writeRow 82 = .ok (.iaload, 1) := dk_46 (dkn dmcX3_writeRow (by decide +kernel))
theorem dX3_writeRow_83 : decode cX3_writeRow 83 = .ok (.iastore, 1) := dk_79 (dkn dmcX3_writeRow (by decide +kernel))
theorem dX3_writeRow_84 : decode cX3_writeRow 84 = .ok (.iconst 0, 1) := dk_3 (dkn dmcX3_writeRow (by decide +kernel))
theorem dX3_writeRow_85 : decode cX3_writeRow 85 = .ok (.ireturn, 1) := dk_172 (dkn dmcX3_writeRow (by decide +kernel))
def dncX3_takeLock : Nat := 0xacc700b61d1b2aac080500a01b2e1d2100b42aac0405009c1d3e5800b61c2a
theorem dmcX3_takeLock : dkc dncX3_takeLock 31 cX3_takeLock.data.toList 0 = true := by decide +kernel
theorem dX3_takeLock_0 : decode cX3_takeLock 0 = .ok (.aload_n 0, 1) := dk_42 (dkn dmcX3_takeLock (by decide +kernel))
theorem dX3_takeLock_1 : decode cX3_takeLock 1 = .ok (.iload_n 2, 1) := dk_28 (dkn dmcX3_takeLock (by decide +kernel))
theorem dX3_takeLock_2 : decode cX3_takeLock 2 = .ok (.invokevirtual 88, 3) := dk_182 (a := 0) (b := 88) (dkn dmcX3_takeLock (by decide +kernel)) rfl
theorem dX3_takeLock_5 : decode cX3_takeLock 5 = .ok (.istore_n 3, 1) := dk_62 (dkn dmcX3_takeLock (by decide +kernel))
theorem dX3_takeLock_6 : decode cX3_takeLock 6 = .ok (.iload_n 3, 1) := dk_29 (dkn dmcX3_takeLock (by decide +kernel))
theorem dX3_takeLock_7 : decode cX3_takeLock 7 = .ok (.ifCond .ge 5, 3) := dk_156 (a := 0) (b := 5) (dkn dmcX3_takeLock (by decide +kernel)) rfl
theorem dX3_takeLock_10 : decode cX3_takeLock 10 = .ok (.iconst 1, 1) := dk_4 (dkn dmcX3_takeLock (by decide +kernel))
theorem dX3_takeLock_11 : decode cX3_takeLock 11 = .ok (.ireturn, 1) := dk_172 (dkn dmcX3_takeLock (by decide +kernel))
theorem dX3_takeLock_12 : decode cX3_takeLock 12 = .ok (.aload_n 0, 1) := dk_42 (dkn dmcX3_takeLock (by decide +kernel))
theorem dX3_takeLock_13 : decode cX3_takeLock 13 = .ok (.getfield 33, 3) := dk_180 (a := 0) (b := 33) (dkn dmcX3_takeLock (by decide +kernel)) rfl
theorem dX3_takeLock_16 : decode cX3_takeLock 16 = .ok (.iload_n 3, 1) := dk_29 (dkn dmcX3_takeLock (by decide +kernel))
theorem dX3_takeLock_17 : decode cX3_takeLock 17 = .ok (.iaload, 1) := dk_46 (dkn dmcX3_takeLock (by decide +kernel))
theorem dX3_takeLock_18 : decode cX3_takeLock 18 = .ok (.iload_n 1, 1) := dk_27 (dkn dmcX3_takeLock (by decide +kernel))
theorem dX3_takeLock_19 : decode cX3_takeLock 19 = .ok (.if_icmp .ne 5, 3) := dk_160 (a := 0) (b := 5) (dkn dmcX3_takeLock (by decide +kernel)) rfl
theorem dX3_takeLock_22 : decode cX3_takeLock 22 = .ok (.iconst 5, 1) := dk_8 (dkn dmcX3_takeLock (by decide +kernel))
theorem dX3_takeLock_23 : decode cX3_takeLock 23 = .ok (.ireturn, 1) := dk_172 (dkn dmcX3_takeLock (by decide +kernel))
theorem dX3_takeLock_24 : decode cX3_takeLock 24 = .ok (.aload_n 0, 1) := dk_42 (dkn dmcX3_takeLock (by decide +kernel))
theorem dX3_takeLock_25 : decode cX3_takeLock 25 = .ok (.iload_n 1, 1) := dk_27 (dkn dmcX3_takeLock (by decide +kernel))
theorem dX3_takeLock_26 : decode cX3_takeLock 26 = .ok (.iload_n 3, 1) := dk_29 (dkn dmcX3_takeLock (by decide +kernel))
theorem dX3_takeLock_27 : decode cX3_takeLock 27 = .ok (.invokevirtual 199, 3) := dk_182 (a := 0) (b := 199) (dkn dmcX3_takeLock (by decide +kernel)) rfl
theorem dX3_takeLock_30 : decode cX3_takeLock 30 = .ok (.ireturn, 1) := dk_172 (dkn dmcX3_takeLock (by decide +kernel))
theorem dX3_own_0 : decode cX3_own 0 = .ok (.aload_n 0, 1) := dk_42 (by decide +kernel)
theorem dX3_own_1 : decode cX3_own 1 = .ok (.getfield 33, 3) := dk_180 (a := 0) (b := 33) (by decide +kernel) rfl
theorem dX3_own_4 : decode cX3_own 4 = .ok (.iload_n 2, 1) := dk_28 (by decide +kernel)
theorem dX3_own_5 : decode cX3_own 5 = .ok (.iload_n 1, 1) := dk_27 (by decide +kernel)
theorem dX3_own_6 : decode cX3_own 6 = .ok (.iastore, 1) := dk_79 (by decide +kernel)
theorem dX3_own_7 : decode cX3_own 7 = .ok (.aload_n 0, 1) := dk_42 (by decide +kernel)
theorem dX3_own_8 : decode cX3_own 8 = .ok (.iconst 1, 1) := dk_4 (by decide +kernel)
theorem dX3_own_9 : decode cX3_own 9 = .ok (.putfield 120, 3) := dk_181 (a := 0) (b := 120) (by decide +kernel) rfl
theorem dX3_own_12 : decode cX3_own 12 = .ok (.aload_n 0, 1) := dk_42 (by decide +kernel)
theorem dX3_own_13 : decode cX3_own 13 = .ok (.iload_n 2, 1) := dk_28 (by decide +kernel)
theorem dX3_own_14 : decode cX3_own 14 = .ok (.putfield 123, 3) := dk_181 (a := 0) (b := 123) (by decide +kernel) rfl
theorem dX3_own_17 : decode cX3_own 17 = .ok (.iconst 0, 1) := dk_3 (by decide +kernel)
theorem dX3_own_18 : decode cX3_own 18 = .ok (.ireturn, 1) := dk_172 (by decide +kernel)
theorem dX3_free_0 : decode cX3_free 0 = .ok (.aload_n 0, 1) := dk_42 (by decide +kernel)
theorem dX3_free_1 : decode cX3_free 1 = .ok (.getfield 33, 3) := dk_180 (a := 0) (b := 33) (by decide +kernel) rfl
theorem dX3_free_4 : decode cX3_free 4 = .ok (.iload_n 1, 1) := dk_27 (by decide +kernel)
theorem dX3_free_5 : decode cX3_free 5 = .ok (.bipush (-2), 2) := dk_16 (a := 254) (by decide +kernel) rfl
theorem dX3_free_7 : decode cX3_free 7 = .ok (.iastore, 1) := dk_79 (by decide +kernel)
theorem dX3_free_8 : decode cX3_free 8 = .ok (.aload_n 0, 1) := dk_42 (by decide +kernel)
theorem dX3_free_9 : decode cX3_free 9 = .ok (.iconst 2, 1) := dk_5 (by decide +kernel)
theorem dX3_free_10 : decode cX3_free 10 = .ok (.putfield 120, 3) := dk_181 (a := 0) (b := 120) (by decide +kernel) rfl
theorem dX3_free_13 : decode cX3_free 13 = .ok (.aload_n 0, 1) := dk_42 (by decide +kernel)
theorem dX3_free_14 : decode cX3_free 14 = .ok (.iload_n 1, 1) := dk_27 (by decide +kernel)
theorem dX3_free_15 : decode cX3_free 15 = .ok (.putfield 123, 3) := dk_181 (a := 0) (b := 123) (by decide +kernel) rfl
theorem dX3_free_18 : decode cX3_free 18 = .ok (.iconst 0, 1) := dk_3 (by decide +kernel)
theorem dX3_free_19 : decode cX3_free 19 = .ok (.ireturn, 1) := dk_172 (by decide +kernel)
def dncX3_leaveLock : Nat := 0xacca00b61d2aac061006009f1b2e1d2100b42aac0405009c1d3e5800b61c2a
theorem dmcX3_leaveLock : dkc dncX3_leaveLock 31 cX3_leaveLock.data.toList 0 = true := by decide +kernel
theorem dX3_leaveLock_0 : decode cX3_leaveLock 0 = .ok (.aload_n 0, 1) := dk_42 (dkn dmcX3_leaveLock (by decide +kernel))
theorem dX3_leaveLock_1 : decode cX3_leaveLock 1 = .ok (.iload_n 2, 1) := dk_28 (dkn dmcX3_leaveLock (by decide +kernel))
theorem dX3_leaveLock_2 : decode cX3_leaveLock 2 = .ok (.invokevirtual 88, 3) := dk_182 (a := 0) (b := 88) (dkn dmcX3_leaveLock (by decide +kernel)) rfl
theorem dX3_leaveLock_5 : decode cX3_leaveLock 5 = .ok (.istore_n 3, 1) := dk_62 (dkn dmcX3_leaveLock (by decide +kernel))
theorem dX3_leaveLock_6 : decode cX3_leaveLock 6 = .ok (.iload_n 3, 1) := dk_29 (dkn dmcX3_leaveLock (by decide +kernel))
theorem dX3_leaveLock_7 : decode cX3_leaveLock 7 = .ok (.ifCond .ge 5, 3) := dk_156 (a := 0) (b := 5) (dkn dmcX3_leaveLock (by decide +kernel)) rfl
theorem dX3_leaveLock_10 : decode cX3_leaveLock 10 = .ok (.iconst 1, 1) := dk_4 (dkn dmcX3_leaveLock (by decide +kernel))
theorem dX3_leaveLock_11 : decode cX3_leaveLock 11 = .ok (.ireturn, 1) := dk_172 (dkn dmcX3_leaveLock (by decide +kernel))
theorem dX3_leaveLock_12 : decode cX3_leaveLock 12 = .ok (.aload_n 0, 1) := dk_42 (dkn dmcX3_leaveLock (by decide +kernel))
theorem dX3_leaveLock_13 : decode cX3_leaveLock 13 = .ok (.getfield 33, 3) := dk_180 (a := 0) (b := 33) (dkn dmcX3_leaveLock (by decide +kernel)) rfl
theorem dX3_leaveLock_16 : decode cX3_leaveLock 16 = .ok (.iload_n 3, 1) := dk_29 (dkn dmcX3_leaveLock (by decide +kernel))
theorem dX3_leaveLock_17 : decode cX3_leaveLock 17 = .ok (.iaload, 1) := dk_46 (dkn dmcX3_leaveLock (by decide +kernel))
theorem dX3_leaveLock_18 : decode cX3_leaveLock 18 = .ok (.iload_n 1, 1) := dk_27 (dkn dmcX3_leaveLock (by decide +kernel))
theorem dX3_leaveLock_19 : decode cX3_leaveLock 19 = .ok (.if_icmp .eq 6, 3) := dk_159 (a := 0) (b := 6) (dkn dmcX3_leaveLock (by decide +kernel)) rfl
theorem dX3_leaveLock_22 : decode cX3_leaveLock 22 = .ok (.bipush 6, 2) := dk_16 (a := 6) (dkn dmcX3_leaveLock (by decide +kernel)) rfl
theorem dX3_leaveLock_24 : decode cX3_leaveLock 24 = .ok (.ireturn, 1) := dk_172 (dkn dmcX3_leaveLock (by decide +kernel))
theorem dX3_leaveLock_25 : decode cX3_leaveLock 25 = .ok (.aload_n 0, 1) := dk_42 (dkn dmcX3_leaveLock (by decide +kernel))
theorem dX3_leaveLock_26 : decode cX3_leaveLock 26 = .ok (.iload_n 3, 1) := dk_29 (dkn dmcX3_leaveLock (by decide +kernel))
theorem dX3_leaveLock_27 : decode cX3_leaveLock 27 = .ok (.invokevirtual 202, 3) := dk_182 (a := 0) (b := 202) (dkn dmcX3_leaveLock (by decide +kernel)) rfl
theorem dX3_leaveLock_30 : decode cX3_leaveLock 30 = .ok (.ireturn, 1) := dk_172 (dkn dmcX3_leaveLock (by decide +kernel))
def dncX3_lieDown : Nat := 0xacca00b61d2a7e00b52e1b1200b42a2a4f1d1b1800b42a4f051b1500b42aac061006009f1b2e1d2100b42aac0405009c1d3ecd00b61c2a
theorem dmcX3_lieDown : dkc dncX3_lieDown 55 cX3_lieDown.data.toList 0 = true := by decide +kernel
theorem dX3_lieDown_0 : decode cX3_lieDown 0 = .ok (.aload_n 0, 1) := dk_42 (dkn dmcX3_lieDown (by decide +kernel))
theorem dX3_lieDown_1 : decode cX3_lieDown 1 = .ok (.iload_n 2, 1) := dk_28 (dkn dmcX3_lieDown (by decide +kernel))
theorem dX3_lieDown_2 : decode cX3_lieDown 2 = .ok (.invokevirtual 205, 3) := dk_182 (a := 0) (b := 205) (dkn dmcX3_lieDown (by decide +kernel)) rfl
theorem dX3_lieDown_5 : decode cX3_lieDown 5 = .ok (.istore_n 3, 1) := dk_62 (dkn dmcX3_lieDown (by decide +kernel))
theorem dX3_lieDown_6 : decode cX3_lieDown 6 = .ok (.iload_n 3, 1) := dk_29 (dkn dmcX3_lieDown (by decide +kernel))
theorem dX3_lieDown_7 : decode cX3_lieDown 7 = .ok (.ifCond .ge 5, 3) := dk_156 (a := 0) (b := 5) (dkn dmcX3_lieDown (by decide +kernel)) rfl
theorem dX3_lieDown_10 : decode cX3_lieDown 10 = .ok (.iconst 1, 1) := dk_4 (dkn dmcX3_lieDown (by decide +kernel))
theorem dX3_lieDown_11 : decode cX3_lieDown 11 = .ok (.ireturn, 1) := dk_172 (dkn dmcX3_lieDown (by decide +kernel))
theorem dX3_lieDown_12 : decode cX3_lieDown 12 = .ok (.aload_n 0, 1) := dk_42 (dkn dmcX3_lieDown (by decide +kernel))
theorem dX3_lieDown_13 : decode cX3_lieDown 13 = .ok (.getfield 33, 3) := dk_180 (a := 0) (b := 33) (dkn dmcX3_lieDown (by decide +kernel)) rfl
theorem dX3_lieDown_16 : decode cX3_lieDown 16 = .ok (.iload_n 3, 1) := dk_29 (dkn dmcX3_lieDown (by decide +kernel))
theorem dX3_lieDown_17 : decode cX3_lieDown 17 = .ok (.iaload, 1) := dk_46 (dkn dmcX3_lieDown (by decide +kernel))
theorem dX3_lieDown_18 : decode cX3_lieDown 18 = .ok (.iload_n 1, 1) := dk_27 (dkn dmcX3_lieDown (by decide +kernel))
theorem dX3_lieDown_19 : decode cX3_lieDown 19 = .ok (.if_icmp .eq 6, 3) := dk_159 (a := 0) (b := 6) (dkn dmcX3_lieDown (by decide +kernel)) rfl
theorem dX3_lieDown_22 : decode cX3_lieDown 22 = .ok (.bipush 6, 2) := dk_16 (a := 6) (dkn dmcX3_lieDown (by decide +kernel)) rfl
theorem dX3_lieDown_24 : decode cX3_lieDown 24 = .ok (.ireturn, 1) := dk_172 (dkn dmcX3_lieDown (by decide +kernel))
theorem dX3_lieDown_25 : decode cX3_lieDown 25 = .ok (.aload_n 0, 1) := dk_42 (dkn dmcX3_lieDown (by decide +kernel))
theorem dX3_lieDown_26 : decode cX3_lieDown 26 = .ok (.getfield 21, 3) := dk_180 (a := 0) (b := 21) (dkn dmcX3_lieDown (by decide +kernel)) rfl
theorem dX3_lieDown_29 : decode cX3_lieDown 29 = .ok (.iload_n 1, 1) := dk_27 (dkn dmcX3_lieDown (by decide +kernel))
theorem dX3_lieDown_30 : decode cX3_lieDown 30 = .ok (.iconst 2, 1) := dk_5 (dkn dmcX3_lieDown (by decide +kernel))
theorem dX3_lieDown_31 : decode cX3_lieDown 31 = .ok (.iastore, 1) := dk_79 (dkn dmcX3_lieDown (by decide +kernel))
theorem dX3_lieDown_32 : decode cX3_lieDown 32 = .ok (.aload_n 0, 1) := dk_42 (dkn dmcX3_lieDown (by decide +kernel))
theorem dX3_lieDown_33 : decode cX3_lieDown 33 = .ok (.getfield 24, 3) := dk_180 (a := 0) (b := 24) (dkn dmcX3_lieDown (by decide +kernel)) rfl
theorem dX3_lieDown_36 : decode cX3_lieDown 36 = .ok (.iload_n 1, 1) := dk_27 (dkn dmcX3_lieDown (by decide +kernel))
theorem dX3_lieDown_37 : decode cX3_lieDown 37 = .ok (.iload_n 3, 1) := dk_29 (dkn dmcX3_lieDown (by decide +kernel))
theorem dX3_lieDown_38 : decode cX3_lieDown 38 = .ok (.iastore, 1) := dk_79 (dkn dmcX3_lieDown (by decide +kernel))
theorem dX3_lieDown_39 : decode cX3_lieDown 39 = .ok (.aload_n 0, 1) := dk_42 (dkn dmcX3_lieDown (by decide +kernel))
theorem dX3_lieDown_40 : decode cX3_lieDown 40 = .ok (.aload_n 0, 1) := dk_42 (dkn dmcX3_lieDown (by decide +kernel))
theorem dX3_lieDown_41 : decode cX3_lieDown 41 = .ok (.getfield 18, 3) := dk_180 (a := 0) (b := 18) (dkn dmcX3_lieDown (by decide +kernel)) rfl
theorem dX3_lieDown_44 : decode cX3_lieDown 44 = .ok (.iload_n 1, 1) := dk_27 (dkn dmcX3_lieDown (by decide +kernel))
theorem dX3_lieDown_45 : decode cX3_lieDown 45 = .ok (.iaload, 1) := dk_46 (dkn dmcX3_lieDown (by decide +kernel))
theorem dX3_lieDown_46 : decode cX3_lieDown 46 = .ok (.putfield 126, 3) := dk_181 (a := 0) (b := 126) (dkn dmcX3_lieDown (by decide +kernel)) rfl
theorem dX3_lieDown_49 : decode cX3_lieDown 49 = .ok (.aload_n 0, 1) := dk_42 (dkn dmcX3_lieDown (by decide +kernel))
theorem dX3_lieDown_50 : decode cX3_lieDown 50 = .ok (.iload_n 3, 1) := dk_29 (dkn dmcX3_lieDown (by decide +kernel))
theorem dX3_lieDown_51 : decode cX3_lieDown 51 = .ok (.invokevirtual 202, 3) := dk_182 (a := 0) (b := 202) (dkn dmcX3_lieDown (by decide +kernel)) rfl
theorem dX3_lieDown_54 : decode cX3_lieDown 54 = .ok (.ireturn, 1) := dk_172 (dkn dmcX3_lieDown (by decide +kernel))
theorem dX3_rise_0 : decode cX3_rise 0 = .ok (.aload_n 0, 1) := dk_42 (by decide +kernel)
theorem dX3_rise_1 : decode cX3_rise 1 = .ok (.getfield 21, 3) := dk_180 (a := 0) (b := 21) (by decide +kernel) rfl
theorem dX3_rise_4 : decode cX3_rise 4 = .ok (.iload_n 1, 1) := dk_27 (by decide +kernel)
theorem dX3_rise_5 : decode cX3_rise 5 = .ok (.iconst 1, 1) := dk_4 (by decide +kernel)
theorem dX3_rise_6 : decode cX3_rise 6 = .ok (.iastore, 1) := dk_79 (by decide +kernel)
theorem dX3_rise_7 : decode cX3_rise 7 = .ok (.aload_n 0, 1) := dk_42 (by decide +kernel)
theorem dX3_rise_8 : decode cX3_rise 8 = .ok (.iload_n 1, 1) := dk_27 (by decide +kernel)
theorem dX3_rise_9 : decode cX3_rise 9 = .ok (.aload_n 0, 1) := dk_42 (by decide +kernel)
theorem dX3_rise_10 : decode cX3_rise 10 = .ok (.getfield 24, 3) := dk_180 (a := 0) (b := 24) (by decide +kernel) rfl
theorem dX3_rise_13 : decode cX3_rise 13 = .ok (.iload_n 1, 1) := dk_27 (by decide +kernel)
theorem dX3_rise_14 : decode cX3_rise 14 = .ok (.iaload, 1) := dk_46 (by decide +kernel)
theorem dX3_rise_15 : decode cX3_rise 15 = .ok (.invokevirtual 199, 3) := dk_182 (a := 0) (b := 199) (by decide +kernel) rfl
theorem dX3_rise_18 : decode cX3_rise 18 = .ok (.ireturn, 1) := dk_172 (by decide +kernel)
def dncX3_wakeSleepers : Nat := 0xac037800b5062ad9ffa70104844f0604151500b42a0b00a01d2e04151800b42a1600a0052e04151500b42a2700a2070415043603ac061006009f1b2e1d2100b42aac0405009c1d3ecd00b61c2a
theorem dmcX3_wakeSleepers : dkc dncX3_wakeSleepers 77 cX3_wakeSleepers.data.toList 0 = true := by decide +kernel
theorem dX3_wakeSleepers_0 : decode cX3_wakeSleepers 0 = .ok (.aload_n 0, 1) := dk_42 (dkn dmcX3_wakeSleepers (by decide +kernel))
theorem dX3_wakeSleepers_1 : decode cX3_wakeSleepers 1 = .ok (.iload_n 2, 1) := dk_28 (dkn dmcX3_wakeSleepers (by decide +kernel))
theorem dX3_wakeSleepers_2 : decode cX3_wakeSleepers 2 = .ok (.invokevirtual 205, 3) := dk_182 (a := 0) (b := 205) (dkn dmcX3_wakeSleepers (by decide +kernel)) rfl
theorem dX3_wakeSleepers_5 : decode cX3_wakeSleepers 5 = .ok (.istore_n 3, 1) := dk_62 (dkn dmcX3_wakeSleepers (by decide +kernel))
theorem dX3_wakeSleepers_6 : decode cX3_wakeSleepers 6 = .ok (.iload_n 3, 1) := dk_29 (dkn dmcX3_wakeSleepers (by decide +kernel))
theorem dX3_wakeSleepers_7 : decode cX3_wakeSleepers 7 = .ok (.ifCond .ge 5, 3) := dk_156 (a := 0) (b := 5) (dkn dmcX3_wakeSleepers (by decide +kernel)) rfl
theorem dX3_wakeSleepers_10 : decode cX3_wakeSleepers 10 = .ok (.iconst 1, 1) := dk_4 (dkn dmcX3_wakeSleepers (by decide +kernel))
theorem dX3_wakeSleepers_11 : decode cX3_wakeSleepers 11 = .ok (.ireturn, 1) := dk_172 (dkn dmcX3_wakeSleepers (by decide +kernel))
theorem dX3_wakeSleepers_12 : decode cX3_wakeSleepers 12 = .ok (.aload_n 0, 1) := dk_42 (dkn dmcX3_wakeSleepers (by decide +kernel))
theorem dX3_wakeSleepers_13 : decode cX3_wakeSleepers 13 = .ok (.getfield 33, 3) := dk_180 (a := 0) (b := 33) (dkn dmcX3_wakeSleepers (by decide +kernel)) rfl
theorem dX3_wakeSleepers_16 : decode cX3_wakeSleepers 16 = .ok (.iload_n 3, 1) := dk_29 (dkn dmcX3_wakeSleepers (by decide +kernel))
theorem dX3_wakeSleepers_17 : decode cX3_wakeSleepers 17 = .ok (.iaload, 1) := dk_46 (dkn dmcX3_wakeSleepers (by decide +kernel))
theorem dX3_wakeSleepers_18 : decode cX3_wakeSleepers 18 = .ok (.iload_n 1, 1) := dk_27 (dkn dmcX3_wakeSleepers (by decide +kernel))
theorem dX3_wakeSleepers_19 : decode cX3_wakeSleepers 19 = .ok (.if_icmp .eq 6, 3) := dk_159 (a := 0) (b := 6) (dkn dmcX3_wakeSleepers (by decide +kernel)) rfl
theorem dX3_wakeSleepers_22 : decode cX3_wakeSleepers 22 = .ok (.bipush 6, 2) := dk_16 (a := 6) (dkn dmcX3_wakeSleepers (by decide +kernel)) rfl
theorem dX3_wakeSleepers_24 : decode cX3_wakeSleepers 24 = .ok (.ireturn, 1) := dk_172 (dkn dmcX3_wakeSleepers (by decide +kernel))
theorem dX3_wakeSleepers_25 : decode cX3_wakeSleepers 25 = .ok (.iconst 0, 1) := dk_3 (dkn dmcX3_wakeSleepers (by decide +kernel))
theorem dX3_wakeSleepers_26 : decode cX3_wakeSleepers 26 = .ok (.istore 4, 2) := dk_54 (dkn dmcX3_wakeSleepers (by decide +kernel))
theorem dX3_wakeSleepers_28 : decode cX3_wakeSleepers 28 = .ok (.iload 4, 2) := dk_21 (dkn dmcX3_wakeSleepers (by decide +kernel))
theorem dX3_wakeSleepers_30 : decode cX3_wakeSleepers 30 = .ok (.iconst 4, 1) := dk_7 (dkn dmcX3_wakeSleepers (by decide +kernel))
theorem dX3_wakeSleepers_31 : decode cX3_wakeSleepers 31 = .ok (.if_icmp .ge 39, 3) := dk_162 (a := 0) (b := 39) (dkn dmcX3_wakeSleepers (by decide +kernel)) rfl
theorem dX3_wakeSleepers_34 : decode cX3_wakeSleepers 34 = .ok (.aload_n 0, 1) := dk_42 (dkn dmcX3_wakeSleepers (by decide +kernel))
theorem dX3_wakeSleepers_35 : decode cX3_wakeSleepers 35 = .ok (.getfield 21, 3) := dk_180 (a := 0) (b := 21) (dkn dmcX3_wakeSleepers (by decide +kernel)) rfl
theorem dX3_wakeSleepers_38 : decode cX3_wakeSleepers 38 = .ok (.iload 4, 2) := dk_21 (dkn dmcX3_wakeSleepers (by decide +kernel))
theorem dX3_wakeSleepers_40 : decode cX3_wakeSleepers 40 = .ok (.iaload, 1) := dk_46 (dkn dmcX3_wakeSleepers (by decide +kernel))
theorem dX3_wakeSleepers_41 : decode cX3_wakeSleepers 41 = .ok (.iconst 2, 1) := dk_5 (dkn dmcX3_wakeSleepers (by decide +kernel))
theorem dX3_wakeSleepers_42 : decode cX3_wakeSleepers 42 = .ok (.if_icmp .ne 22, 3) := dk_160 (a := 0) (b := 22) (dkn dmcX3_wakeSleepers (by decide +kernel)) rfl
theorem dX3_wakeSleepers_45 : decode cX3_wakeSleepers 45 = .ok (.aload_n 0, 1) := dk_42 (dkn dmcX3_wakeSleepers (by decide +kernel))
theorem dX3_wakeSleepers_46 : decode cX3_wakeSleepers 46 = .ok (.getfield 24, 3) := dk_180 (a := 0) (b := 24) (dkn dmcX3_wakeSleepers (by decide +kernel)) rfl
theorem dX3_wakeSleepers_49 : decode cX3_wakeSleepers 49 = .ok (.iload 4, 2) := dk_21 (dkn dmcX3_wakeSleepers (by decide +kernel))
theorem dX3_wakeSleepers_51 : decode cX3_wakeSleepers 51 = .ok (.iaload, 1) := dk_46 (dkn dmcX3_wakeSleepers (by decide +kernel))
theorem dX3_wakeSleepers_52 : decode cX3_wakeSleepers 52 = .ok (.iload_n 3, 1) := dk_29 (dkn dmcX3_wakeSleepers (by decide +kernel))
theorem dX3_wakeSleepers_53 : decode cX3_wakeSleepers 53 = .ok (.if_icmp .ne 11, 3) := dk_160 (a := 0) (b := 11) (dkn dmcX3_wakeSleepers (by decide +kernel)) rfl
theorem dX3_wakeSleepers_56 : decode cX3_wakeSleepers 56 = .ok (.aload_n 0, 1) := dk_42 (dkn dmcX3_wakeSleepers (by decide +kernel))
theorem dX3_wakeSleepers_57 : decode cX3_wakeSleepers 57 = .ok (.getfield 21, 3) := dk_180 (a := 0) (b := 21) (dkn dmcX3_wakeSleepers (by decide +kernel)) rfl
theorem dX3_wakeSleepers_60 : decode cX3_wakeSleepers 60 = .ok (.iload 4, 2) := dk_21 (dkn dmcX3_wakeSleepers (by decide +kernel))
theorem dX3_wakeSleepers_62 : decode cX3_wakeSleepers 62 = .ok (.iconst 3, 1) := dk_6 (dkn dmcX3_wakeSleepers (by decide +kernel))
theorem dX3_wakeSleepers_63 : decode cX3_wakeSleepers 63 = .ok (.iastore, 1) := dk_79 (dkn dmcX3_wakeSleepers (by decide +kernel))
theorem dX3_wakeSleepers_64 : decode cX3_wakeSleepers 64 = .ok (.iinc 4 1, 3) := dk_132 (b := 1) (dkn dmcX3_wakeSleepers (by decide +kernel)) rfl
theorem dX3_wakeSleepers_67 : decode cX3_wakeSleepers 67 = .ok (.goto (-39), 3) := dk_167 (a := 255) (b := 217) (dkn dmcX3_wakeSleepers (by decide +kernel)) rfl
theorem dX3_wakeSleepers_70 : decode cX3_wakeSleepers 70 = .ok (.aload_n 0, 1) := dk_42 (dkn dmcX3_wakeSleepers (by decide +kernel))
theorem dX3_wakeSleepers_71 : decode cX3_wakeSleepers 71 = .ok (.iconst 3, 1) := dk_6 (dkn dmcX3_wakeSleepers (by decide +kernel))
theorem dX3_wakeSleepers_72 : decode cX3_wakeSleepers 72 = .ok (.putfield 120, 3) := dk_181 (a := 0) (b := 120) (dkn dmcX3_wakeSleepers (by decide +kernel)) rfl
theorem dX3_wakeSleepers_75 : decode cX3_wakeSleepers 75 = .ok (.iconst 0, 1) := dk_3 (dkn dmcX3_wakeSleepers (by decide +kernel))
theorem dX3_wakeSleepers_76 : decode cX3_wakeSleepers 76 = .ok (.ireturn, 1) := dk_172 (dkn dmcX3_wakeSleepers (by decide +kernel))
def dncX3_takeInput : Nat := 0xac8700b62e64044300b42ad000b42700b42a031b2a4300b560044300b4592aac07100600a11e104300b42a0c00a24000b42a4300b42a
theorem dmcX3_takeInput : dkc dncX3_takeInput 54 cX3_takeInput.data.toList 0 = true := by decide +kernel
theorem dX3_takeInput_0 : decode cX3_takeInput 0 = .ok (.aload_n 0, 1) := dk_42 (dkn dmcX3_takeInput (by decide +kernel))
theorem dX3_takeInput_1 : decode cX3_takeInput 1 = .ok (.getfield 67, 3) := dk_180 (a := 0) (b := 67) (dkn dmcX3_takeInput (by decide +kernel)) rfl
theorem dX3_takeInput_4 : decode cX3_takeInput 4 = .ok (.aload_n 0, 1) := dk_42 (dkn dmcX3_takeInput (by decide +kernel))
theorem dX3_takeInput_5 : decode cX3_takeInput 5 = .ok (.getfield 64, 3) := dk_180 (a := 0) (b := 64) (dkn dmcX3_takeInput (by decide +kernel)) rfl
theorem dX3_takeInput_8 : decode cX3_takeInput 8 = .ok (.if_icmp .ge 12, 3) := dk_162 (a := 0) (b := 12) (dkn dmcX3_takeInput (by decide +kernel)) rfl
theorem dX3_takeInput_11 : decode cX3_takeInput 11 = .ok (.aload_n 0, 1) := dk_42 (dkn dmcX3_takeInput (by decide +kernel))
theorem dX3_takeInput_12 : decode cX3_takeInput 12 = .ok (.getfield 67, 3) := dk_180 (a := 0) (b := 67) (dkn dmcX3_takeInput (by decide +kernel)) rfl
theorem dX3_takeInput_15 : decode cX3_takeInput 15 = .ok (.bipush 30, 2) := dk_16 (a := 30) (dkn dmcX3_takeInput (by decide +kernel)) rfl
theorem dX3_takeInput_17 : decode cX3_takeInput 17 = .ok (.if_icmp .lt 6, 3) := dk_161 (a := 0) (b := 6) (dkn dmcX3_takeInput (by decide +kernel)) rfl
theorem dX3_takeInput_20 : decode cX3_takeInput 20 = .ok (.bipush 7, 2) := dk_16 (a := 7) (dkn dmcX3_takeInput (by decide +kernel)) rfl
theorem dX3_takeInput_22 : decode cX3_takeInput 22 = .ok (.ireturn, 1) := dk_172 (dkn dmcX3_takeInput (by decide +kernel))
theorem dX3_takeInput_23 : decode cX3_takeInput 23 = .ok (.aload_n 0, 1) := dk_42 (dkn dmcX3_takeInput (by decide +kernel))
theorem dX3_takeInput_24 : decode cX3_takeInput 24 = .ok (.dup, 1) := dk_89 (dkn dmcX3_takeInput (by decide +kernel))
theorem dX3_takeInput_25 : decode cX3_takeInput 25 = .ok (.getfield 67, 3) := dk_180 (a := 0) (b := 67) (dkn dmcX3_takeInput (by decide +kernel)) rfl
theorem dX3_takeInput_28 : decode cX3_takeInput 28 = .ok (.iconst 1, 1) := dk_4 (dkn dmcX3_takeInput (by decide +kernel))
theorem dX3_takeInput_29 : decode cX3_takeInput 29 = .ok (.iadd, 1) := dk_96 (dkn dmcX3_takeInput (by decide +kernel))
theorem dX3_takeInput_30 : decode cX3_takeInput 30 = .ok (.putfield 67, 3) := dk_181 (a := 0) (b := 67) (dkn dmcX3_takeInput (by decide +kernel)) rfl
theorem dX3_takeInput_33 : decode cX3_takeInput 33 = .ok (.aload_n 0, 1) := dk_42 (dkn dmcX3_takeInput (by decide +kernel))
theorem dX3_takeInput_34 : decode cX3_takeInput 34 = .ok (.iload_n 1, 1) := dk_27 (dkn dmcX3_takeInput (by decide +kernel))
theorem dX3_takeInput_35 : decode cX3_takeInput 35 = .ok (.iconst 0, 1) := dk_3 (dkn dmcX3_takeInput (by decide +kernel))
theorem dX3_takeInput_36 : decode cX3_takeInput 36 = .ok (.aload_n 0, 1) := dk_42 (dkn dmcX3_takeInput (by decide +kernel))
theorem dX3_takeInput_37 : decode cX3_takeInput 37 = .ok (.getfield 39, 3) := dk_180 (a := 0) (b := 39) (dkn dmcX3_takeInput (by decide +kernel)) rfl
theorem dX3_takeInput_40 : decode cX3_takeInput 40 = .ok (.getfield 208, 3) := dk_180 (a := 0) (b := 208) (dkn dmcX3_takeInput (by decide +kernel)) rfl
theorem dX3_takeInput_43 : decode cX3_takeInput 43 = .ok (.aload_n 0, 1) := dk_42 (dkn dmcX3_takeInput (by decide +kernel))
theorem dX3_takeInput_44 : decode cX3_takeInput 44 = .ok (.getfield 67, 3) := dk_180 (a := 0) (b := 67) (dkn dmcX3_takeInput (by decide +kernel)) rfl
theorem dX3_takeInput_47 : decode cX3_takeInput 47 = .ok (.iconst 1, 1) := dk_4 (dkn dmcX3_takeInput (by decide +kernel))
theorem dX3_takeInput_48 : decode cX3_takeInput 48 = .ok (.isub, 1) := dk_100 (dkn dmcX3_takeInput (by decide +kernel))
theorem dX3_takeInput_49 : decode cX3_takeInput 49 = .ok (.iaload, 1) := dk_46 (dkn dmcX3_takeInput (by decide +kernel))
theorem dX3_takeInput_50 : decode cX3_takeInput 50 = .ok (.invokevirtual 135, 3) := dk_182 (a := 0) (b := 135) (dkn dmcX3_takeInput (by decide +kernel)) rfl
theorem dX3_takeInput_53 : decode cX3_takeInput 53 = .ok (.ireturn, 1) := dk_172 (dkn dmcX3_takeInput (by decide +kernel))
def dncX3_startThread : Nat := 0xac037b00b51b2a7800b5072a4f041b1500b42aac080500992e1b1500b42a
theorem dmcX3_startThread : dkc dncX3_startThread 30 cX3_startThread.data.toList 0 = true := by decide +kernel
theorem dX3_startThread_0 : decode cX3_startThread 0 = .ok (.aload_n 0, 1) := dk_42 (dkn dmcX3_startThread (by decide +kernel))
theorem dX3_startThread_1 : decode cX3_startThread 1 = .ok (.getfield 21, 3) := dk_180 (a := 0) (b := 21) (dkn dmcX3_startThread (by decide +kernel)) rfl
theorem dX3_startThread_4 : decode cX3_startThread 4 = .ok (.iload_n 1, 1) := dk_27 (dkn dmcX3_startThread (by decide +kernel))
theorem dX3_startThread_5 : decode cX3_startThread 5 = .ok (.iaload, 1) := dk_46 (dkn dmcX3_startThread (by decide +kernel))
theorem dX3_startThread_6 : decode cX3_startThread 6 = .ok (.ifCond .eq 5, 3) := dk_153 (a := 0) (b := 5) (dkn dmcX3_startThread (by decide +kernel)) rfl
theorem dX3_startThread_9 : decode cX3_startThread 9 = .ok (.iconst 5, 1) := dk_8 (dkn dmcX3_startThread (by decide +kernel))
theorem dX3_startThread_10 : decode cX3_startThread 10 = .ok (.ireturn, 1) := dk_172 (dkn dmcX3_startThread (by decide +kernel))
theorem dX3_startThread_11 : decode cX3_startThread 11 = .ok (.aload_n 0, 1) := dk_42 (dkn dmcX3_startThread (by decide +kernel))
theorem dX3_startThread_12 : decode cX3_startThread 12 = .ok (.getfield 21, 3) := dk_180 (a := 0) (b := 21) (dkn dmcX3_startThread (by decide +kernel)) rfl
theorem dX3_startThread_15 : decode cX3_startThread 15 = .ok (.iload_n 1, 1) := dk_27 (dkn dmcX3_startThread (by decide +kernel))
theorem dX3_startThread_16 : decode cX3_startThread 16 = .ok (.iconst 1, 1) := dk_4 (dkn dmcX3_startThread (by decide +kernel))
theorem dX3_startThread_17 : decode cX3_startThread 17 = .ok (.iastore, 1) := dk_79 (dkn dmcX3_startThread (by decide +kernel))
theorem dX3_startThread_18 : decode cX3_startThread 18 = .ok (.aload_n 0, 1) := dk_42 (dkn dmcX3_startThread (by decide +kernel))
theorem dX3_startThread_19 : decode cX3_startThread 19 = .ok (.iconst 4, 1) := dk_7 (dkn dmcX3_startThread (by decide +kernel))
theorem dX3_startThread_20 : decode cX3_startThread 20 = .ok (.putfield 120, 3) := dk_181 (a := 0) (b := 120) (dkn dmcX3_startThread (by decide +kernel)) rfl
theorem dX3_startThread_23 : decode cX3_startThread 23 = .ok (.aload_n 0, 1) := dk_42 (dkn dmcX3_startThread (by decide +kernel))
theorem dX3_startThread_24 : decode cX3_startThread 24 = .ok (.iload_n 1, 1) := dk_27 (dkn dmcX3_startThread (by decide +kernel))
theorem dX3_startThread_25 : decode cX3_startThread 25 = .ok (.putfield 123, 3) := dk_181 (a := 0) (b := 123) (dkn dmcX3_startThread (by decide +kernel)) rfl
theorem dX3_startThread_28 : decode cX3_startThread 28 = .ok (.iconst 0, 1) := dk_3 (dkn dmcX3_startThread (by decide +kernel))
theorem dX3_startThread_29 : decode cX3_startThread 29 = .ok (.ireturn, 1) := dk_172 (dkn dmcX3_startThread (by decide +kernel))
theorem dX4_forget_0 : decode cX4_forget 0 = .ok (.aload_n 0, 1) := dk_42 (by decide +kernel)
theorem dX4_forget_1 : decode cX4_forget 1 = .ok (.iconst 0, 1) := dk_3 (by decide +kernel)
theorem dX4_forget_2 : decode cX4_forget 2 = .ok (.putfield 28, 3) := dk_181 (a := 0) (b := 28) (by decide +kernel) rfl
theorem dX4_forget_5 : decode cX4_forget 5 = .ok (.return_, 1) := dk_177 (by decide +kernel)
def dncX4_prepare : Nat := 0xb11c00b5042ad3ffa70101842600b5602e1b1500b42a2600b4592a4f3300b61b2a1b1500b42a2f00b61b2a2800a32a00b41800b42a1b3c042600b5032a2000b8031200b42a2000b8030f00b42ab10400991c00b42a
theorem dmcX4_prepare : dkc dncX4_prepare 85 cX4_prepare.data.toList 0 = true := by decide +kernel
theorem dX4_prepare_0 : decode cX4_prepare 0 = .ok (.aload_n 0, 1) := dk_42 (dkn dmcX4_prepare (by decide +kernel))
theorem dX4_prepare_1 : decode cX4_prepare 1 = .ok (.getfield 28, 3) := dk_180 (a := 0) (b := 28) (dkn dmcX4_prepare (by decide +kernel)) rfl
theorem dX4_prepare_4 : decode cX4_prepare 4 = .ok (.ifCond .eq 4, 3) := dk_153 (a := 0) (b := 4) (dkn dmcX4_prepare (by decide +kernel)) rfl
theorem dX4_prepare_7 : decode cX4_prepare 7 = .ok (.return_, 1) := dk_177 (dkn dmcX4_prepare (by decide +kernel))
theorem dX4_prepare_8 : decode cX4_prepare 8 = .ok (.aload_n 0, 1) := dk_42 (dkn dmcX4_prepare (by decide +kernel))
theorem dX4_prepare_9 : decode cX4_prepare 9 = .ok (.getfield 15, 3) := dk_180 (a := 0) (b := 15) (dkn dmcX4_prepare (by decide +kernel)) rfl
theorem dX4_prepare_12 : decode cX4_prepare 12 = .ok (.iconst 0, 1) := dk_3 (dkn dmcX4_prepare (by decide +kernel))
theorem dX4_prepare_13 : decode cX4_prepare 13 = .ok (.invokestatic 32, 3) := dk_184 (a := 0) (b := 32) (dkn dmcX4_prepare (by decide +kernel)) rfl
theorem dX4_prepare_16 : decode cX4_prepare 16 = .ok (.aload_n 0, 1) := dk_42 (dkn dmcX4_prepare (by decide +kernel))
theorem dX4_prepare_17 : decode cX4_prepare 17 = .ok (.getfield 18, 3) := dk_180 (a := 0) (b := 18) (dkn dmcX4_prepare (by decide +kernel)) rfl
theorem dX4_prepare_20 : decode cX4_prepare 20 = .ok (.iconst 0, 1) := dk_3 (dkn dmcX4_prepare (by decide +kernel))
theorem dX4_prepare_21 : decode cX4_prepare 21 = .ok (.invokestatic 32, 3) := dk_184 (a := 0) (b := 32) (dkn dmcX4_prepare (by decide +kernel)) rfl
theorem dX4_prepare_24 : decode cX4_prepare 24 = .ok (.aload_n 0, 1) := dk_42 (dkn dmcX4_prepare (by decide +kernel))
theorem dX4_prepare_25 : decode cX4_prepare 25 = .ok (.iconst 0, 1) := dk_3 (dkn dmcX4_prepare (by decide +kernel))
theorem dX4_prepare_26 : decode cX4_prepare 26 = .ok (.putfield 38, 3) := dk_181 (a := 0) (b := 38) (dkn dmcX4_prepare (by decide +kernel)) rfl
theorem dX4_prepare_29 : decode cX4_prepare 29 = .ok (.iconst 1, 1) := dk_4 (dkn dmcX4_prepare (by decide +kernel))
theorem dX4_prepare_30 : decode cX4_prepare 30 = .ok (.istore_n 1, 1) := dk_60 (dkn dmcX4_prepare (by decide +kernel))
theorem dX4_prepare_31 : decode cX4_prepare 31 = .ok (.iload_n 1, 1) := dk_27 (dkn dmcX4_prepare (by decide +kernel))
theorem dX4_prepare_32 : decode cX4_prepare 32 = .ok (.aload_n 0, 1) := dk_42 (dkn dmcX4_prepare (by decide +kernel))
theorem dX4_prepare_33 : decode cX4_prepare 33 = .ok (.getfield 24, 3) := dk_180 (a := 0) (b := 24) (dkn dmcX4_prepare (by decide +kernel)) rfl
theorem dX4_prepare_36 : decode cX4_prepare 36 = .ok (.getfield 42, 3) := dk_180 (a := 0) (b := 42) (dkn dmcX4_prepare (by decide +kernel)) rfl
theorem dX4_prepare_39 : decode cX4_prepare 39 = .ok (.if_icmp .gt 40, 3) := dk_163 (a := 0) (b := 40) (dkn dmcX4_prepare (by decide +kernel)) rfl
theorem dX4_prepare_42 : decode cX4_prepare 42 = .ok (.aload_n 0, 1) := dk_42 (dkn dmcX4_prepare (by decide +kernel))
theorem dX4_prepare_43 : decode cX4_prepare 43 = .ok (.iload_n 1, 1) := dk_27 (dkn dmcX4_prepare (by decide +kernel))
theorem dX4_prepare_44 : decode cX4_prepare 44 = .ok (.invokevirtual 47, 3) := dk_182 (a := 0) (b := 47) (dkn dmcX4_prepare (by decide +kernel)) rfl
theorem dX4_prepare_47 : decode cX4_prepare 47 = .ok (.aload_n 0, 1) := dk_42 (dkn dmcX4_prepare (by decide +kernel))
theorem dX4_prepare_48 : decode cX4_prepare 48 = .ok (.getfield 21, 3) := dk_180 (a := 0) (b := 21) (dkn dmcX4_prepare (by decide +kernel)) rfl
theorem dX4_prepare_51 : decode cX4_prepare 51 = .ok (.iload_n 1, 1) := dk_27 (dkn dmcX4_prepare (by decide +kernel))
theorem dX4_prepare_52 : decode cX4_prepare 52 = .ok (.aload_n 0, 1) := dk_42 (dkn dmcX4_prepare (by decide +kernel))
theorem dX4_prepare_53 : decode cX4_prepare 53 = .ok (.iload_n 1, 1) := dk_27 (dkn dmcX4_prepare (by decide +kernel))
theorem dX4_prepare_54 : decode cX4_prepare 54 = .ok (.invokevirtual 51, 3) := dk_182 (a := 0) (b := 51) (dkn dmcX4_prepare (by decide +kernel)) rfl
theorem dX4_prepare_57 : decode cX4_prepare 57 = .ok (.iastore, 1) := dk_79 (dkn dmcX4_prepare (by decide +kernel))
theorem dX4_prepare_58 : decode cX4_prepare 58 = .ok (.aload_n 0, 1) := dk_42 (dkn dmcX4_prepare (by decide +kernel))
theorem dX4_prepare_59 : decode cX4_prepare 59 = .ok (.dup, 1) := dk_89 (dkn dmcX4_prepare (by decide +kernel))
theorem dX4_prepare_60 : decode cX4_prepare 60 = .ok (.getfield 38, 3) := dk_180 (a := 0) (b := 38) (dkn dmcX4_prepare (by decide +kernel)) rfl
theorem dX4_prepare_63 : decode cX4_prepare 63 = .ok (.aload_n 0, 1) := dk_42 (dkn dmcX4_prepare (by decide +kernel))
theorem dX4_prepare_64 : decode cX4_prepare 64 = .ok (.getfield 21, 3) := dk_180 (a := 0) (b := 21) (dkn dmcX4_prepare (by decide +kernel)) rfl
theorem dX4_prepare_67 : decode cX4_prepare 67 = .ok (.iload_n 1, 1) := dk_27 (dkn dmcX4_prepare (by decide +kernel))
theorem dX4_prepare_68 : decode cX4_prepare 68 = .ok (.iaload, 1) := dk_46 (dkn dmcX4_prepare (by decide +kernel))
theorem dX4_prepare_69 : decode cX4_prepare 69 = .ok (.iadd, 1) := dk_96 (dkn dmcX4_prepare (by decide +kernel))
theorem dX4_prepare_70 : decode cX4_prepare 70 = .ok (.putfield 38, 3) := dk_181 (a := 0) (b := 38) (dkn dmcX4_prepare (by decide +kernel)) rfl
theorem dX4_prepare_73 : decode cX4_prepare 73 = .ok (.iinc 1 1, 3) := dk_132 (b := 1) (dkn dmcX4_prepare (by decide +kernel)) rfl
theorem dX4_prepare_76 : decode cX4_prepare 76 = .ok (.goto (-45), 3) := dk_167 (a := 255) (b := 211) (dkn dmcX4_prepare (by decide +kernel)) rfl
theorem dX4_prepare_79 : decode cX4_prepare 79 = .ok (.aload_n 0, 1) := dk_42 (dkn dmcX4_prepare (by decide +kernel))
theorem dX4_prepare_80 : decode cX4_prepare 80 = .ok (.iconst 1, 1) := dk_4 (dkn dmcX4_prepare (by decide +kernel))
theorem dX4_prepare_81 : decode cX4_prepare 81 = .ok (.putfield 28, 3) := dk_181 (a := 0) (b := 28) (dkn dmcX4_prepare (by decide +kernel)) rfl
theorem dX4_prepare_84 : decode cX4_prepare 84 = .ok (.return_, 1) := dk_177 (dkn dmcX4_prepare (by decide +kernel))
def dncX4_learn : Nat := 0xb14400b80768071b0900b42a1c0f00b42a4000b81d0f00b42a1c0f00b42a1000a0072e1b3d00b41800b42a1d00a74000b81d1200b42a1c0f00b42a1300a0052e1b3d00b41800b42a3a00a74000b81c0f00b42a1d1200b42a1300a0042e1b3d00b41800b42a4f1b602e1b3700b41800b42a1c0f00b42a3e68072e1b3a00b41800b42a3d68072e1b3700b41800b42a
theorem dmcX4_learn : dkc dncX4_learn 142 cX4_learn.data.toList 0 = true := by decide +kernel
theorem dX4_learn_0 : decode cX4_learn 0 = .ok (.aload_n 0, 1) := dk_42 (dkn dmcX4_learn (by decide +kernel))
theorem dX4_learn_1 : decode cX4_learn 1 = .ok (.getfield 24, 3) := dk_180 (a := 0) (b := 24) (dkn dmcX4_learn (by decide +kernel)) rfl
theorem dX4_learn_4 : decode cX4_learn 4 = .ok (.getfield 55, 3) := dk_180 (a := 0) (b := 55) (dkn dmcX4_learn (by decide +kernel)) rfl
theorem dX4_learn_7 : decode cX4_learn 7 = .ok (.iload_n 1, 1) := dk_27 (dkn dmcX4_learn (by decide +kernel))
theorem dX4_learn_8 : decode cX4_learn 8 = .ok (.iaload, 1) := dk_46 (dkn dmcX4_learn (by decide +kernel))
theorem dX4_learn_9 : decode cX4_learn 9 = .ok (.iconst 4, 1) := dk_7 (dkn dmcX4_learn (by decide +kernel))
theorem dX4_learn_10 : decode cX4_learn 10 = .ok (.imul, 1) := dk_104 (dkn dmcX4_learn (by decide +kernel))
theorem dX4_learn_11 : decode cX4_learn 11 = .ok (.istore_n 2, 1) := dk_61 (dkn dmcX4_learn (by decide +kernel))
theorem dX4_learn_12 : decode cX4_learn 12 = .ok (.aload_n 0, 1) := dk_42 (dkn dmcX4_learn (by decide +kernel))
theorem dX4_learn_13 : decode cX4_learn 13 = .ok (.getfield 24, 3) := dk_180 (a := 0) (b := 24) (dkn dmcX4_learn (by decide +kernel)) rfl
theorem dX4_learn_16 : decode cX4_learn 16 = .ok (.getfield 58, 3) := dk_180 (a := 0) (b := 58) (dkn dmcX4_learn (by decide +kernel)) rfl
theorem dX4_learn_19 : decode cX4_learn 19 = .ok (.iload_n 1, 1) := dk_27 (dkn dmcX4_learn (by decide +kernel))
theorem dX4_learn_20 : decode cX4_learn 20 = .ok (.iaload, 1) := dk_46 (dkn dmcX4_learn (by decide +kernel))
theorem dX4_learn_21 : decode cX4_learn 21 = .ok (.iconst 4, 1) := dk_7 (dkn dmcX4_learn (by decide +kernel))
theorem dX4_learn_22 : decode cX4_learn 22 = .ok (.imul, 1) := dk_104 (dkn dmcX4_learn (by decide +kernel))
theorem dX4_learn_23 : decode cX4_learn 23 = .ok (.istore_n 3, 1) := dk_62 (dkn dmcX4_learn (by decide +kernel))
theorem dX4_learn_24 : decode cX4_learn 24 = .ok (.aload_n 0, 1) := dk_42 (dkn dmcX4_learn (by decide +kernel))
theorem dX4_learn_25 : decode cX4_learn 25 = .ok (.getfield 15, 3) := dk_180 (a := 0) (b := 15) (dkn dmcX4_learn (by decide +kernel)) rfl
theorem dX4_learn_28 : decode cX4_learn 28 = .ok (.iload_n 2, 1) := dk_28 (dkn dmcX4_learn (by decide +kernel))
theorem dX4_learn_29 : decode cX4_learn 29 = .ok (.aload_n 0, 1) := dk_42 (dkn dmcX4_learn (by decide +kernel))
theorem dX4_learn_30 : decode cX4_learn 30 = .ok (.getfield 24, 3) := dk_180 (a := 0) (b := 24) (dkn dmcX4_learn (by decide +kernel)) rfl
theorem dX4_learn_33 : decode cX4_learn 33 = .ok (.getfield 55, 3) := dk_180 (a := 0) (b := 55) (dkn dmcX4_learn (by decide +kernel)) rfl
theorem dX4_learn_36 : decode cX4_learn 36 = .ok (.iload_n 1, 1) := dk_27 (dkn dmcX4_learn (by decide +kernel))
theorem dX4_learn_37 : decode cX4_learn 37 = .ok (.iaload, 1) := dk_46 (dkn dmcX4_learn (by decide +kernel))
theorem dX4_learn_38 : decode cX4_learn 38 = .ok (.iadd, 1) := dk_96 (dkn dmcX4_learn (by decide +kernel))
theorem dX4_learn_39 : decode cX4_learn 39 = .ok (.iload_n 1, 1) := dk_27 (dkn dmcX4_learn (by decide +kernel))
theorem dX4_learn_40 : decode cX4_learn 40 = .ok (.iastore, 1) := dk_79 (dkn dmcX4_learn (by decide +kernel))
theorem dX4_learn_41 : decode cX4_learn 41 = .ok (.aload_n 0, 1) := dk_42 (dkn dmcX4_learn (by decide +kernel))
theorem dX4_learn_42 : decode cX4_learn 42 = .ok (.getfield 24, 3) := dk_180 (a := 0) (b := 24) (dkn dmcX4_learn (by decide +kernel)) rfl
theorem dX4_learn_45 : decode cX4_learn 45 = .ok (.getfield 61, 3) := dk_180 (a := 0) (b := 61) (dkn dmcX4_learn (by decide +kernel)) rfl
theorem dX4_learn_48 : decode cX4_learn 48 = .ok (.iload_n 1, 1) := dk_27 (dkn dmcX4_learn (by decide +kernel))
theorem dX4_learn_49 : decode cX4_learn 49 = .ok (.iaload, 1) := dk_46 (dkn dmcX4_learn (by decide +kernel))
theorem dX4_learn_50 : decode cX4_learn 50 = .ok (.iconst 1, 1) := dk_4 (dkn dmcX4_learn (by decide +kernel))
theorem dX4_learn_51 : decode cX4_learn 51 = .ok (.if_icmp .ne 19, 3) := dk_160 (a := 0) (b := 19) (dkn dmcX4_learn (by decide +kernel)) rfl
theorem dX4_learn_54 : decode cX4_learn 54 = .ok (.aload_n 0, 1) := dk_42 (dkn dmcX4_learn (by decide +kernel))
theorem dX4_learn_55 : decode cX4_learn 55 = .ok (.getfield 18, 3) := dk_180 (a := 0) (b := 18) (dkn dmcX4_learn (by decide +kernel)) rfl
theorem dX4_learn_58 : decode cX4_learn 58 = .ok (.iload_n 3, 1) := dk_29 (dkn dmcX4_learn (by decide +kernel))
theorem dX4_learn_59 : decode cX4_learn 59 = .ok (.aload_n 0, 1) := dk_42 (dkn dmcX4_learn (by decide +kernel))
theorem dX4_learn_60 : decode cX4_learn 60 = .ok (.getfield 15, 3) := dk_180 (a := 0) (b := 15) (dkn dmcX4_learn (by decide +kernel)) rfl
theorem dX4_learn_63 : decode cX4_learn 63 = .ok (.iload_n 2, 1) := dk_28 (dkn dmcX4_learn (by decide +kernel))
theorem dX4_learn_64 : decode cX4_learn 64 = .ok (.invokestatic 64, 3) := dk_184 (a := 0) (b := 64) (dkn dmcX4_learn (by decide +kernel)) rfl
theorem dX4_learn_67 : decode cX4_learn 67 = .ok (.goto 58, 3) := dk_167 (a := 0) (b := 58) (dkn dmcX4_learn (by decide +kernel)) rfl
theorem dX4_learn_70 : decode cX4_learn 70 = .ok (.aload_n 0, 1) := dk_42 (dkn dmcX4_learn (by decide +kernel))
theorem dX4_learn_71 : decode cX4_learn 71 = .ok (.getfield 24, 3) := dk_180 (a := 0) (b := 24) (dkn dmcX4_learn (by decide +kernel)) rfl
theorem dX4_learn_74 : decode cX4_learn 74 = .ok (.getfield 61, 3) := dk_180 (a := 0) (b := 61) (dkn dmcX4_learn (by decide +kernel)) rfl
theorem dX4_learn_77 : decode cX4_learn 77 = .ok (.iload_n 1, 1) := dk_27 (dkn dmcX4_learn (by decide +kernel))
theorem dX4_learn_78 : decode cX4_learn 78 = .ok (.iaload, 1) := dk_46 (dkn dmcX4_learn (by decide +kernel))
theorem dX4_learn_79 : decode cX4_learn 79 = .ok (.iconst 2, 1) := dk_5 (dkn dmcX4_learn (by decide +kernel))
theorem dX4_learn_80 : decode cX4_learn 80 = .ok (.if_icmp .ne 19, 3) := dk_160 (a := 0) (b := 19) (dkn dmcX4_learn (by decide +kernel)) rfl
theorem dX4_learn_83 : decode cX4_learn 83 = .ok (.aload_n 0, 1) := dk_42 (dkn dmcX4_learn (by decide +kernel))
theorem dX4_learn_84 : decode cX4_learn 84 = .ok (.getfield 15, 3) := dk_180 (a := 0) (b := 15) (dkn dmcX4_learn (by decide +kernel)) rfl
theorem dX4_learn_87 : decode cX4_learn 87 = .ok (.iload_n 2, 1) := dk_28 (dkn dmcX4_learn (by decide +kernel))
theorem dX4_learn_88 : decode cX4_learn 88 = .ok (.aload_n 0, 1) := dk_42 (dkn dmcX4_learn (by decide +kernel))
theorem dX4_learn_89 : decode cX4_learn 89 = .ok (.getfield 18, 3) := dk_180 (a := 0) (b := 18) (dkn dmcX4_learn (by decide +kernel)) rfl
theorem dX4_learn_92 : decode cX4_learn 92 = .ok (.iload_n 3, 1) := dk_29 (dkn dmcX4_learn (by decide +kernel))
theorem dX4_learn_93 : decode cX4_learn 93 = .ok (.invokestatic 64, 3) := dk_184 (a := 0) (b := 64) (dkn dmcX4_learn (by decide +kernel)) rfl
theorem dX4_learn_96 : decode cX4_learn 96 = .ok (.goto 29, 3) := dk_167 (a := 0) (b := 29) (dkn dmcX4_learn (by decide +kernel)) rfl
theorem dX4_learn_99 : decode cX4_learn 99 = .ok (.aload_n 0, 1) := dk_42 (dkn dmcX4_learn (by decide +kernel))
theorem dX4_learn_100 : decode cX4_learn 100 = .ok (.getfield 24, 3) := dk_180 (a := 0) (b := 24) (dkn dmcX4_learn (by decide +kernel)) rfl
theorem dX4_learn_103 : decode cX4_learn 103 = .ok (.getfield 61, 3) := dk_180 (a := 0) (b := 61) (dkn dmcX4_learn (by decide +kernel)) rfl
theorem dX4_learn_106 : decode cX4_learn 106 = .ok (.iload_n 1, 1) := dk_27 (dkn dmcX4_learn (by decide +kernel))
theorem dX4_learn_107 : decode cX4_learn 107 = .ok (.iaload, 1) := dk_46 (dkn dmcX4_learn (by decide +kernel))
theorem dX4_learn_108 : decode cX4_learn 108 = .ok (.iconst 4, 1) := dk_7 (dkn dmcX4_learn (by decide +kernel))
theorem dX4_learn_109 : decode cX4_learn 109 = .ok (.if_icmp .ne 16, 3) := dk_160 (a := 0) (b := 16) (dkn dmcX4_learn (by decide +kernel)) rfl
theorem dX4_learn_112 : decode cX4_learn 112 = .ok (.aload_n 0, 1) := dk_42 (dkn dmcX4_learn (by decide +kernel))
theorem dX4_learn_113 : decode cX4_learn 113 = .ok (.getfield 15, 3) := dk_180 (a := 0) (b := 15) (dkn dmcX4_learn (by decide +kernel)) rfl
theorem dX4_learn_116 : decode cX4_learn 116 = .ok (.iload_n 2, 1) := dk_28 (dkn dmcX4_learn (by decide +kernel))
theorem dX4_learn_117 : decode cX4_learn 117 = .ok (.aload_n 0, 1) := dk_42 (dkn dmcX4_learn (by decide +kernel))
theorem dX4_learn_118 : decode cX4_learn 118 = .ok (.getfield 15, 3) := dk_180 (a := 0) (b := 15) (dkn dmcX4_learn (by decide +kernel)) rfl
theorem dX4_learn_121 : decode cX4_learn 121 = .ok (.iload_n 3, 1) := dk_29 (dkn dmcX4_learn (by decide +kernel))
theorem dX4_learn_122 : decode cX4_learn 122 = .ok (.invokestatic 64, 3) := dk_184 (a := 0) (b := 64) (dkn dmcX4_learn (by decide +kernel)) rfl
theorem dX4_learn_125 : decode cX4_learn 125 = .ok (.aload_n 0, 1) := dk_42 (dkn dmcX4_learn (by decide +kernel))
theorem dX4_learn_126 : decode cX4_learn 126 = .ok (.getfield 15, 3) := dk_180 (a := 0) (b := 15) (dkn dmcX4_learn (by decide +kernel)) rfl
theorem dX4_learn_129 : decode cX4_learn 129 = .ok (.iload_n 2, 1) := dk_28 (dkn dmcX4_learn (by decide +kernel))
theorem dX4_learn_130 : decode cX4_learn 130 = .ok (.aload_n 0, 1) := dk_42 (dkn dmcX4_learn (by decide +kernel))
theorem dX4_learn_131 : decode cX4_learn 131 = .ok (.getfield 9, 3) := dk_180 (a := 0) (b := 9) (dkn dmcX4_learn (by decide +kernel)) rfl
theorem dX4_learn_134 : decode cX4_learn 134 = .ok (.iload_n 1, 1) := dk_27 (dkn dmcX4_learn (by decide +kernel))
theorem dX4_learn_135 : decode cX4_learn 135 = .ok (.iconst 4, 1) := dk_7 (dkn dmcX4_learn (by decide +kernel))
theorem dX4_learn_136 : decode cX4_learn 136 = .ok (.imul, 1) := dk_104 (dkn dmcX4_learn (by decide +kernel))
theorem dX4_learn_137 : decode cX4_learn 137 = .ok (.iconst 4, 1) := dk_7 (dkn dmcX4_learn (by decide +kernel))
theorem dX4_learn_138 : decode cX4_learn 138 = .ok (.invokestatic 68, 3) := dk_184 (a := 0) (b := 68) (dkn dmcX4_learn (by decide +kernel)) rfl
theorem dX4_learn_141 : decode cX4_learn 141 = .ok (.return_, 1) := dk_177 (dkn dmcX4_learn (by decide +kernel))
def dncX4_join : Nat := 0xb1e2ffa70104844f4a00b82e6004151b2a2e6004151d2c6004151d2c1e00a2070415043603
theorem dmcX4_join : dkc dncX4_join 37 cX4_join.data.toList 0 = true := by decide +kernel
theorem dX4_join_0 : decode cX4_join 0 = .ok (.iconst 0, 1) := dk_3 (dkn dmcX4_join (by decide +kernel))
theorem dX4_join_1 : decode cX4_join 1 = .ok (.istore 4, 2) := dk_54 (dkn dmcX4_join (by decide +kernel))
theorem dX4_join_3 : decode cX4_join 3 = .ok (.iload 4, 2) := dk_21 (dkn dmcX4_join (by decide +kernel))
theorem dX4_join_5 : decode cX4_join 5 = .ok (.iconst 4, 1) := dk_7 (dkn dmcX4_join (by decide +kernel))
theorem dX4_join_6 : decode cX4_join 6 = .ok (.if_icmp .ge 30, 3) := dk_162 (a := 0) (b := 30) (dkn dmcX4_join (by decide +kernel)) rfl
theorem dX4_join_9 : decode cX4_join 9 = .ok (.aload_n 2, 1) := dk_44 (dkn dmcX4_join (by decide +kernel))
theorem dX4_join_10 : decode cX4_join 10 = .ok (.iload_n 3, 1) := dk_29 (dkn dmcX4_join (by decide +kernel))
theorem dX4_join_11 : decode cX4_join 11 = .ok (.iload 4, 2) := dk_21 (dkn dmcX4_join (by decide +kernel))
theorem dX4_join_13 : decode cX4_join 13 = .ok (.iadd, 1) := dk_96 (dkn dmcX4_join (by decide +kernel))
theorem dX4_join_14 : decode cX4_join 14 = .ok (.aload_n 2, 1) := dk_44 (dkn dmcX4_join (by decide +kernel))
theorem dX4_join_15 : decode cX4_join 15 = .ok (.iload_n 3, 1) := dk_29 (dkn dmcX4_join (by decide +kernel))
theorem dX4_join_16 : decode cX4_join 16 = .ok (.iload 4, 2) := dk_21 (dkn dmcX4_join (by decide +kernel))
theorem dX4_join_18 : decode cX4_join 18 = .ok (.iadd, 1) := dk_96 (dkn dmcX4_join (by decide +kernel))
theorem dX4_join_19 : decode cX4_join 19 = .ok (.iaload, 1) := dk_46 (dkn dmcX4_join (by decide +kernel))
theorem dX4_join_20 : decode cX4_join 20 = .ok (.aload_n 0, 1) := dk_42 (dkn dmcX4_join (by decide +kernel))
theorem dX4_join_21 : decode cX4_join 21 = .ok (.iload_n 1, 1) := dk_27 (dkn dmcX4_join (by decide +kernel))
theorem dX4_join_22 : decode cX4_join 22 = .ok (.iload 4, 2) := dk_21 (dkn dmcX4_join (by decide +kernel))
theorem dX4_join_24 : decode cX4_join 24 = .ok (.iadd, 1) := dk_96 (dkn dmcX4_join (by decide +kernel))
theorem dX4_join_25 : decode cX4_join 25 = .ok (.iaload, 1) := dk_46 (dkn dmcX4_join (by decide +kernel))
theorem dX4_join_26 : decode cX4_join 26 = .ok (.invokestatic 74, 3) := dk_184 (a := 0) (b := 74) (dkn dmcX4_join (by decide +kernel)) rfl
theorem dX4_join_29 : decode cX4_join 29 = .ok (.iastore, 1) := dk_79 (dkn dmcX4_join (by decide +kernel))
theorem dX4_join_30 : decode cX4_join 30 = .ok (.iinc 4 1, 3) := dk_132 (b := 1) (dkn dmcX4_join (by decide +kernel)) rfl
theorem dX4_join_33 : decode cX4_join 33 = .ok (.goto (-30), 3) := dk_167 (a := 255) (b := 226) (dkn dmcX4_join (by decide +kernel)) rfl
theorem dX4_join_36 : decode cX4_join 36 = .ok (.return_, 1) := dk_177 (dkn dmcX4_join (by decide +kernel))
def dncX4_isAhead : Nat := 0xac030400a7040700a11b2e602e1b3700b41800b42a68071c0900b42a1d00a21c1b
theorem dmcX4_isAhead : dkc dncX4_isAhead 33 cX4_isAhead.data.toList 0 = true := by decide +kernel
theorem dX4_isAhead_0 : decode cX4_isAhead 0 = .ok (.iload_n 1, 1) := dk_27 (dkn dmcX4_isAhead (by decide +kernel))
theorem dX4_isAhead_1 : decode cX4_isAhead 1 = .ok (.iload_n 2, 1) := dk_28 (dkn dmcX4_isAhead (by decide +kernel))
theorem dX4_isAhead_2 : decode cX4_isAhead 2 = .ok (.if_icmp .ge 29, 3) := dk_162 (a := 0) (b := 29) (dkn dmcX4_isAhead (by decide +kernel)) rfl
theorem dX4_isAhead_5 : decode cX4_isAhead 5 = .ok (.aload_n 0, 1) := dk_42 (dkn dmcX4_isAhead (by decide +kernel))
theorem dX4_isAhead_6 : decode cX4_isAhead 6 = .ok (.getfield 9, 3) := dk_180 (a := 0) (b := 9) (dkn dmcX4_isAhead (by decide +kernel)) rfl
theorem dX4_isAhead_9 : decode cX4_isAhead 9 = .ok (.iload_n 2, 1) := dk_28 (dkn dmcX4_isAhead (by decide +kernel))
theorem dX4_isAhead_10 : decode cX4_isAhead 10 = .ok (.iconst 4, 1) := dk_7 (dkn dmcX4_isAhead (by decide +kernel))
theorem dX4_isAhead_11 : decode cX4_isAhead 11 = .ok (.imul, 1) := dk_104 (dkn dmcX4_isAhead (by decide +kernel))
theorem dX4_isAhead_12 : decode cX4_isAhead 12 = .ok (.aload_n 0, 1) := dk_42 (dkn dmcX4_isAhead (by decide +kernel))
theorem dX4_isAhead_13 : decode cX4_isAhead 13 = .ok (.getfield 24, 3) := dk_180 (a := 0) (b := 24) (dkn dmcX4_isAhead (by decide +kernel)) rfl
theorem dX4_isAhead_16 : decode cX4_isAhead 16 = .ok (.getfield 55, 3) := dk_180 (a := 0) (b := 55) (dkn dmcX4_isAhead (by decide +kernel)) rfl
theorem dX4_isAhead_19 : decode cX4_isAhead 19 = .ok (.iload_n 1, 1) := dk_27 (dkn dmcX4_isAhead (by decide +kernel))
theorem dX4_isAhead_20 : decode cX4_isAhead 20 = .ok (.iaload, 1) := dk_46 (dkn dmcX4_isAhead (by decide +kernel))
theorem dX4_isAhead_21 : decode cX4_isAhead 21 = .ok (.iadd, 1) := dk_96 (dkn dmcX4_isAhead (by decide +kernel))
theorem dX4_isAhead_22 : decode cX4_isAhead 22 = .ok (.iaload, 1) := dk_46 (dkn dmcX4_isAhead (by decide +kernel))
theorem dX4_isAhead_23 : decode cX4_isAhead 23 = .ok (.iload_n 1, 1) := dk_27 (dkn dmcX4_isAhead (by decide +kernel))
theorem dX4_isAhead_24 : decode cX4_isAhead 24 = .ok (.if_icmp .lt 7, 3) := dk_161 (a := 0) (b := 7) (dkn dmcX4_isAhead (by decide +kernel)) rfl
theorem dX4_isAhead_27 : decode cX4_isAhead 27 = .ok (.iconst 1, 1) := dk_4 (dkn dmcX4_isAhead (by decide +kernel))
theorem dX4_isAhead_28 : decode cX4_isAhead 28 = .ok (.goto 4, 3) := dk_167 (a := 0) (b := 4) (dkn dmcX4_isAhead (by decide +kernel)) rfl
theorem dX4_isAhead_31 : decode cX4_isAhead 31 = .ok (.iconst 0, 1) := dk_3 (dkn dmcX4_isAhead (by decide +kernel))
theorem dX4_isAhead_32 : decode cX4_isAhead 32 = .ok (.ireturn, 1) := dk_172 (dkn dmcX4_isAhead (by decide +kernel))
def dncX4_isRace : Nat := 0xac030400a70407009a5600b61c1b2a1000a01d2e1c5300b41800b42a10009f1d2e1b5300b41800b42aac030500a02e1c3700b41800b42a2e1b3700b41800b42a1800a01d5000b61b1800b42a24009ffe101d3e5000b61c1800b42a
theorem dmcX4_isRace : dkc dncX4_isRace 91 cX4_isRace.data.toList 0 = true := by decide +kernel
theorem dX4_isRace_0 : decode cX4_isRace 0 = .ok (.aload_n 0, 1) := dk_42 (dkn dmcX4_isRace (by decide +kernel))
theorem dX4_isRace_1 : decode cX4_isRace 1 = .ok (.getfield 24, 3) := dk_180 (a := 0) (b := 24) (dkn dmcX4_isRace (by decide +kernel)) rfl
theorem dX4_isRace_4 : decode cX4_isRace 4 = .ok (.iload_n 2, 1) := dk_28 (dkn dmcX4_isRace (by decide +kernel))
theorem dX4_isRace_5 : decode cX4_isRace 5 = .ok (.invokevirtual 80, 3) := dk_182 (a := 0) (b := 80) (dkn dmcX4_isRace (by decide +kernel)) rfl
theorem dX4_isRace_8 : decode cX4_isRace 8 = .ok (.istore_n 3, 1) := dk_62 (dkn dmcX4_isRace (by decide +kernel))
theorem dX4_isRace_9 : decode cX4_isRace 9 = .ok (.iload_n 3, 1) := dk_29 (dkn dmcX4_isRace (by decide +kernel))
theorem dX4_isRace_10 : decode cX4_isRace 10 = .ok (.bipush (-2), 2) := dk_16 (a := 254) (dkn dmcX4_isRace (by decide +kernel)) rfl
theorem dX4_isRace_12 : decode cX4_isRace 12 = .ok (.if_icmp .eq 36, 3) := dk_159 (a := 0) (b := 36) (dkn dmcX4_isRace (by decide +kernel)) rfl
theorem dX4_isRace_15 : decode cX4_isRace 15 = .ok (.aload_n 0, 1) := dk_42 (dkn dmcX4_isRace (by decide +kernel))
theorem dX4_isRace_16 : decode cX4_isRace 16 = .ok (.getfield 24, 3) := dk_180 (a := 0) (b := 24) (dkn dmcX4_isRace (by decide +kernel)) rfl
theorem dX4_isRace_19 : decode cX4_isRace 19 = .ok (.iload_n 1, 1) := dk_27 (dkn dmcX4_isRace (by decide +kernel))
theorem dX4_isRace_20 : decode cX4_isRace 20 = .ok (.invokevirtual 80, 3) := dk_182 (a := 0) (b := 80) (dkn dmcX4_isRace (by decide +kernel)) rfl
theorem dX4_isRace_23 : decode cX4_isRace 23 = .ok (.iload_n 3, 1) := dk_29 (dkn dmcX4_isRace (by decide +kernel))
theorem dX4_isRace_24 : decode cX4_isRace 24 = .ok (.if_icmp .ne 24, 3) := dk_160 (a := 0) (b := 24) (dkn dmcX4_isRace (by decide +kernel)) rfl
theorem dX4_isRace_27 : decode cX4_isRace 27 = .ok (.aload_n 0, 1) := dk_42 (dkn dmcX4_isRace (by decide +kernel))
theorem dX4_isRace_28 : decode cX4_isRace 28 = .ok (.getfield 24, 3) := dk_180 (a := 0) (b := 24) (dkn dmcX4_isRace (by decide +kernel)) rfl
theorem dX4_isRace_31 : decode cX4_isRace 31 = .ok (.getfield 55, 3) := dk_180 (a := 0) (b := 55) (dkn dmcX4_isRace (by decide +kernel)) rfl
theorem dX4_isRace_34 : decode cX4_isRace 34 = .ok (.iload_n 1, 1) := dk_27 (dkn dmcX4_isRace (by decide +kernel))
theorem dX4_isRace_35 : decode cX4_isRace 35 = .ok (.iaload, 1) := dk_46 (dkn dmcX4_isRace (by decide +kernel))
theorem dX4_isRace_36 : decode cX4_isRace 36 = .ok (.aload_n 0, 1) := dk_42 (dkn dmcX4_isRace (by decide +kernel))
theorem dX4_isRace_37 : decode cX4_isRace 37 = .ok (.getfield 24, 3) := dk_180 (a := 0) (b := 24) (dkn dmcX4_isRace (by decide +kernel)) rfl
theorem dX4_isRace_40 : decode cX4_isRace 40 = .ok (.getfield 55, 3) := dk_180 (a := 0) (b := 55) (dkn dmcX4_isRace (by decide +kernel)) rfl
theorem dX4_isRace_43 : decode cX4_isRace 43 = .ok (.iload_n 2, 1) := dk_28 (dkn dmcX4_isRace (by decide +kernel))
theorem dX4_isRace_44 : decode cX4_isRace 44 = .ok (.iaload, 1) := dk_46 (dkn dmcX4_isRace (by decide +kernel))
theorem dX4_isRace_45 : decode cX4_isRace 45 = .ok (.if_icmp .ne 5, 3) := dk_160 (a := 0) (b := 5) (dkn dmcX4_isRace (by decide +kernel)) rfl
theorem dX4_isRace_48 : decode cX4_isRace 48 = .ok (.iconst 0, 1) := dk_3 (dkn dmcX4_isRace (by decide +kernel))
theorem dX4_isRace_49 : decode cX4_isRace 49 = .ok (.ireturn, 1) := dk_172 (dkn dmcX4_isRace (by decide +kernel))
theorem dX4_isRace_50 : decode cX4_isRace 50 = .ok (.aload_n 0, 1) := dk_42 (dkn dmcX4_isRace (by decide +kernel))
theorem dX4_isRace_51 : decode cX4_isRace 51 = .ok (.getfield 24, 3) := dk_180 (a := 0) (b := 24) (dkn dmcX4_isRace (by decide +kernel)) rfl
theorem dX4_isRace_54 : decode cX4_isRace 54 = .ok (.getfield 83, 3) := dk_180 (a := 0) (b := 83) (dkn dmcX4_isRace (by decide +kernel)) rfl
theorem dX4_isRace_57 : decode cX4_isRace 57 = .ok (.iload_n 1, 1) := dk_27 (dkn dmcX4_isRace (by decide +kernel))
theorem dX4_isRace_58 : decode cX4_isRace 58 = .ok (.iaload, 1) := dk_46 (dkn dmcX4_isRace (by decide +kernel))
theorem dX4_isRace_59 : decode cX4_isRace 59 = .ok (.iload_n 3, 1) := dk_29 (dkn dmcX4_isRace (by decide +kernel))
theorem dX4_isRace_60 : decode cX4_isRace 60 = .ok (.if_icmp .eq 16, 3) := dk_159 (a := 0) (b := 16) (dkn dmcX4_isRace (by decide +kernel)) rfl
theorem dX4_isRace_63 : decode cX4_isRace 63 = .ok (.aload_n 0, 1) := dk_42 (dkn dmcX4_isRace (by decide +kernel))
theorem dX4_isRace_64 : decode cX4_isRace 64 = .ok (.getfield 24, 3) := dk_180 (a := 0) (b := 24) (dkn dmcX4_isRace (by decide +kernel)) rfl
theorem dX4_isRace_67 : decode cX4_isRace 67 = .ok (.getfield 83, 3) := dk_180 (a := 0) (b := 83) (dkn dmcX4_isRace (by decide +kernel)) rfl
theorem dX4_isRace_70 : decode cX4_isRace 70 = .ok (.iload_n 2, 1) := dk_28 (dkn dmcX4_isRace (by decide +kernel))
theorem dX4_isRace_71 : decode cX4_isRace 71 = .ok (.iaload, 1) := dk_46 (dkn dmcX4_isRace (by decide +kernel))
theorem dX4_isRace_72 : decode cX4_isRace 72 = .ok (.iload_n 3, 1) := dk_29 (dkn dmcX4_isRace (by decide +kernel))
theorem dX4_isRace_73 : decode cX4_isRace 73 = .ok (.if_icmp .ne 16, 3) := dk_160 (a := 0) (b := 16) (dkn dmcX4_isRace (by decide +kernel)) rfl
theorem dX4_isRace_76 : decode cX4_isRace 76 = .ok (.aload_n 0, 1) := dk_42 (dkn dmcX4_isRace (by decide +kernel))
theorem dX4_isRace_77 : decode cX4_isRace 77 = .ok (.iload_n 1, 1) := dk_27 (dkn dmcX4_isRace (by decide +kernel))
theorem dX4_isRace_78 : decode cX4_isRace 78 = .ok (.iload_n 2, 1) := dk_28 (dkn dmcX4_isRace (by decide +kernel))
theorem dX4_isRace_79 : decode cX4_isRace 79 = .ok (.invokevirtual 86, 3) := dk_182 (a := 0) (b := 86) (dkn dmcX4_isRace (by decide +kernel)) rfl
theorem dX4_isRace_82 : decode cX4_isRace 82 = .ok (.ifCond .ne 7, 3) := dk_154 (a := 0) (b := 7) (dkn dmcX4_isRace (by decide +kernel)) rfl
theorem dX4_isRace_85 : decode cX4_isRace 85 = .ok (.iconst 1, 1) := dk_4 (dkn dmcX4_isRace (by decide +kernel))
theorem dX4_isRace_86 : decode cX4_isRace 86 = .ok (.goto 4, 3) := dk_167 (a := 0) (b := 4) (dkn dmcX4_isRace (by decide +kernel)) rfl
theorem dX4_isRace_89 : decode cX4_isRace 89 = .ok (.iconst 0, 1) := dk_3 (dkn dmcX4_isRace (by decide +kernel))
theorem dX4_isRace_90 : decode cX4_isRace 90 = .ok (.ireturn, 1) := dk_172 (dkn dmcX4_isRace (by decide +kernel))
def dncX4_countRaces : Nat := 0xac1cecffa70103840102840600995a00b61b1d2a1500a21b1d3e043d03ac030500a0fe105000b61b1800b42a
theorem dmcX4_countRaces : dkc dncX4_countRaces 44 cX4_countRaces.data.toList 0 = true := by decide +kernel
theorem dX4_countRaces_0 : decode cX4_countRaces 0 = .ok (.aload_n 0, 1) := dk_42 (dkn dmcX4_countRaces (by decide +kernel))
theorem dX4_countRaces_1 : decode cX4_countRaces 1 = .ok (.getfield 24, 3) := dk_180 (a := 0) (b := 24) (dkn dmcX4_countRaces (by decide +kernel)) rfl
theorem dX4_countRaces_4 : decode cX4_countRaces 4 = .ok (.iload_n 1, 1) := dk_27 (dkn dmcX4_countRaces (by decide +kernel))
theorem dX4_countRaces_5 : decode cX4_countRaces 5 = .ok (.invokevirtual 80, 3) := dk_182 (a := 0) (b := 80) (dkn dmcX4_countRaces (by decide +kernel)) rfl
theorem dX4_countRaces_8 : decode cX4_countRaces 8 = .ok (.bipush (-2), 2) := dk_16 (a := 254) (dkn dmcX4_countRaces (by decide +kernel)) rfl
theorem dX4_countRaces_10 : decode cX4_countRaces 10 = .ok (.if_icmp .ne 5, 3) := dk_160 (a := 0) (b := 5) (dkn dmcX4_countRaces (by decide +kernel)) rfl
theorem dX4_countRaces_13 : decode cX4_countRaces 13 = .ok (.iconst 0, 1) := dk_3 (dkn dmcX4_countRaces (by decide +kernel))
theorem dX4_countRaces_14 : decode cX4_countRaces 14 = .ok (.ireturn, 1) := dk_172 (dkn dmcX4_countRaces (by decide +kernel))
theorem dX4_countRaces_15 : decode cX4_countRaces 15 = .ok (.iconst 0, 1) := dk_3 (dkn dmcX4_countRaces (by decide +kernel))
theorem dX4_countRaces_16 : decode cX4_countRaces 16 = .ok (.istore_n 2, 1) := dk_61 (dkn dmcX4_countRaces (by decide +kernel))
theorem dX4_countRaces_17 : decode cX4_countRaces 17 = .ok (.iconst 1, 1) := dk_4 (dkn dmcX4_countRaces (by decide +kernel))
theorem dX4_countRaces_18 : decode cX4_countRaces 18 = .ok (.istore_n 3, 1) := dk_62 (dkn dmcX4_countRaces (by decide +kernel))
theorem dX4_countRaces_19 : decode cX4_countRaces 19 = .ok (.iload_n 3, 1) := dk_29 (dkn dmcX4_countRaces (by decide +kernel))
theorem dX4_countRaces_20 : decode cX4_countRaces 20 = .ok (.iload_n 1, 1) := dk_27 (dkn dmcX4_countRaces (by decide +kernel))
theorem dX4_countRaces_21 : decode cX4_countRaces 21 = .ok (.if_icmp .ge 21, 3) := dk_162 (a := 0) (b := 21) (dkn dmcX4_countRaces (by decide +kernel)) rfl
theorem dX4_countRaces_24 : decode cX4_countRaces 24 = .ok (.aload_n 0, 1) := dk_42 (dkn dmcX4_countRaces (by decide +kernel))
theorem dX4_countRaces_25 : decode cX4_countRaces 25 = .ok (.iload_n 3, 1) := dk_29 (dkn dmcX4_countRaces (by decide +kernel))
theorem dX4_countRaces_26 : decode cX4_countRaces 26 = .ok (.iload_n 1, 1) := dk_27 (dkn dmcX4_countRaces (by decide +kernel))
theorem dX4_countRaces_27 : decode cX4_countRaces 27 = .ok (.invokevirtual 90, 3) := dk_182 (a := 0) (b := 90) (dkn dmcX4_countRaces (by decide +kernel)) rfl
theorem dX4_countRaces_30 : decode cX4_countRaces 30 = .ok (.ifCond .eq 6, 3) := dk_153 (a := 0) (b := 6) (dkn dmcX4_countRaces (by decide +kernel)) rfl
theorem dX4_countRaces_33 : decode cX4_countRaces 33 = .ok (.iinc 2 1, 3) := dk_132 (b := 1) (dkn dmcX4_countRaces (by decide +kernel)) rfl
theorem dX4_countRaces_36 : decode cX4_countRaces 36 = .ok (.iinc 3 1, 3) := dk_132 (b := 1) (dkn dmcX4_countRaces (by decide +kernel)) rfl
theorem dX4_countRaces_39 : decode cX4_countRaces 39 = .ok (.goto (-20), 3) := dk_167 (a := 255) (b := 236) (dkn dmcX4_countRaces (by decide +kernel)) rfl
theorem dX4_countRaces_42 : decode cX4_countRaces 42 = .ok (.iload_n 2, 1) := dk_28 (dkn dmcX4_countRaces (by decide +kernel))
theorem dX4_countRaces_43 : decode cX4_countRaces 43 = .ok (.ireturn, 1) := dk_172 (dkn dmcX4_countRaces (by decide +kernel))
def dncX4_laterOf : Nat := 0xac03e2ffa7010384ac1d0500a21c1b3d602e1d1500b42a1c1900a32a00b41800b42a1d3e043d03
theorem dmcX4_laterOf : dkc dncX4_laterOf 39 cX4_laterOf.data.toList 0 = true := by decide +kernel
theorem dX4_laterOf_0 : decode cX4_laterOf 0 = .ok (.iconst 0, 1) := dk_3 (dkn dmcX4_laterOf (by decide +kernel))
theorem dX4_laterOf_1 : decode cX4_laterOf 1 = .ok (.istore_n 2, 1) := dk_61 (dkn dmcX4_laterOf (by decide +kernel))
theorem dX4_laterOf_2 : decode cX4_laterOf 2 = .ok (.iconst 1, 1) := dk_4 (dkn dmcX4_laterOf (by decide +kernel))
theorem dX4_laterOf_3 : decode cX4_laterOf 3 = .ok (.istore_n 3, 1) := dk_62 (dkn dmcX4_laterOf (by decide +kernel))
theorem dX4_laterOf_4 : decode cX4_laterOf 4 = .ok (.iload_n 3, 1) := dk_29 (dkn dmcX4_laterOf (by decide +kernel))
theorem dX4_laterOf_5 : decode cX4_laterOf 5 = .ok (.aload_n 0, 1) := dk_42 (dkn dmcX4_laterOf (by decide +kernel))
theorem dX4_laterOf_6 : decode cX4_laterOf 6 = .ok (.getfield 24, 3) := dk_180 (a := 0) (b := 24) (dkn dmcX4_laterOf (by decide +kernel)) rfl
theorem dX4_laterOf_9 : decode cX4_laterOf 9 = .ok (.getfield 42, 3) := dk_180 (a := 0) (b := 42) (dkn dmcX4_laterOf (by decide +kernel)) rfl
theorem dX4_laterOf_12 : decode cX4_laterOf 12 = .ok (.if_icmp .gt 25, 3) := dk_163 (a := 0) (b := 25) (dkn dmcX4_laterOf (by decide +kernel)) rfl
theorem dX4_laterOf_15 : decode cX4_laterOf 15 = .ok (.iload_n 2, 1) := dk_28 (dkn dmcX4_laterOf (by decide +kernel))
theorem dX4_laterOf_16 : decode cX4_laterOf 16 = .ok (.aload_n 0, 1) := dk_42 (dkn dmcX4_laterOf (by decide +kernel))
theorem dX4_laterOf_17 : decode cX4_laterOf 17 = .ok (.getfield 21, 3) := dk_180 (a := 0) (b := 21) (dkn dmcX4_laterOf (by decide +kernel)) rfl
theorem dX4_laterOf_20 : decode cX4_laterOf 20 = .ok (.iload_n 3, 1) := dk_29 (dkn dmcX4_laterOf (by decide +kernel))
theorem dX4_laterOf_21 : decode cX4_laterOf 21 = .ok (.iaload, 1) := dk_46 (dkn dmcX4_laterOf (by decide +kernel))
theorem dX4_laterOf_22 : decode cX4_laterOf 22 = .ok (.iadd, 1) := dk_96 (dkn dmcX4_laterOf (by decide +kernel))
theorem dX4_laterOf_23 : decode cX4_laterOf 23 = .ok (.istore_n 2, 1) := dk_61 (dkn dmcX4_laterOf (by decide +kernel))
theorem dX4_laterOf_24 : decode cX4_laterOf 24 = .ok (.iload_n 1, 1) := dk_27 (dkn dmcX4_laterOf (by decide +kernel))
theorem dX4_laterOf_25 : decode cX4_laterOf 25 = .ok (.iload_n 2, 1) := dk_28 (dkn dmcX4_laterOf (by decide +kernel))
theorem dX4_laterOf_26 : decode cX4_laterOf 26 = .ok (.if_icmp .ge 5, 3) := dk_162 (a := 0) (b := 5) (dkn dmcX4_laterOf (by decide +kernel)) rfl
theorem dX4_laterOf_29 : decode cX4_laterOf 29 = .ok (.iload_n 3, 1) := dk_29 (dkn dmcX4_laterOf (by decide +kernel))
theorem dX4_laterOf_30 : decode cX4_laterOf 30 = .ok (.ireturn, 1) := dk_172 (dkn dmcX4_laterOf (by decide +kernel))
theorem dX4_laterOf_31 : decode cX4_laterOf 31 = .ok (.iinc 3 1, 3) := dk_132 (b := 1) (dkn dmcX4_laterOf (by decide +kernel)) rfl
theorem dX4_laterOf_34 : decode cX4_laterOf 34 = .ok (.goto (-30), 3) := dk_167 (a := 255) (b := 226) (dkn dmcX4_laterOf (by decide +kernel)) rfl
theorem dX4_laterOf_37 : decode cX4_laterOf 37 = .ok (.iconst 0, 1) := dk_3 (dkn dmcX4_laterOf (by decide +kernel))
theorem dX4_laterOf_38 : decode cX4_laterOf 38 = .ok (.ireturn, 1) := dk_172 (dkn dmcX4_laterOf (by decide +kernel))
def dncX4_earlierOf : Nat := 0xac03e3ffa7010484ff0384ac041506009a1d0d00995a00b61c04152a1d00a21c0415043604edffa70104843e642e04151500b42a1d1300a21c04150436043e1b
theorem dmcX4_earlierOf : dkc dncX4_earlierOf 64 cX4_earlierOf.data.toList 0 = true := by decide +kernel
theorem dX4_earlierOf_0 : decode cX4_earlierOf 0 = .ok (.iload_n 1, 1) := dk_27 (dkn dmcX4_earlierOf (by decide +kernel))
theorem dX4_earlierOf_1 : decode cX4_earlierOf 1 = .ok (.istore_n 3, 1) := dk_62 (dkn dmcX4_earlierOf (by decide +kernel))
theorem dX4_earlierOf_2 : decode cX4_earlierOf 2 = .ok (.iconst 1, 1) := dk_4 (dkn dmcX4_earlierOf (by decide +kernel))
theorem dX4_earlierOf_3 : decode cX4_earlierOf 3 = .ok (.istore 4, 2) := dk_54 (dkn dmcX4_earlierOf (by decide +kernel))
theorem dX4_earlierOf_5 : decode cX4_earlierOf 5 = .ok (.iload 4, 2) := dk_21 (dkn dmcX4_earlierOf (by decide +kernel))
theorem dX4_earlierOf_7 : decode cX4_earlierOf 7 = .ok (.iload_n 2, 1) := dk_28 (dkn dmcX4_earlierOf (by decide +kernel))
theorem dX4_earlierOf_8 : decode cX4_earlierOf 8 = .ok (.if_icmp .ge 19, 3) := dk_162 (a := 0) (b := 19) (dkn dmcX4_earlierOf (by decide +kernel)) rfl
theorem dX4_earlierOf_11 : decode cX4_earlierOf 11 = .ok (.iload_n 3, 1) := dk_29 (dkn dmcX4_earlierOf (by decide +kernel))
theorem dX4_earlierOf_12 : decode cX4_earlierOf 12 = .ok (.aload_n 0, 1) := dk_42 (dkn dmcX4_earlierOf (by decide +kernel))
theorem dX4_earlierOf_13 : decode cX4_earlierOf 13 = .ok (.getfield 21, 3) := dk_180 (a := 0) (b := 21) (dkn dmcX4_earlierOf (by decide +kernel)) rfl
end MG_15_cdec0
section MG_15_cdec1
theorem dX4_earlierOf_16 : decode cX4_earlierOf 16 = .ok (.iload 4, 2) := dk_21 (dkn dmcX4_earlierOf (by decide +kernel))
theorem dX4_earlierOf_18 : decode cX4_earlierOf 18 = .ok (.iaload, 1) := dk_46 (dkn dmcX4_earlierOf (by decide +kernel))
theorem dX4_earlierOf_19 : decode cX4_earlierOf 19 = .ok (.isub, 1) := dk_100 (dkn dmcX4_earlierOf (by decide +kernel))
theorem dX4_earlierOf_20 : decode cX4_earlierOf 20 = .ok (.istore_n 3, 1) := dk_62 (dkn dmcX4_earlierOf (by decide +kernel))
theorem dX4_earlierOf_21 : decode cX4_earlierOf 21 = .ok (.iinc 4 1, 3) := dk_132 (b := 1) (dkn dmcX4_earlierOf (by decide +kernel)) rfl
theorem dX4_earlierOf_24 : decode cX4_earlierOf 24 = .ok (.goto (-19), 3) := dk_167 (a := 255) (b := 237) (dkn dmcX4_earlierOf (by decide +kernel)) rfl
theorem dX4_earlierOf_27 : decode cX4_earlierOf 27 = .ok (.iconst 1, 1) := dk_4 (dkn dmcX4_earlierOf (by decide +kernel))
theorem dX4_earlierOf_28 : decode cX4_earlierOf 28 = .ok (.istore 4, 2) := dk_54 (dkn dmcX4_earlierOf (by decide +kernel))
theorem dX4_earlierOf_30 : decode cX4_earlierOf 30 = .ok (.iload 4, 2) := dk_21 (dkn dmcX4_earlierOf (by decide +kernel))
theorem dX4_earlierOf_32 : decode cX4_earlierOf 32 = .ok (.iload_n 2, 1) := dk_28 (dkn dmcX4_earlierOf (by decide +kernel))
theorem dX4_earlierOf_33 : decode cX4_earlierOf 33 = .ok (.if_icmp .ge 29, 3) := dk_162 (a := 0) (b := 29) (dkn dmcX4_earlierOf (by decide +kernel)) rfl
theorem dX4_earlierOf_36 : decode cX4_earlierOf 36 = .ok (.aload_n 0, 1) := dk_42 (dkn dmcX4_earlierOf (by decide +kernel))
theorem dX4_earlierOf_37 : decode cX4_earlierOf 37 = .ok (.iload 4, 2) := dk_21 (dkn dmcX4_earlierOf (by decide +kernel))
theorem dX4_earlierOf_39 : decode cX4_earlierOf 39 = .ok (.iload_n 2, 1) := dk_28 (dkn dmcX4_earlierOf (by decide +kernel))
theorem dX4_earlierOf_40 : decode cX4_earlierOf 40 = .ok (.invokevirtual 90, 3) := dk_182 (a := 0) (b := 90) (dkn dmcX4_earlierOf (by decide +kernel)) rfl
theorem dX4_earlierOf_43 : decode cX4_earlierOf 43 = .ok (.ifCond .eq 13, 3) := dk_153 (a := 0) (b := 13) (dkn dmcX4_earlierOf (by decide +kernel)) rfl
theorem dX4_earlierOf_46 : decode cX4_earlierOf 46 = .ok (.iload_n 3, 1) := dk_29 (dkn dmcX4_earlierOf (by decide +kernel))
theorem dX4_earlierOf_47 : decode cX4_earlierOf 47 = .ok (.ifCond .ne 6, 3) := dk_154 (a := 0) (b := 6) (dkn dmcX4_earlierOf (by decide +kernel)) rfl
theorem dX4_earlierOf_50 : decode cX4_earlierOf 50 = .ok (.iload 4, 2) := dk_21 (dkn dmcX4_earlierOf (by decide +kernel))
theorem dX4_earlierOf_52 : decode cX4_earlierOf 52 = .ok (.ireturn, 1) := dk_172 (dkn dmcX4_earlierOf (by decide +kernel))
theorem dX4_earlierOf_53 : decode cX4_earlierOf 53 = .ok (.iinc 3 (-1), 3) := dk_132 (b := 255) (dkn dmcX4_earlierOf (by decide +kernel)) rfl
theorem dX4_earlierOf_56 : decode cX4_earlierOf 56 = .ok (.iinc 4 1, 3) := dk_132 (b := 1) (dkn dmcX4_earlierOf (by decide +kernel)) rfl
theorem dX4_earlierOf_59 : decode cX4_earlierOf 59 = .ok (.goto (-29), 3) := dk_167 (a := 255) (b := 227) (dkn dmcX4_earlierOf (by decide +kernel)) rfl
theorem dX4_earlierOf_62 : decode cX4_earlierOf 62 = .ok (.iconst 0, 1) := dk_3 (dkn dmcX4_earlierOf (by decide +kernel))
theorem dX4_earlierOf_63 : decode cX4_earlierOf 63 = .ok (.ireturn, 1) := dk_172 (dkn dmcX4_earlierOf (by decide +kernel))
def dncX5_become : Nat := 0xb12800b52800b42b2a2400b52400b42b2a1e00b82810031b00b42a031b00b42b1e00b82810031800b42a031800b42b1e00b81e10031500b42a031500b42b1e00b80c10031200b42a031200b42b1e00b8be0f00b42a030f00b42a030f00b42b1e00b807030900b42a030900b42b
theorem dmcX5_become : dkc dncX5_become 109 cX5_become.data.toList 0 = true := by decide +kernel
theorem dX5_become_0 : decode cX5_become 0 = .ok (.aload_n 1, 1) := dk_43 (dkn dmcX5_become (by decide +kernel))
theorem dX5_become_1 : decode cX5_become 1 = .ok (.getfield 9, 3) := dk_180 (a := 0) (b := 9) (dkn dmcX5_become (by decide +kernel)) rfl
theorem dX5_become_4 : decode cX5_become 4 = .ok (.iconst 0, 1) := dk_3 (dkn dmcX5_become (by decide +kernel))
theorem dX5_become_5 : decode cX5_become 5 = .ok (.aload_n 0, 1) := dk_42 (dkn dmcX5_become (by decide +kernel))
theorem dX5_become_6 : decode cX5_become 6 = .ok (.getfield 9, 3) := dk_180 (a := 0) (b := 9) (dkn dmcX5_become (by decide +kernel)) rfl
theorem dX5_become_9 : decode cX5_become 9 = .ok (.iconst 0, 1) := dk_3 (dkn dmcX5_become (by decide +kernel))
theorem dX5_become_10 : decode cX5_become 10 = .ok (.iconst 4, 1) := dk_7 (dkn dmcX5_become (by decide +kernel))
theorem dX5_become_11 : decode cX5_become 11 = .ok (.invokestatic 30, 3) := dk_184 (a := 0) (b := 30) (dkn dmcX5_become (by decide +kernel)) rfl
theorem dX5_become_14 : decode cX5_become 14 = .ok (.aload_n 1, 1) := dk_43 (dkn dmcX5_become (by decide +kernel))
theorem dX5_become_15 : decode cX5_become 15 = .ok (.getfield 15, 3) := dk_180 (a := 0) (b := 15) (dkn dmcX5_become (by decide +kernel)) rfl
theorem dX5_become_18 : decode cX5_become 18 = .ok (.iconst 0, 1) := dk_3 (dkn dmcX5_become (by decide +kernel))
theorem dX5_become_19 : decode cX5_become 19 = .ok (.aload_n 0, 1) := dk_42 (dkn dmcX5_become (by decide +kernel))
theorem dX5_become_20 : decode cX5_become 20 = .ok (.getfield 15, 3) := dk_180 (a := 0) (b := 15) (dkn dmcX5_become (by decide +kernel)) rfl
theorem dX5_become_23 : decode cX5_become 23 = .ok (.iconst 0, 1) := dk_3 (dkn dmcX5_become (by decide +kernel))
theorem dX5_become_24 : decode cX5_become 24 = .ok (.aload_n 0, 1) := dk_42 (dkn dmcX5_become (by decide +kernel))
theorem dX5_become_25 : decode cX5_become 25 = .ok (.getfield 15, 3) := dk_180 (a := 0) (b := 15) (dkn dmcX5_become (by decide +kernel)) rfl
theorem dX5_become_28 : decode cX5_become 28 = .ok (.arraylength, 1) := dk_190 (dkn dmcX5_become (by decide +kernel))
theorem dX5_become_29 : decode cX5_become 29 = .ok (.invokestatic 30, 3) := dk_184 (a := 0) (b := 30) (dkn dmcX5_become (by decide +kernel)) rfl
theorem dX5_become_32 : decode cX5_become 32 = .ok (.aload_n 1, 1) := dk_43 (dkn dmcX5_become (by decide +kernel))
theorem dX5_become_33 : decode cX5_become 33 = .ok (.getfield 18, 3) := dk_180 (a := 0) (b := 18) (dkn dmcX5_become (by decide +kernel)) rfl
theorem dX5_become_36 : decode cX5_become 36 = .ok (.iconst 0, 1) := dk_3 (dkn dmcX5_become (by decide +kernel))
theorem dX5_become_37 : decode cX5_become 37 = .ok (.aload_n 0, 1) := dk_42 (dkn dmcX5_become (by decide +kernel))
theorem dX5_become_38 : decode cX5_become 38 = .ok (.getfield 18, 3) := dk_180 (a := 0) (b := 18) (dkn dmcX5_become (by decide +kernel)) rfl
theorem dX5_become_41 : decode cX5_become 41 = .ok (.iconst 0, 1) := dk_3 (dkn dmcX5_become (by decide +kernel))
theorem dX5_become_42 : decode cX5_become 42 = .ok (.bipush 12, 2) := dk_16 (a := 12) (dkn dmcX5_become (by decide +kernel)) rfl
theorem dX5_become_44 : decode cX5_become 44 = .ok (.invokestatic 30, 3) := dk_184 (a := 0) (b := 30) (dkn dmcX5_become (by decide +kernel)) rfl
theorem dX5_become_47 : decode cX5_become 47 = .ok (.aload_n 1, 1) := dk_43 (dkn dmcX5_become (by decide +kernel))
theorem dX5_become_48 : decode cX5_become 48 = .ok (.getfield 21, 3) := dk_180 (a := 0) (b := 21) (dkn dmcX5_become (by decide +kernel)) rfl
theorem dX5_become_51 : decode cX5_become 51 = .ok (.iconst 0, 1) := dk_3 (dkn dmcX5_become (by decide +kernel))
theorem dX5_become_52 : decode cX5_become 52 = .ok (.aload_n 0, 1) := dk_42 (dkn dmcX5_become (by decide +kernel))
theorem dX5_become_53 : decode cX5_become 53 = .ok (.getfield 21, 3) := dk_180 (a := 0) (b := 21) (dkn dmcX5_become (by decide +kernel)) rfl
theorem dX5_become_56 : decode cX5_become 56 = .ok (.iconst 0, 1) := dk_3 (dkn dmcX5_become (by decide +kernel))
theorem dX5_become_57 : decode cX5_become 57 = .ok (.bipush 30, 2) := dk_16 (a := 30) (dkn dmcX5_become (by decide +kernel)) rfl
theorem dX5_become_59 : decode cX5_become 59 = .ok (.invokestatic 30, 3) := dk_184 (a := 0) (b := 30) (dkn dmcX5_become (by decide +kernel)) rfl
theorem dX5_become_62 : decode cX5_become 62 = .ok (.aload_n 1, 1) := dk_43 (dkn dmcX5_become (by decide +kernel))
theorem dX5_become_63 : decode cX5_become 63 = .ok (.getfield 24, 3) := dk_180 (a := 0) (b := 24) (dkn dmcX5_become (by decide +kernel)) rfl
theorem dX5_become_66 : decode cX5_become 66 = .ok (.iconst 0, 1) := dk_3 (dkn dmcX5_become (by decide +kernel))
theorem dX5_become_67 : decode cX5_become 67 = .ok (.aload_n 0, 1) := dk_42 (dkn dmcX5_become (by decide +kernel))
theorem dX5_become_68 : decode cX5_become 68 = .ok (.getfield 24, 3) := dk_180 (a := 0) (b := 24) (dkn dmcX5_become (by decide +kernel)) rfl
theorem dX5_become_71 : decode cX5_become 71 = .ok (.iconst 0, 1) := dk_3 (dkn dmcX5_become (by decide +kernel))
theorem dX5_become_72 : decode cX5_become 72 = .ok (.bipush 40, 2) := dk_16 (a := 40) (dkn dmcX5_become (by decide +kernel)) rfl
theorem dX5_become_74 : decode cX5_become 74 = .ok (.invokestatic 30, 3) := dk_184 (a := 0) (b := 30) (dkn dmcX5_become (by decide +kernel)) rfl
theorem dX5_become_77 : decode cX5_become 77 = .ok (.aload_n 1, 1) := dk_43 (dkn dmcX5_become (by decide +kernel))
theorem dX5_become_78 : decode cX5_become 78 = .ok (.getfield 27, 3) := dk_180 (a := 0) (b := 27) (dkn dmcX5_become (by decide +kernel)) rfl
theorem dX5_become_81 : decode cX5_become 81 = .ok (.iconst 0, 1) := dk_3 (dkn dmcX5_become (by decide +kernel))
theorem dX5_become_82 : decode cX5_become 82 = .ok (.aload_n 0, 1) := dk_42 (dkn dmcX5_become (by decide +kernel))
theorem dX5_become_83 : decode cX5_become 83 = .ok (.getfield 27, 3) := dk_180 (a := 0) (b := 27) (dkn dmcX5_become (by decide +kernel)) rfl
theorem dX5_become_86 : decode cX5_become 86 = .ok (.iconst 0, 1) := dk_3 (dkn dmcX5_become (by decide +kernel))
theorem dX5_become_87 : decode cX5_become 87 = .ok (.bipush 40, 2) := dk_16 (a := 40) (dkn dmcX5_become (by decide +kernel)) rfl
theorem dX5_become_89 : decode cX5_become 89 = .ok (.invokestatic 30, 3) := dk_184 (a := 0) (b := 30) (dkn dmcX5_become (by decide +kernel)) rfl
theorem dX5_become_92 : decode cX5_become 92 = .ok (.aload_n 0, 1) := dk_42 (dkn dmcX5_become (by decide +kernel))
theorem dX5_become_93 : decode cX5_become 93 = .ok (.aload_n 1, 1) := dk_43 (dkn dmcX5_become (by decide +kernel))
theorem dX5_become_94 : decode cX5_become 94 = .ok (.getfield 36, 3) := dk_180 (a := 0) (b := 36) (dkn dmcX5_become (by decide +kernel)) rfl
theorem dX5_become_97 : decode cX5_become 97 = .ok (.putfield 36, 3) := dk_181 (a := 0) (b := 36) (dkn dmcX5_become (by decide +kernel)) rfl
theorem dX5_become_100 : decode cX5_become 100 = .ok (.aload_n 0, 1) := dk_42 (dkn dmcX5_become (by decide +kernel))
theorem dX5_become_101 : decode cX5_become 101 = .ok (.aload_n 1, 1) := dk_43 (dkn dmcX5_become (by decide +kernel))
theorem dX5_become_102 : decode cX5_become 102 = .ok (.getfield 40, 3) := dk_180 (a := 0) (b := 40) (dkn dmcX5_become (by decide +kernel)) rfl
theorem dX5_become_105 : decode cX5_become 105 = .ok (.putfield 40, 3) := dk_181 (a := 0) (b := 40) (dkn dmcX5_become (by decide +kernel)) rfl
theorem dX5_become_108 : decode cX5_become 108 = .ok (.return_, 1) := dk_177 (dkn dmcX5_become (by decide +kernel))
def dncX5_has : Nat := 0xac030400a7040700a22e1b0900b42a1c1100a218101c17009b1c
theorem dmcX5_has : dkc dncX5_has 26 cX5_has.data.toList 0 = true := by decide +kernel
theorem dX5_has_0 : decode cX5_has 0 = .ok (.iload_n 2, 1) := dk_28 (dkn dmcX5_has (by decide +kernel))
theorem dX5_has_1 : decode cX5_has 1 = .ok (.ifCond .lt 23, 3) := dk_155 (a := 0) (b := 23) (dkn dmcX5_has (by decide +kernel)) rfl
theorem dX5_has_4 : decode cX5_has 4 = .ok (.iload_n 2, 1) := dk_28 (dkn dmcX5_has (by decide +kernel))
theorem dX5_has_5 : decode cX5_has 5 = .ok (.bipush 24, 2) := dk_16 (a := 24) (dkn dmcX5_has (by decide +kernel)) rfl
theorem dX5_has_7 : decode cX5_has 7 = .ok (.if_icmp .ge 17, 3) := dk_162 (a := 0) (b := 17) (dkn dmcX5_has (by decide +kernel)) rfl
theorem dX5_has_10 : decode cX5_has 10 = .ok (.iload_n 2, 1) := dk_28 (dkn dmcX5_has (by decide +kernel))
theorem dX5_has_11 : decode cX5_has 11 = .ok (.aload_n 0, 1) := dk_42 (dkn dmcX5_has (by decide +kernel))
theorem dX5_has_12 : decode cX5_has 12 = .ok (.getfield 9, 3) := dk_180 (a := 0) (b := 9) (dkn dmcX5_has (by decide +kernel)) rfl
theorem dX5_has_15 : decode cX5_has 15 = .ok (.iload_n 1, 1) := dk_27 (dkn dmcX5_has (by decide +kernel))
theorem dX5_has_16 : decode cX5_has 16 = .ok (.iaload, 1) := dk_46 (dkn dmcX5_has (by decide +kernel))
theorem dX5_has_17 : decode cX5_has 17 = .ok (.if_icmp .ge 7, 3) := dk_162 (a := 0) (b := 7) (dkn dmcX5_has (by decide +kernel)) rfl
theorem dX5_has_20 : decode cX5_has 20 = .ok (.iconst 1, 1) := dk_4 (dkn dmcX5_has (by decide +kernel))
theorem dX5_has_21 : decode cX5_has 21 = .ok (.goto 4, 3) := dk_167 (a := 0) (b := 4) (dkn dmcX5_has (by decide +kernel)) rfl
theorem dX5_has_24 : decode cX5_has 24 = .ok (.iconst 0, 1) := dk_3 (dkn dmcX5_has (by decide +kernel))
theorem dX5_has_25 : decode cX5_has 25 = .ok (.ireturn, 1) := dk_172 (dkn dmcX5_has (by decide +kernel))
theorem dX5_firstPart_0 : decode cX5_firstPart 0 = .ok (.iload_n 1, 1) := dk_27 (by decide +kernel)
theorem dX5_firstPart_1 : decode cX5_firstPart 1 = .ok (.bipush 24, 2) := dk_16 (a := 24) (by decide +kernel) rfl
theorem dX5_firstPart_3 : decode cX5_firstPart 3 = .ok (.imul, 1) := dk_104 (by decide +kernel)
theorem dX5_firstPart_4 : decode cX5_firstPart 4 = .ok (.iload_n 2, 1) := dk_28 (by decide +kernel)
theorem dX5_firstPart_5 : decode cX5_firstPart 5 = .ok (.iadd, 1) := dk_96 (by decide +kernel)
theorem dX5_firstPart_6 : decode cX5_firstPart 6 = .ok (.iconst 4, 1) := dk_7 (by decide +kernel)
theorem dX5_firstPart_7 : decode cX5_firstPart 7 = .ok (.imul, 1) := dk_104 (by decide +kernel)
theorem dX5_firstPart_8 : decode cX5_firstPart 8 = .ok (.ireturn, 1) := dk_172 (by decide +kernel)
def dncX5_opOf : Nat := 0xac13100500a72e2f00b61c1b2a0f00b42a1100992b00b61c1b2a
theorem dmcX5_opOf : dkc dncX5_opOf 26 cX5_opOf.data.toList 0 = true := by decide +kernel
theorem dX5_opOf_0 : decode cX5_opOf 0 = .ok (.aload_n 0, 1) := dk_42 (dkn dmcX5_opOf (by decide +kernel))
theorem dX5_opOf_1 : decode cX5_opOf 1 = .ok (.iload_n 1, 1) := dk_27 (dkn dmcX5_opOf (by decide +kernel))
theorem dX5_opOf_2 : decode cX5_opOf 2 = .ok (.iload_n 2, 1) := dk_28 (dkn dmcX5_opOf (by decide +kernel))
theorem dX5_opOf_3 : decode cX5_opOf 3 = .ok (.invokevirtual 43, 3) := dk_182 (a := 0) (b := 43) (dkn dmcX5_opOf (by decide +kernel)) rfl
theorem dX5_opOf_6 : decode cX5_opOf 6 = .ok (.ifCond .eq 17, 3) := dk_153 (a := 0) (b := 17) (dkn dmcX5_opOf (by decide +kernel)) rfl
theorem dX5_opOf_9 : decode cX5_opOf 9 = .ok (.aload_n 0, 1) := dk_42 (dkn dmcX5_opOf (by decide +kernel))
theorem dX5_opOf_10 : decode cX5_opOf 10 = .ok (.getfield 15, 3) := dk_180 (a := 0) (b := 15) (dkn dmcX5_opOf (by decide +kernel)) rfl
theorem dX5_opOf_13 : decode cX5_opOf 13 = .ok (.aload_n 0, 1) := dk_42 (dkn dmcX5_opOf (by decide +kernel))
theorem dX5_opOf_14 : decode cX5_opOf 14 = .ok (.iload_n 1, 1) := dk_27 (dkn dmcX5_opOf (by decide +kernel))
theorem dX5_opOf_15 : decode cX5_opOf 15 = .ok (.iload_n 2, 1) := dk_28 (dkn dmcX5_opOf (by decide +kernel))
theorem dX5_opOf_16 : decode cX5_opOf 16 = .ok (.invokevirtual 47, 3) := dk_182 (a := 0) (b := 47) (dkn dmcX5_opOf (by decide +kernel)) rfl
theorem dX5_opOf_19 : decode cX5_opOf 19 = .ok (.iaload, 1) := dk_46 (dkn dmcX5_opOf (by decide +kernel))
theorem dX5_opOf_20 : decode cX5_opOf 20 = .ok (.goto 5, 3) := dk_167 (a := 0) (b := 5) (dkn dmcX5_opOf (by decide +kernel)) rfl
theorem dX5_opOf_23 : decode cX5_opOf 23 = .ok (.bipush 19, 2) := dk_16 (a := 19) (dkn dmcX5_opOf (by decide +kernel)) rfl
theorem dX5_opOf_25 : decode cX5_opOf 25 = .ok (.ireturn, 1) := dk_172 (dkn dmcX5_opOf (by decide +kernel))
def dncX6_look : Nat := 0xac030400a72600b42a0a00993800b42a3800b5030400a7040700992d00b42a2ab7ffa7010384dbffa72900b6022a2600b560042600b4592a1500993400b62a1c009a2d00b42a2300a21c2600b42a4f03041000b42a3000b604032a2200b51d2a43009a2d00b42a4a00a31b1d3e042900b6032a2600b5042a2200b5032a
theorem dmcX6_look : dkc dncX6_look 125 cX6_look.data.toList 0 = true := by decide +kernel
theorem dX6_look_0 : decode cX6_look 0 = .ok (.aload_n 0, 1) := dk_42 (dkn dmcX6_look (by decide +kernel))
theorem dX6_look_1 : decode cX6_look 1 = .ok (.iconst 0, 1) := dk_3 (dkn dmcX6_look (by decide +kernel))
theorem dX6_look_2 : decode cX6_look 2 = .ok (.putfield 34, 3) := dk_181 (a := 0) (b := 34) (dkn dmcX6_look (by decide +kernel)) rfl
theorem dX6_look_5 : decode cX6_look 5 = .ok (.aload_n 0, 1) := dk_42 (dkn dmcX6_look (by decide +kernel))
theorem dX6_look_6 : decode cX6_look 6 = .ok (.iconst 1, 1) := dk_4 (dkn dmcX6_look (by decide +kernel))
theorem dX6_look_7 : decode cX6_look 7 = .ok (.putfield 38, 3) := dk_181 (a := 0) (b := 38) (dkn dmcX6_look (by decide +kernel)) rfl
theorem dX6_look_10 : decode cX6_look 10 = .ok (.aload_n 0, 1) := dk_42 (dkn dmcX6_look (by decide +kernel))
theorem dX6_look_11 : decode cX6_look 11 = .ok (.iconst 0, 1) := dk_3 (dkn dmcX6_look (by decide +kernel))
theorem dX6_look_12 : decode cX6_look 12 = .ok (.invokevirtual 41, 3) := dk_182 (a := 0) (b := 41) (dkn dmcX6_look (by decide +kernel)) rfl
theorem dX6_look_15 : decode cX6_look 15 = .ok (.iconst 1, 1) := dk_4 (dkn dmcX6_look (by decide +kernel))
theorem dX6_look_16 : decode cX6_look 16 = .ok (.istore_n 3, 1) := dk_62 (dkn dmcX6_look (by decide +kernel))
theorem dX6_look_17 : decode cX6_look 17 = .ok (.iload_n 3, 1) := dk_29 (dkn dmcX6_look (by decide +kernel))
theorem dX6_look_18 : decode cX6_look 18 = .ok (.iload_n 1, 1) := dk_27 (dkn dmcX6_look (by decide +kernel))
theorem dX6_look_19 : decode cX6_look 19 = .ok (.if_icmp .gt 74, 3) := dk_163 (a := 0) (b := 74) (dkn dmcX6_look (by decide +kernel)) rfl
theorem dX6_look_22 : decode cX6_look 22 = .ok (.aload_n 0, 1) := dk_42 (dkn dmcX6_look (by decide +kernel))
theorem dX6_look_23 : decode cX6_look 23 = .ok (.getfield 45, 3) := dk_180 (a := 0) (b := 45) (dkn dmcX6_look (by decide +kernel)) rfl
theorem dX6_look_26 : decode cX6_look 26 = .ok (.ifCond .ne 67, 3) := dk_154 (a := 0) (b := 67) (dkn dmcX6_look (by decide +kernel)) rfl
theorem dX6_look_29 : decode cX6_look 29 = .ok (.aload_n 0, 1) := dk_42 (dkn dmcX6_look (by decide +kernel))
theorem dX6_look_30 : decode cX6_look 30 = .ok (.iload_n 3, 1) := dk_29 (dkn dmcX6_look (by decide +kernel))
theorem dX6_look_31 : decode cX6_look 31 = .ok (.putfield 34, 3) := dk_181 (a := 0) (b := 34) (dkn dmcX6_look (by decide +kernel)) rfl
theorem dX6_look_34 : decode cX6_look 34 = .ok (.aload_n 0, 1) := dk_42 (dkn dmcX6_look (by decide +kernel))
theorem dX6_look_35 : decode cX6_look 35 = .ok (.iconst 0, 1) := dk_3 (dkn dmcX6_look (by decide +kernel))
theorem dX6_look_36 : decode cX6_look 36 = .ok (.iconst 1, 1) := dk_4 (dkn dmcX6_look (by decide +kernel))
theorem dX6_look_37 : decode cX6_look 37 = .ok (.invokevirtual 48, 3) := dk_182 (a := 0) (b := 48) (dkn dmcX6_look (by decide +kernel)) rfl
theorem dX6_look_40 : decode cX6_look 40 = .ok (.aload_n 0, 1) := dk_42 (dkn dmcX6_look (by decide +kernel))
theorem dX6_look_41 : decode cX6_look 41 = .ok (.getfield 16, 3) := dk_180 (a := 0) (b := 16) (dkn dmcX6_look (by decide +kernel)) rfl
theorem dX6_look_44 : decode cX6_look 44 = .ok (.iconst 1, 1) := dk_4 (dkn dmcX6_look (by decide +kernel))
theorem dX6_look_45 : decode cX6_look 45 = .ok (.iconst 0, 1) := dk_3 (dkn dmcX6_look (by decide +kernel))
theorem dX6_look_46 : decode cX6_look 46 = .ok (.iastore, 1) := dk_79 (dkn dmcX6_look (by decide +kernel))
theorem dX6_look_47 : decode cX6_look 47 = .ok (.aload_n 0, 1) := dk_42 (dkn dmcX6_look (by decide +kernel))
theorem dX6_look_48 : decode cX6_look 48 = .ok (.getfield 38, 3) := dk_180 (a := 0) (b := 38) (dkn dmcX6_look (by decide +kernel)) rfl
theorem dX6_look_51 : decode cX6_look 51 = .ok (.iload_n 2, 1) := dk_28 (dkn dmcX6_look (by decide +kernel))
theorem dX6_look_52 : decode cX6_look 52 = .ok (.if_icmp .ge 35, 3) := dk_162 (a := 0) (b := 35) (dkn dmcX6_look (by decide +kernel)) rfl
theorem dX6_look_55 : decode cX6_look 55 = .ok (.aload_n 0, 1) := dk_42 (dkn dmcX6_look (by decide +kernel))
theorem dX6_look_56 : decode cX6_look 56 = .ok (.getfield 45, 3) := dk_180 (a := 0) (b := 45) (dkn dmcX6_look (by decide +kernel)) rfl
theorem dX6_look_59 : decode cX6_look 59 = .ok (.ifCond .ne 28, 3) := dk_154 (a := 0) (b := 28) (dkn dmcX6_look (by decide +kernel)) rfl
theorem dX6_look_62 : decode cX6_look 62 = .ok (.aload_n 0, 1) := dk_42 (dkn dmcX6_look (by decide +kernel))
theorem dX6_look_63 : decode cX6_look 63 = .ok (.invokevirtual 52, 3) := dk_182 (a := 0) (b := 52) (dkn dmcX6_look (by decide +kernel)) rfl
theorem dX6_look_66 : decode cX6_look 66 = .ok (.ifCond .eq 21, 3) := dk_153 (a := 0) (b := 21) (dkn dmcX6_look (by decide +kernel)) rfl
theorem dX6_look_69 : decode cX6_look 69 = .ok (.aload_n 0, 1) := dk_42 (dkn dmcX6_look (by decide +kernel))
theorem dX6_look_70 : decode cX6_look 70 = .ok (.dup, 1) := dk_89 (dkn dmcX6_look (by decide +kernel))
theorem dX6_look_71 : decode cX6_look 71 = .ok (.getfield 38, 3) := dk_180 (a := 0) (b := 38) (dkn dmcX6_look (by decide +kernel)) rfl
theorem dX6_look_74 : decode cX6_look 74 = .ok (.iconst 1, 1) := dk_4 (dkn dmcX6_look (by decide +kernel))
theorem dX6_look_75 : decode cX6_look 75 = .ok (.iadd, 1) := dk_96 (dkn dmcX6_look (by decide +kernel))
theorem dX6_look_76 : decode cX6_look 76 = .ok (.putfield 38, 3) := dk_181 (a := 0) (b := 38) (dkn dmcX6_look (by decide +kernel)) rfl
theorem dX6_look_79 : decode cX6_look 79 = .ok (.aload_n 0, 1) := dk_42 (dkn dmcX6_look (by decide +kernel))
theorem dX6_look_80 : decode cX6_look 80 = .ok (.iconst (-1), 1) := dk_2 (dkn dmcX6_look (by decide +kernel))
theorem dX6_look_81 : decode cX6_look 81 = .ok (.invokevirtual 41, 3) := dk_182 (a := 0) (b := 41) (dkn dmcX6_look (by decide +kernel)) rfl
theorem dX6_look_84 : decode cX6_look 84 = .ok (.goto (-37), 3) := dk_167 (a := 255) (b := 219) (dkn dmcX6_look (by decide +kernel)) rfl
theorem dX6_look_87 : decode cX6_look 87 = .ok (.iinc 3 1, 3) := dk_132 (b := 1) (dkn dmcX6_look (by decide +kernel)) rfl
theorem dX6_look_90 : decode cX6_look 90 = .ok (.goto (-73), 3) := dk_167 (a := 255) (b := 183) (dkn dmcX6_look (by decide +kernel)) rfl
theorem dX6_look_93 : decode cX6_look 93 = .ok (.aload_n 0, 1) := dk_42 (dkn dmcX6_look (by decide +kernel))
theorem dX6_look_94 : decode cX6_look 94 = .ok (.aload_n 0, 1) := dk_42 (dkn dmcX6_look (by decide +kernel))
theorem dX6_look_95 : decode cX6_look 95 = .ok (.getfield 45, 3) := dk_180 (a := 0) (b := 45) (dkn dmcX6_look (by decide +kernel)) rfl
theorem dX6_look_98 : decode cX6_look 98 = .ok (.ifCond .eq 7, 3) := dk_153 (a := 0) (b := 7) (dkn dmcX6_look (by decide +kernel)) rfl
theorem dX6_look_101 : decode cX6_look 101 = .ok (.iconst 1, 1) := dk_4 (dkn dmcX6_look (by decide +kernel))
theorem dX6_look_102 : decode cX6_look 102 = .ok (.goto 4, 3) := dk_167 (a := 0) (b := 4) (dkn dmcX6_look (by decide +kernel)) rfl
theorem dX6_look_105 : decode cX6_look 105 = .ok (.iconst 0, 1) := dk_3 (dkn dmcX6_look (by decide +kernel))
theorem dX6_look_106 : decode cX6_look 106 = .ok (.putfield 56, 3) := dk_181 (a := 0) (b := 56) (dkn dmcX6_look (by decide +kernel)) rfl
theorem dX6_look_109 : decode cX6_look 109 = .ok (.aload_n 0, 1) := dk_42 (dkn dmcX6_look (by decide +kernel))
theorem dX6_look_110 : decode cX6_look 110 = .ok (.getfield 56, 3) := dk_180 (a := 0) (b := 56) (dkn dmcX6_look (by decide +kernel)) rfl
theorem dX6_look_113 : decode cX6_look 113 = .ok (.ifCond .eq 10, 3) := dk_153 (a := 0) (b := 10) (dkn dmcX6_look (by decide +kernel)) rfl
theorem dX6_look_116 : decode cX6_look 116 = .ok (.aload_n 0, 1) := dk_42 (dkn dmcX6_look (by decide +kernel))
theorem dX6_look_117 : decode cX6_look 117 = .ok (.getfield 38, 3) := dk_180 (a := 0) (b := 38) (dkn dmcX6_look (by decide +kernel)) rfl
theorem dX6_look_120 : decode cX6_look 120 = .ok (.goto 4, 3) := dk_167 (a := 0) (b := 4) (dkn dmcX6_look (by decide +kernel)) rfl
theorem dX6_look_123 : decode cX6_look 123 = .ok (.iconst 0, 1) := dk_3 (dkn dmcX6_look (by decide +kernel))
theorem dX6_look_124 : decode cX6_look 124 = .ok (.ireturn, 1) := dk_172 (dkn dmcX6_look (by decide +kernel))
def dncX6_putChanges : Nat := 0xac03c6ffa70101843000b660042e031400b42a042a2200b5052a2900b6042a2200b5042aac0305009a3c00b6032aac040500993c00b6042a3900a2b004111b3c03ac3c00b6032a0900a0042200b42a
theorem dmcX6_putChanges : dkc dncX6_putChanges 79 cX6_putChanges.data.toList 0 = true := by decide +kernel
theorem dX6_putChanges_0 : decode cX6_putChanges 0 = .ok (.aload_n 0, 1) := dk_42 (dkn dmcX6_putChanges (by decide +kernel))
theorem dX6_putChanges_1 : decode cX6_putChanges 1 = .ok (.getfield 34, 3) := dk_180 (a := 0) (b := 34) (dkn dmcX6_putChanges (by decide +kernel)) rfl
theorem dX6_putChanges_4 : decode cX6_putChanges 4 = .ok (.iconst 1, 1) := dk_4 (dkn dmcX6_putChanges (by decide +kernel))
theorem dX6_putChanges_5 : decode cX6_putChanges 5 = .ok (.if_icmp .ne 9, 3) := dk_160 (a := 0) (b := 9) (dkn dmcX6_putChanges (by decide +kernel)) rfl
theorem dX6_putChanges_8 : decode cX6_putChanges 8 = .ok (.aload_n 0, 1) := dk_42 (dkn dmcX6_putChanges (by decide +kernel))
theorem dX6_putChanges_9 : decode cX6_putChanges 9 = .ok (.iconst 0, 1) := dk_3 (dkn dmcX6_putChanges (by decide +kernel))
theorem dX6_putChanges_10 : decode cX6_putChanges 10 = .ok (.invokevirtual 60, 3) := dk_182 (a := 0) (b := 60) (dkn dmcX6_putChanges (by decide +kernel)) rfl
theorem dX6_putChanges_13 : decode cX6_putChanges 13 = .ok (.ireturn, 1) := dk_172 (dkn dmcX6_putChanges (by decide +kernel))
theorem dX6_putChanges_14 : decode cX6_putChanges 14 = .ok (.iconst 0, 1) := dk_3 (dkn dmcX6_putChanges (by decide +kernel))
theorem dX6_putChanges_15 : decode cX6_putChanges 15 = .ok (.istore_n 1, 1) := dk_60 (dkn dmcX6_putChanges (by decide +kernel))
theorem dX6_putChanges_16 : decode cX6_putChanges 16 = .ok (.iload_n 1, 1) := dk_27 (dkn dmcX6_putChanges (by decide +kernel))
theorem dX6_putChanges_17 : decode cX6_putChanges 17 = .ok (.sipush 1200, 3) := dk_17 (a := 4) (b := 176) (dkn dmcX6_putChanges (by decide +kernel)) rfl
theorem dX6_putChanges_20 : decode cX6_putChanges 20 = .ok (.if_icmp .ge 57, 3) := dk_162 (a := 0) (b := 57) (dkn dmcX6_putChanges (by decide +kernel)) rfl
theorem dX6_putChanges_23 : decode cX6_putChanges 23 = .ok (.aload_n 0, 1) := dk_42 (dkn dmcX6_putChanges (by decide +kernel))
theorem dX6_putChanges_24 : decode cX6_putChanges 24 = .ok (.iconst 1, 1) := dk_4 (dkn dmcX6_putChanges (by decide +kernel))
theorem dX6_putChanges_25 : decode cX6_putChanges 25 = .ok (.invokevirtual 60, 3) := dk_182 (a := 0) (b := 60) (dkn dmcX6_putChanges (by decide +kernel)) rfl
theorem dX6_putChanges_28 : decode cX6_putChanges 28 = .ok (.ifCond .eq 5, 3) := dk_153 (a := 0) (b := 5) (dkn dmcX6_putChanges (by decide +kernel)) rfl
theorem dX6_putChanges_31 : decode cX6_putChanges 31 = .ok (.iconst 1, 1) := dk_4 (dkn dmcX6_putChanges (by decide +kernel))
theorem dX6_putChanges_32 : decode cX6_putChanges 32 = .ok (.ireturn, 1) := dk_172 (dkn dmcX6_putChanges (by decide +kernel))
theorem dX6_putChanges_33 : decode cX6_putChanges 33 = .ok (.aload_n 0, 1) := dk_42 (dkn dmcX6_putChanges (by decide +kernel))
theorem dX6_putChanges_34 : decode cX6_putChanges 34 = .ok (.iconst 0, 1) := dk_3 (dkn dmcX6_putChanges (by decide +kernel))
theorem dX6_putChanges_35 : decode cX6_putChanges 35 = .ok (.invokevirtual 60, 3) := dk_182 (a := 0) (b := 60) (dkn dmcX6_putChanges (by decide +kernel)) rfl
theorem dX6_putChanges_38 : decode cX6_putChanges 38 = .ok (.ifCond .ne 5, 3) := dk_154 (a := 0) (b := 5) (dkn dmcX6_putChanges (by decide +kernel)) rfl
theorem dX6_putChanges_41 : decode cX6_putChanges 41 = .ok (.iconst 0, 1) := dk_3 (dkn dmcX6_putChanges (by decide +kernel))
theorem dX6_putChanges_42 : decode cX6_putChanges 42 = .ok (.ireturn, 1) := dk_172 (dkn dmcX6_putChanges (by decide +kernel))
theorem dX6_putChanges_43 : decode cX6_putChanges 43 = .ok (.aload_n 0, 1) := dk_42 (dkn dmcX6_putChanges (by decide +kernel))
theorem dX6_putChanges_44 : decode cX6_putChanges 44 = .ok (.iconst 1, 1) := dk_4 (dkn dmcX6_putChanges (by decide +kernel))
theorem dX6_putChanges_45 : decode cX6_putChanges 45 = .ok (.putfield 34, 3) := dk_181 (a := 0) (b := 34) (dkn dmcX6_putChanges (by decide +kernel)) rfl
theorem dX6_putChanges_48 : decode cX6_putChanges 48 = .ok (.aload_n 0, 1) := dk_42 (dkn dmcX6_putChanges (by decide +kernel))
theorem dX6_putChanges_49 : decode cX6_putChanges 49 = .ok (.iconst 1, 1) := dk_4 (dkn dmcX6_putChanges (by decide +kernel))
theorem dX6_putChanges_50 : decode cX6_putChanges 50 = .ok (.invokevirtual 41, 3) := dk_182 (a := 0) (b := 41) (dkn dmcX6_putChanges (by decide +kernel)) rfl
theorem dX6_putChanges_53 : decode cX6_putChanges 53 = .ok (.aload_n 0, 1) := dk_42 (dkn dmcX6_putChanges (by decide +kernel))
theorem dX6_putChanges_54 : decode cX6_putChanges 54 = .ok (.iconst 2, 1) := dk_5 (dkn dmcX6_putChanges (by decide +kernel))
theorem dX6_putChanges_55 : decode cX6_putChanges 55 = .ok (.putfield 34, 3) := dk_181 (a := 0) (b := 34) (dkn dmcX6_putChanges (by decide +kernel)) rfl
theorem dX6_putChanges_58 : decode cX6_putChanges 58 = .ok (.aload_n 0, 1) := dk_42 (dkn dmcX6_putChanges (by decide +kernel))
theorem dX6_putChanges_59 : decode cX6_putChanges 59 = .ok (.iconst 1, 1) := dk_4 (dkn dmcX6_putChanges (by decide +kernel))
theorem dX6_putChanges_60 : decode cX6_putChanges 60 = .ok (.aload_n 0, 1) := dk_42 (dkn dmcX6_putChanges (by decide +kernel))
theorem dX6_putChanges_61 : decode cX6_putChanges 61 = .ok (.getfield 20, 3) := dk_180 (a := 0) (b := 20) (dkn dmcX6_putChanges (by decide +kernel)) rfl
theorem dX6_putChanges_64 : decode cX6_putChanges 64 = .ok (.iconst 0, 1) := dk_3 (dkn dmcX6_putChanges (by decide +kernel))
theorem dX6_putChanges_65 : decode cX6_putChanges 65 = .ok (.iaload, 1) := dk_46 (dkn dmcX6_putChanges (by decide +kernel))
theorem dX6_putChanges_66 : decode cX6_putChanges 66 = .ok (.iconst 1, 1) := dk_4 (dkn dmcX6_putChanges (by decide +kernel))
theorem dX6_putChanges_67 : decode cX6_putChanges 67 = .ok (.iadd, 1) := dk_96 (dkn dmcX6_putChanges (by decide +kernel))
theorem dX6_putChanges_68 : decode cX6_putChanges 68 = .ok (.invokevirtual 48, 3) := dk_182 (a := 0) (b := 48) (dkn dmcX6_putChanges (by decide +kernel)) rfl
theorem dX6_putChanges_71 : decode cX6_putChanges 71 = .ok (.iinc 1 1, 3) := dk_132 (b := 1) (dkn dmcX6_putChanges (by decide +kernel)) rfl
theorem dX6_putChanges_74 : decode cX6_putChanges 74 = .ok (.goto (-58), 3) := dk_167 (a := 255) (b := 198) (dkn dmcX6_putChanges (by decide +kernel)) rfl
theorem dX6_putChanges_77 : decode cX6_putChanges 77 = .ok (.iconst 0, 1) := dk_3 (dkn dmcX6_putChanges (by decide +kernel))
theorem dX6_putChanges_78 : decode cX6_putChanges 78 = .ok (.ireturn, 1) := dk_172 (dkn dmcX6_putChanges (by decide +kernel))
theorem dX6_putAhead_0 : decode cX6_putAhead 0 = .ok (.aload_n 0, 1) := dk_42 (by decide +kernel)
theorem dX6_putAhead_1 : decode cX6_putAhead 1 = .ok (.getfield 20, 3) := dk_180 (a := 0) (b := 20) (by decide +kernel) rfl
theorem dX6_putAhead_4 : decode cX6_putAhead 4 = .ok (.iload_n 1, 1) := dk_27 (by decide +kernel)
theorem dX6_putAhead_5 : decode cX6_putAhead 5 = .ok (.iload_n 2, 1) := dk_28 (by decide +kernel)
theorem dX6_putAhead_6 : decode cX6_putAhead 6 = .ok (.iastore, 1) := dk_79 (by decide +kernel)
theorem dX6_putAhead_7 : decode cX6_putAhead 7 = .ok (.aload_n 0, 1) := dk_42 (by decide +kernel)
theorem dX6_putAhead_8 : decode cX6_putAhead 8 = .ok (.getfield 23, 3) := dk_180 (a := 0) (b := 23) (by decide +kernel) rfl
theorem dX6_putAhead_11 : decode cX6_putAhead 11 = .ok (.iload_n 1, 1) := dk_27 (by decide +kernel)
theorem dX6_putAhead_12 : decode cX6_putAhead 12 = .ok (.iconst (-1), 1) := dk_2 (by decide +kernel)
theorem dX6_putAhead_13 : decode cX6_putAhead 13 = .ok (.iastore, 1) := dk_79 (by decide +kernel)
theorem dX6_putAhead_14 : decode cX6_putAhead 14 = .ok (.return_, 1) := dk_177 (by decide +kernel)
def dncX6_moveOn : Nat := 0xac03c1ffa70103843d03d6ffa7010484ac044f04151b1700b42a4f1d1b1400b42a1400997e047a04152e1d321b0b00b42a2a00a207041504361c3b00a22e1b1000b42a1d3e2e1b1400b42a3d60042e1b1700b42a
theorem dmcX6_moveOn : dkc dncX6_moveOn 84 cX6_moveOn.data.toList 0 = true := by decide +kernel
theorem dX6_moveOn_0 : decode cX6_moveOn 0 = .ok (.aload_n 0, 1) := dk_42 (dkn dmcX6_moveOn (by decide +kernel))
theorem dX6_moveOn_1 : decode cX6_moveOn 1 = .ok (.getfield 23, 3) := dk_180 (a := 0) (b := 23) (dkn dmcX6_moveOn (by decide +kernel)) rfl
theorem dX6_moveOn_4 : decode cX6_moveOn 4 = .ok (.iload_n 1, 1) := dk_27 (dkn dmcX6_moveOn (by decide +kernel))
theorem dX6_moveOn_5 : decode cX6_moveOn 5 = .ok (.iaload, 1) := dk_46 (dkn dmcX6_moveOn (by decide +kernel))
theorem dX6_moveOn_6 : decode cX6_moveOn 6 = .ok (.iconst 1, 1) := dk_4 (dkn dmcX6_moveOn (by decide +kernel))
theorem dX6_moveOn_7 : decode cX6_moveOn 7 = .ok (.iadd, 1) := dk_96 (dkn dmcX6_moveOn (by decide +kernel))
theorem dX6_moveOn_8 : decode cX6_moveOn 8 = .ok (.istore_n 2, 1) := dk_61 (dkn dmcX6_moveOn (by decide +kernel))
theorem dX6_moveOn_9 : decode cX6_moveOn 9 = .ok (.aload_n 0, 1) := dk_42 (dkn dmcX6_moveOn (by decide +kernel))
theorem dX6_moveOn_10 : decode cX6_moveOn 10 = .ok (.getfield 20, 3) := dk_180 (a := 0) (b := 20) (dkn dmcX6_moveOn (by decide +kernel)) rfl
theorem dX6_moveOn_13 : decode cX6_moveOn 13 = .ok (.iload_n 1, 1) := dk_27 (dkn dmcX6_moveOn (by decide +kernel))
theorem dX6_moveOn_14 : decode cX6_moveOn 14 = .ok (.iaload, 1) := dk_46 (dkn dmcX6_moveOn (by decide +kernel))
theorem dX6_moveOn_15 : decode cX6_moveOn 15 = .ok (.istore_n 3, 1) := dk_62 (dkn dmcX6_moveOn (by decide +kernel))
theorem dX6_moveOn_16 : decode cX6_moveOn 16 = .ok (.iload_n 3, 1) := dk_29 (dkn dmcX6_moveOn (by decide +kernel))
theorem dX6_moveOn_17 : decode cX6_moveOn 17 = .ok (.aload_n 0, 1) := dk_42 (dkn dmcX6_moveOn (by decide +kernel))
theorem dX6_moveOn_18 : decode cX6_moveOn 18 = .ok (.getfield 16, 3) := dk_180 (a := 0) (b := 16) (dkn dmcX6_moveOn (by decide +kernel)) rfl
theorem dX6_moveOn_21 : decode cX6_moveOn 21 = .ok (.iload_n 1, 1) := dk_27 (dkn dmcX6_moveOn (by decide +kernel))
theorem dX6_moveOn_22 : decode cX6_moveOn 22 = .ok (.iaload, 1) := dk_46 (dkn dmcX6_moveOn (by decide +kernel))
theorem dX6_moveOn_23 : decode cX6_moveOn 23 = .ok (.if_icmp .ge 59, 3) := dk_162 (a := 0) (b := 59) (dkn dmcX6_moveOn (by decide +kernel)) rfl
theorem dX6_moveOn_26 : decode cX6_moveOn 26 = .ok (.iload_n 2, 1) := dk_28 (dkn dmcX6_moveOn (by decide +kernel))
theorem dX6_moveOn_27 : decode cX6_moveOn 27 = .ok (.istore 4, 2) := dk_54 (dkn dmcX6_moveOn (by decide +kernel))
theorem dX6_moveOn_29 : decode cX6_moveOn 29 = .ok (.iload 4, 2) := dk_21 (dkn dmcX6_moveOn (by decide +kernel))
theorem dX6_moveOn_31 : decode cX6_moveOn 31 = .ok (.iconst 4, 1) := dk_7 (dkn dmcX6_moveOn (by decide +kernel))
theorem dX6_moveOn_32 : decode cX6_moveOn 32 = .ok (.if_icmp .ge 42, 3) := dk_162 (a := 0) (b := 42) (dkn dmcX6_moveOn (by decide +kernel)) rfl
theorem dX6_moveOn_35 : decode cX6_moveOn 35 = .ok (.aload_n 0, 1) := dk_42 (dkn dmcX6_moveOn (by decide +kernel))
theorem dX6_moveOn_36 : decode cX6_moveOn 36 = .ok (.getfield 11, 3) := dk_180 (a := 0) (b := 11) (dkn dmcX6_moveOn (by decide +kernel)) rfl
theorem dX6_moveOn_39 : decode cX6_moveOn 39 = .ok (.iload_n 1, 1) := dk_27 (dkn dmcX6_moveOn (by decide +kernel))
theorem dX6_moveOn_40 : decode cX6_moveOn 40 = .ok (.aaload, 1) := dk_50 (dkn dmcX6_moveOn (by decide +kernel))
theorem dX6_moveOn_41 : decode cX6_moveOn 41 = .ok (.iload_n 3, 1) := dk_29 (dkn dmcX6_moveOn (by decide +kernel))
theorem dX6_moveOn_42 : decode cX6_moveOn 42 = .ok (.iaload, 1) := dk_46 (dkn dmcX6_moveOn (by decide +kernel))
theorem dX6_moveOn_43 : decode cX6_moveOn 43 = .ok (.iload 4, 2) := dk_21 (dkn dmcX6_moveOn (by decide +kernel))
theorem dX6_moveOn_45 : decode cX6_moveOn 45 = .ok (.ishr, 1) := by decide +kernel
theorem dX6_moveOn_46 : decode cX6_moveOn 46 = .ok (.iconst 1, 1) := dk_4 (dkn dmcX6_moveOn (by decide +kernel))
theorem dX6_moveOn_47 : decode cX6_moveOn 47 = .ok (.iand, 1) := dk_126 (dkn dmcX6_moveOn (by decide +kernel))
theorem dX6_moveOn_48 : decode cX6_moveOn 48 = .ok (.ifCond .eq 20, 3) := dk_153 (a := 0) (b := 20) (dkn dmcX6_moveOn (by decide +kernel)) rfl
theorem dX6_moveOn_51 : decode cX6_moveOn 51 = .ok (.aload_n 0, 1) := dk_42 (dkn dmcX6_moveOn (by decide +kernel))
theorem dX6_moveOn_52 : decode cX6_moveOn 52 = .ok (.getfield 20, 3) := dk_180 (a := 0) (b := 20) (dkn dmcX6_moveOn (by decide +kernel)) rfl
theorem dX6_moveOn_55 : decode cX6_moveOn 55 = .ok (.iload_n 1, 1) := dk_27 (dkn dmcX6_moveOn (by decide +kernel))
theorem dX6_moveOn_56 : decode cX6_moveOn 56 = .ok (.iload_n 3, 1) := dk_29 (dkn dmcX6_moveOn (by decide +kernel))
theorem dX6_moveOn_57 : decode cX6_moveOn 57 = .ok (.iastore, 1) := dk_79 (dkn dmcX6_moveOn (by decide +kernel))
theorem dX6_moveOn_58 : decode cX6_moveOn 58 = .ok (.aload_n 0, 1) := dk_42 (dkn dmcX6_moveOn (by decide +kernel))
theorem dX6_moveOn_59 : decode cX6_moveOn 59 = .ok (.getfield 23, 3) := dk_180 (a := 0) (b := 23) (dkn dmcX6_moveOn (by decide +kernel)) rfl
theorem dX6_moveOn_62 : decode cX6_moveOn 62 = .ok (.iload_n 1, 1) := dk_27 (dkn dmcX6_moveOn (by decide +kernel))
theorem dX6_moveOn_63 : decode cX6_moveOn 63 = .ok (.iload 4, 2) := dk_21 (dkn dmcX6_moveOn (by decide +kernel))
theorem dX6_moveOn_65 : decode cX6_moveOn 65 = .ok (.iastore, 1) := dk_79 (dkn dmcX6_moveOn (by decide +kernel))
theorem dX6_moveOn_66 : decode cX6_moveOn 66 = .ok (.iconst 1, 1) := dk_4 (dkn dmcX6_moveOn (by decide +kernel))
theorem dX6_moveOn_67 : decode cX6_moveOn 67 = .ok (.ireturn, 1) := dk_172 (dkn dmcX6_moveOn (by decide +kernel))
theorem dX6_moveOn_68 : decode cX6_moveOn 68 = .ok (.iinc 4 1, 3) := dk_132 (b := 1) (dkn dmcX6_moveOn (by decide +kernel)) rfl
theorem dX6_moveOn_71 : decode cX6_moveOn 71 = .ok (.goto (-42), 3) := dk_167 (a := 255) (b := 214) (dkn dmcX6_moveOn (by decide +kernel)) rfl
theorem dX6_moveOn_74 : decode cX6_moveOn 74 = .ok (.iconst 0, 1) := dk_3 (dkn dmcX6_moveOn (by decide +kernel))
theorem dX6_moveOn_75 : decode cX6_moveOn 75 = .ok (.istore_n 2, 1) := dk_61 (dkn dmcX6_moveOn (by decide +kernel))
theorem dX6_moveOn_76 : decode cX6_moveOn 76 = .ok (.iinc 3 1, 3) := dk_132 (b := 1) (dkn dmcX6_moveOn (by decide +kernel)) rfl
theorem dX6_moveOn_79 : decode cX6_moveOn 79 = .ok (.goto (-63), 3) := dk_167 (a := 255) (b := 193) (dkn dmcX6_moveOn (by decide +kernel)) rfl
theorem dX6_moveOn_82 : decode cX6_moveOn 82 = .ok (.iconst 0, 1) := dk_3 (dkn dmcX6_moveOn (by decide +kernel))
theorem dX6_moveOn_83 : decode cX6_moveOn 83 = .ok (.ireturn, 1) := dk_172 (dkn dmcX6_moveOn (by decide +kernel))
def dncX6_goThrough : Nat := 0xb14f4f00b42a1b1000b42a0d009f021baeffa74f00b560044f00b4592a3d4b00b61c1e00b42a2d00b55800b61c1e00b42a2a3d5500b61c2a4f5200b61c1e00b42a4f00b42a321b0b00b42a16009f021b43009a2d00b42a4a009b1c4e00a22c01114f00b42a4f00b5032a2d00b5032a3d4b00b6031e00b42a4500b64000b41a00b42a1a00b42a1e00b42a
theorem dmcX6_goThrough : dkc dncX6_goThrough 138 cX6_goThrough.data.toList 0 = true := by decide +kernel
theorem dX6_goThrough_0 : decode cX6_goThrough 0 = .ok (.aload_n 0, 1) := dk_42 (dkn dmcX6_goThrough (by decide +kernel))
theorem dX6_goThrough_1 : decode cX6_goThrough 1 = .ok (.getfield 30, 3) := dk_180 (a := 0) (b := 30) (dkn dmcX6_goThrough (by decide +kernel)) rfl
theorem dX6_goThrough_4 : decode cX6_goThrough 4 = .ok (.aload_n 0, 1) := dk_42 (dkn dmcX6_goThrough (by decide +kernel))
theorem dX6_goThrough_5 : decode cX6_goThrough 5 = .ok (.getfield 26, 3) := dk_180 (a := 0) (b := 26) (dkn dmcX6_goThrough (by decide +kernel)) rfl
theorem dX6_goThrough_8 : decode cX6_goThrough 8 = .ok (.aload_n 0, 1) := dk_42 (dkn dmcX6_goThrough (by decide +kernel))
theorem dX6_goThrough_9 : decode cX6_goThrough 9 = .ok (.getfield 26, 3) := dk_180 (a := 0) (b := 26) (dkn dmcX6_goThrough (by decide +kernel)) rfl
theorem dX6_goThrough_12 : decode cX6_goThrough 12 = .ok (.getfield 64, 3) := dk_180 (a := 0) (b := 64) (dkn dmcX6_goThrough (by decide +kernel)) rfl
theorem dX6_goThrough_15 : decode cX6_goThrough 15 = .ok (.invokevirtual 69, 3) := dk_182 (a := 0) (b := 69) (dkn dmcX6_goThrough (by decide +kernel)) rfl
theorem dX6_goThrough_18 : decode cX6_goThrough 18 = .ok (.aload_n 0, 1) := dk_42 (dkn dmcX6_goThrough (by decide +kernel))
theorem dX6_goThrough_19 : decode cX6_goThrough 19 = .ok (.getfield 30, 3) := dk_180 (a := 0) (b := 30) (dkn dmcX6_goThrough (by decide +kernel)) rfl
theorem dX6_goThrough_22 : decode cX6_goThrough 22 = .ok (.iconst 0, 1) := dk_3 (dkn dmcX6_goThrough (by decide +kernel))
theorem dX6_goThrough_23 : decode cX6_goThrough 23 = .ok (.invokevirtual 75, 3) := dk_182 (a := 0) (b := 75) (dkn dmcX6_goThrough (by decide +kernel)) rfl
theorem dX6_goThrough_26 : decode cX6_goThrough 26 = .ok (.istore_n 2, 1) := dk_61 (dkn dmcX6_goThrough (by decide +kernel))
theorem dX6_goThrough_27 : decode cX6_goThrough 27 = .ok (.aload_n 0, 1) := dk_42 (dkn dmcX6_goThrough (by decide +kernel))
theorem dX6_goThrough_28 : decode cX6_goThrough 28 = .ok (.iconst 0, 1) := dk_3 (dkn dmcX6_goThrough (by decide +kernel))
theorem dX6_goThrough_29 : decode cX6_goThrough 29 = .ok (.putfield 45, 3) := dk_181 (a := 0) (b := 45) (dkn dmcX6_goThrough (by decide +kernel)) rfl
theorem dX6_goThrough_32 : decode cX6_goThrough 32 = .ok (.aload_n 0, 1) := dk_42 (dkn dmcX6_goThrough (by decide +kernel))
theorem dX6_goThrough_33 : decode cX6_goThrough 33 = .ok (.iconst 0, 1) := dk_3 (dkn dmcX6_goThrough (by decide +kernel))
theorem dX6_goThrough_34 : decode cX6_goThrough 34 = .ok (.putfield 79, 3) := dk_181 (a := 0) (b := 79) (dkn dmcX6_goThrough (by decide +kernel)) rfl
theorem dX6_goThrough_37 : decode cX6_goThrough 37 = .ok (.aload_n 0, 1) := dk_42 (dkn dmcX6_goThrough (by decide +kernel))
theorem dX6_goThrough_38 : decode cX6_goThrough 38 = .ok (.getfield 79, 3) := dk_180 (a := 0) (b := 79) (dkn dmcX6_goThrough (by decide +kernel)) rfl
theorem dX6_goThrough_41 : decode cX6_goThrough 41 = .ok (.sipush 300, 3) := dk_17 (a := 1) (b := 44) (dkn dmcX6_goThrough (by decide +kernel)) rfl
theorem dX6_goThrough_44 : decode cX6_goThrough 44 = .ok (.if_icmp .ge 78, 3) := dk_162 (a := 0) (b := 78) (dkn dmcX6_goThrough (by decide +kernel)) rfl
theorem dX6_goThrough_47 : decode cX6_goThrough 47 = .ok (.iload_n 2, 1) := dk_28 (dkn dmcX6_goThrough (by decide +kernel))
theorem dX6_goThrough_48 : decode cX6_goThrough 48 = .ok (.ifCond .lt 74, 3) := dk_155 (a := 0) (b := 74) (dkn dmcX6_goThrough (by decide +kernel)) rfl
theorem dX6_goThrough_51 : decode cX6_goThrough 51 = .ok (.aload_n 0, 1) := dk_42 (dkn dmcX6_goThrough (by decide +kernel))
theorem dX6_goThrough_52 : decode cX6_goThrough 52 = .ok (.getfield 45, 3) := dk_180 (a := 0) (b := 45) (dkn dmcX6_goThrough (by decide +kernel)) rfl
theorem dX6_goThrough_55 : decode cX6_goThrough 55 = .ok (.ifCond .ne 67, 3) := dk_154 (a := 0) (b := 67) (dkn dmcX6_goThrough (by decide +kernel)) rfl
theorem dX6_goThrough_58 : decode cX6_goThrough 58 = .ok (.iload_n 1, 1) := dk_27 (dkn dmcX6_goThrough (by decide +kernel))
theorem dX6_goThrough_59 : decode cX6_goThrough 59 = .ok (.iconst (-1), 1) := dk_2 (dkn dmcX6_goThrough (by decide +kernel))
theorem dX6_goThrough_60 : decode cX6_goThrough 60 = .ok (.if_icmp .eq 22, 3) := dk_159 (a := 0) (b := 22) (dkn dmcX6_goThrough (by decide +kernel)) rfl
theorem dX6_goThrough_63 : decode cX6_goThrough 63 = .ok (.aload_n 0, 1) := dk_42 (dkn dmcX6_goThrough (by decide +kernel))
theorem dX6_goThrough_64 : decode cX6_goThrough 64 = .ok (.getfield 11, 3) := dk_180 (a := 0) (b := 11) (dkn dmcX6_goThrough (by decide +kernel)) rfl
theorem dX6_goThrough_67 : decode cX6_goThrough 67 = .ok (.iload_n 1, 1) := dk_27 (dkn dmcX6_goThrough (by decide +kernel))
theorem dX6_goThrough_68 : decode cX6_goThrough 68 = .ok (.aaload, 1) := dk_50 (dkn dmcX6_goThrough (by decide +kernel))
theorem dX6_goThrough_69 : decode cX6_goThrough 69 = .ok (.aload_n 0, 1) := dk_42 (dkn dmcX6_goThrough (by decide +kernel))
theorem dX6_goThrough_70 : decode cX6_goThrough 70 = .ok (.getfield 79, 3) := dk_180 (a := 0) (b := 79) (dkn dmcX6_goThrough (by decide +kernel)) rfl
theorem dX6_goThrough_73 : decode cX6_goThrough 73 = .ok (.aload_n 0, 1) := dk_42 (dkn dmcX6_goThrough (by decide +kernel))
theorem dX6_goThrough_74 : decode cX6_goThrough 74 = .ok (.getfield 30, 3) := dk_180 (a := 0) (b := 30) (dkn dmcX6_goThrough (by decide +kernel)) rfl
theorem dX6_goThrough_77 : decode cX6_goThrough 77 = .ok (.iload_n 2, 1) := dk_28 (dkn dmcX6_goThrough (by decide +kernel))
theorem dX6_goThrough_78 : decode cX6_goThrough 78 = .ok (.invokevirtual 82, 3) := dk_182 (a := 0) (b := 82) (dkn dmcX6_goThrough (by decide +kernel)) rfl
theorem dX6_goThrough_81 : decode cX6_goThrough 81 = .ok (.iastore, 1) := dk_79 (dkn dmcX6_goThrough (by decide +kernel))
theorem dX6_goThrough_82 : decode cX6_goThrough 82 = .ok (.aload_n 0, 1) := dk_42 (dkn dmcX6_goThrough (by decide +kernel))
theorem dX6_goThrough_83 : decode cX6_goThrough 83 = .ok (.iload_n 2, 1) := dk_28 (dkn dmcX6_goThrough (by decide +kernel))
theorem dX6_goThrough_84 : decode cX6_goThrough 84 = .ok (.invokevirtual 85, 3) := dk_182 (a := 0) (b := 85) (dkn dmcX6_goThrough (by decide +kernel)) rfl
theorem dX6_goThrough_87 : decode cX6_goThrough 87 = .ok (.istore_n 2, 1) := dk_61 (dkn dmcX6_goThrough (by decide +kernel))
theorem dX6_goThrough_88 : decode cX6_goThrough 88 = .ok (.aload_n 0, 1) := dk_42 (dkn dmcX6_goThrough (by decide +kernel))
theorem dX6_goThrough_89 : decode cX6_goThrough 89 = .ok (.aload_n 0, 1) := dk_42 (dkn dmcX6_goThrough (by decide +kernel))
theorem dX6_goThrough_90 : decode cX6_goThrough 90 = .ok (.getfield 30, 3) := dk_180 (a := 0) (b := 30) (dkn dmcX6_goThrough (by decide +kernel)) rfl
theorem dX6_goThrough_93 : decode cX6_goThrough 93 = .ok (.iload_n 2, 1) := dk_28 (dkn dmcX6_goThrough (by decide +kernel))
theorem dX6_goThrough_94 : decode cX6_goThrough 94 = .ok (.invokevirtual 88, 3) := dk_182 (a := 0) (b := 88) (dkn dmcX6_goThrough (by decide +kernel)) rfl
theorem dX6_goThrough_97 : decode cX6_goThrough 97 = .ok (.putfield 45, 3) := dk_181 (a := 0) (b := 45) (dkn dmcX6_goThrough (by decide +kernel)) rfl
theorem dX6_goThrough_100 : decode cX6_goThrough 100 = .ok (.aload_n 0, 1) := dk_42 (dkn dmcX6_goThrough (by decide +kernel))
theorem dX6_goThrough_101 : decode cX6_goThrough 101 = .ok (.getfield 30, 3) := dk_180 (a := 0) (b := 30) (dkn dmcX6_goThrough (by decide +kernel)) rfl
theorem dX6_goThrough_104 : decode cX6_goThrough 104 = .ok (.iload_n 2, 1) := dk_28 (dkn dmcX6_goThrough (by decide +kernel))
theorem dX6_goThrough_105 : decode cX6_goThrough 105 = .ok (.invokevirtual 75, 3) := dk_182 (a := 0) (b := 75) (dkn dmcX6_goThrough (by decide +kernel)) rfl
theorem dX6_goThrough_108 : decode cX6_goThrough 108 = .ok (.istore_n 2, 1) := dk_61 (dkn dmcX6_goThrough (by decide +kernel))
theorem dX6_goThrough_109 : decode cX6_goThrough 109 = .ok (.aload_n 0, 1) := dk_42 (dkn dmcX6_goThrough (by decide +kernel))
theorem dX6_goThrough_110 : decode cX6_goThrough 110 = .ok (.dup, 1) := dk_89 (dkn dmcX6_goThrough (by decide +kernel))
theorem dX6_goThrough_111 : decode cX6_goThrough 111 = .ok (.getfield 79, 3) := dk_180 (a := 0) (b := 79) (dkn dmcX6_goThrough (by decide +kernel)) rfl
theorem dX6_goThrough_114 : decode cX6_goThrough 114 = .ok (.iconst 1, 1) := dk_4 (dkn dmcX6_goThrough (by decide +kernel))
theorem dX6_goThrough_115 : decode cX6_goThrough 115 = .ok (.iadd, 1) := dk_96 (dkn dmcX6_goThrough (by decide +kernel))
theorem dX6_goThrough_116 : decode cX6_goThrough 116 = .ok (.putfield 79, 3) := dk_181 (a := 0) (b := 79) (dkn dmcX6_goThrough (by decide +kernel)) rfl
theorem dX6_goThrough_119 : decode cX6_goThrough 119 = .ok (.goto (-82), 3) := dk_167 (a := 255) (b := 174) (dkn dmcX6_goThrough (by decide +kernel)) rfl
theorem dX6_goThrough_122 : decode cX6_goThrough 122 = .ok (.iload_n 1, 1) := dk_27 (dkn dmcX6_goThrough (by decide +kernel))
theorem dX6_goThrough_123 : decode cX6_goThrough 123 = .ok (.iconst (-1), 1) := dk_2 (dkn dmcX6_goThrough (by decide +kernel))
theorem dX6_goThrough_124 : decode cX6_goThrough 124 = .ok (.if_icmp .eq 13, 3) := dk_159 (a := 0) (b := 13) (dkn dmcX6_goThrough (by decide +kernel)) rfl
theorem dX6_goThrough_127 : decode cX6_goThrough 127 = .ok (.aload_n 0, 1) := dk_42 (dkn dmcX6_goThrough (by decide +kernel))
theorem dX6_goThrough_128 : decode cX6_goThrough 128 = .ok (.getfield 16, 3) := dk_180 (a := 0) (b := 16) (dkn dmcX6_goThrough (by decide +kernel)) rfl
theorem dX6_goThrough_131 : decode cX6_goThrough 131 = .ok (.iload_n 1, 1) := dk_27 (dkn dmcX6_goThrough (by decide +kernel))
theorem dX6_goThrough_132 : decode cX6_goThrough 132 = .ok (.aload_n 0, 1) := dk_42 (dkn dmcX6_goThrough (by decide +kernel))
theorem dX6_goThrough_133 : decode cX6_goThrough 133 = .ok (.getfield 79, 3) := dk_180 (a := 0) (b := 79) (dkn dmcX6_goThrough (by decide +kernel)) rfl
theorem dX6_goThrough_136 : decode cX6_goThrough 136 = .ok (.iastore, 1) := dk_79 (dkn dmcX6_goThrough (by decide +kernel))
theorem dX6_goThrough_137 : decode cX6_goThrough 137 = .ok (.return_, 1) := dk_177 (dkn dmcX6_goThrough (by decide +kernel))
def dncX6_chosen : Nat := 0xac1bdcffa7010284ac2e1c1700b42a0a00a04f00b42a2e1c1400b42a1d00a2051c2200a22200b42a1c3d03
theorem dmcX6_chosen : dkc dncX6_chosen 43 cX6_chosen.data.toList 0 = true := by decide +kernel
theorem dX6_chosen_0 : decode cX6_chosen 0 = .ok (.iconst 0, 1) := dk_3 (dkn dmcX6_chosen (by decide +kernel))
theorem dX6_chosen_1 : decode cX6_chosen 1 = .ok (.istore_n 2, 1) := dk_61 (dkn dmcX6_chosen (by decide +kernel))
theorem dX6_chosen_2 : decode cX6_chosen 2 = .ok (.iload_n 2, 1) := dk_28 (dkn dmcX6_chosen (by decide +kernel))
theorem dX6_chosen_3 : decode cX6_chosen 3 = .ok (.aload_n 0, 1) := dk_42 (dkn dmcX6_chosen (by decide +kernel))
theorem dX6_chosen_4 : decode cX6_chosen 4 = .ok (.getfield 34, 3) := dk_180 (a := 0) (b := 34) (dkn dmcX6_chosen (by decide +kernel)) rfl
theorem dX6_chosen_7 : decode cX6_chosen 7 = .ok (.if_icmp .ge 34, 3) := dk_162 (a := 0) (b := 34) (dkn dmcX6_chosen (by decide +kernel)) rfl
theorem dX6_chosen_10 : decode cX6_chosen 10 = .ok (.iload_n 2, 1) := dk_28 (dkn dmcX6_chosen (by decide +kernel))
theorem dX6_chosen_11 : decode cX6_chosen 11 = .ok (.iconst 2, 1) := dk_5 (dkn dmcX6_chosen (by decide +kernel))
theorem dX6_chosen_12 : decode cX6_chosen 12 = .ok (.if_icmp .ge 29, 3) := dk_162 (a := 0) (b := 29) (dkn dmcX6_chosen (by decide +kernel)) rfl
theorem dX6_chosen_15 : decode cX6_chosen 15 = .ok (.aload_n 0, 1) := dk_42 (dkn dmcX6_chosen (by decide +kernel))
theorem dX6_chosen_16 : decode cX6_chosen 16 = .ok (.getfield 20, 3) := dk_180 (a := 0) (b := 20) (dkn dmcX6_chosen (by decide +kernel)) rfl
theorem dX6_chosen_19 : decode cX6_chosen 19 = .ok (.iload_n 2, 1) := dk_28 (dkn dmcX6_chosen (by decide +kernel))
theorem dX6_chosen_20 : decode cX6_chosen 20 = .ok (.iaload, 1) := dk_46 (dkn dmcX6_chosen (by decide +kernel))
theorem dX6_chosen_21 : decode cX6_chosen 21 = .ok (.aload_n 0, 1) := dk_42 (dkn dmcX6_chosen (by decide +kernel))
theorem dX6_chosen_22 : decode cX6_chosen 22 = .ok (.getfield 79, 3) := dk_180 (a := 0) (b := 79) (dkn dmcX6_chosen (by decide +kernel)) rfl
theorem dX6_chosen_25 : decode cX6_chosen 25 = .ok (.if_icmp .ne 10, 3) := dk_160 (a := 0) (b := 10) (dkn dmcX6_chosen (by decide +kernel)) rfl
theorem dX6_chosen_28 : decode cX6_chosen 28 = .ok (.aload_n 0, 1) := dk_42 (dkn dmcX6_chosen (by decide +kernel))
theorem dX6_chosen_29 : decode cX6_chosen 29 = .ok (.getfield 23, 3) := dk_180 (a := 0) (b := 23) (dkn dmcX6_chosen (by decide +kernel)) rfl
theorem dX6_chosen_32 : decode cX6_chosen 32 = .ok (.iload_n 2, 1) := dk_28 (dkn dmcX6_chosen (by decide +kernel))
theorem dX6_chosen_33 : decode cX6_chosen 33 = .ok (.iaload, 1) := dk_46 (dkn dmcX6_chosen (by decide +kernel))
theorem dX6_chosen_34 : decode cX6_chosen 34 = .ok (.ireturn, 1) := dk_172 (dkn dmcX6_chosen (by decide +kernel))
theorem dX6_chosen_35 : decode cX6_chosen 35 = .ok (.iinc 2 1, 3) := dk_132 (b := 1) (dkn dmcX6_chosen (by decide +kernel)) rfl
theorem dX6_chosen_38 : decode cX6_chosen 38 = .ok (.goto (-36), 3) := dk_167 (a := 255) (b := 220) (dkn dmcX6_chosen (by decide +kernel)) rfl
theorem dX6_chosen_41 : decode cX6_chosen 41 = .ok (.iload_n 1, 1) := dk_27 (dkn dmcX6_chosen (by decide +kernel))
theorem dX6_chosen_42 : decode cX6_chosen 42 = .ok (.ireturn, 1) := dk_172 (dkn dmcX6_chosen (by decide +kernel))
def dncX10_record : Nat := 0xb15500b55200b42b2a4f00b54c00b42b2a4900b54500b62b2a2a4100b62b2a3d00b63700b42b2b2a3400b5032a3100b5032a2d00b5032a
theorem dmcX10_record : dkc dncX10_record 55 cX10_record.data.toList 0 = true := by decide +kernel
theorem dX10_record_0 : decode cX10_record 0 = .ok (.aload_n 0, 1) := dk_42 (dkn dmcX10_record (by decide +kernel))
theorem dX10_record_1 : decode cX10_record 1 = .ok (.iconst 0, 1) := dk_3 (dkn dmcX10_record (by decide +kernel))
theorem dX10_record_2 : decode cX10_record 2 = .ok (.putfield 45, 3) := dk_181 (a := 0) (b := 45) (dkn dmcX10_record (by decide +kernel)) rfl
theorem dX10_record_5 : decode cX10_record 5 = .ok (.aload_n 0, 1) := dk_42 (dkn dmcX10_record (by decide +kernel))
theorem dX10_record_6 : decode cX10_record 6 = .ok (.iconst 0, 1) := dk_3 (dkn dmcX10_record (by decide +kernel))
theorem dX10_record_7 : decode cX10_record 7 = .ok (.putfield 49, 3) := dk_181 (a := 0) (b := 49) (dkn dmcX10_record (by decide +kernel)) rfl
theorem dX10_record_10 : decode cX10_record 10 = .ok (.aload_n 0, 1) := dk_42 (dkn dmcX10_record (by decide +kernel))
theorem dX10_record_11 : decode cX10_record 11 = .ok (.iconst 0, 1) := dk_3 (dkn dmcX10_record (by decide +kernel))
theorem dX10_record_12 : decode cX10_record 12 = .ok (.putfield 52, 3) := dk_181 (a := 0) (b := 52) (dkn dmcX10_record (by decide +kernel)) rfl
theorem dX10_record_15 : decode cX10_record 15 = .ok (.aload_n 0, 1) := dk_42 (dkn dmcX10_record (by decide +kernel))
theorem dX10_record_16 : decode cX10_record 16 = .ok (.aload_n 1, 1) := dk_43 (dkn dmcX10_record (by decide +kernel))
theorem dX10_record_17 : decode cX10_record 17 = .ok (.aload_n 1, 1) := dk_43 (dkn dmcX10_record (by decide +kernel))
theorem dX10_record_18 : decode cX10_record 18 = .ok (.getfield 55, 3) := dk_180 (a := 0) (b := 55) (dkn dmcX10_record (by decide +kernel)) rfl
theorem dX10_record_21 : decode cX10_record 21 = .ok (.invokevirtual 61, 3) := dk_182 (a := 0) (b := 61) (dkn dmcX10_record (by decide +kernel)) rfl
theorem dX10_record_24 : decode cX10_record 24 = .ok (.aload_n 0, 1) := dk_42 (dkn dmcX10_record (by decide +kernel))
theorem dX10_record_25 : decode cX10_record 25 = .ok (.aload_n 1, 1) := dk_43 (dkn dmcX10_record (by decide +kernel))
theorem dX10_record_26 : decode cX10_record 26 = .ok (.invokevirtual 65, 3) := dk_182 (a := 0) (b := 65) (dkn dmcX10_record (by decide +kernel)) rfl
theorem dX10_record_29 : decode cX10_record 29 = .ok (.aload_n 0, 1) := dk_42 (dkn dmcX10_record (by decide +kernel))
theorem dX10_record_30 : decode cX10_record 30 = .ok (.aload_n 0, 1) := dk_42 (dkn dmcX10_record (by decide +kernel))
theorem dX10_record_31 : decode cX10_record 31 = .ok (.aload_n 1, 1) := dk_43 (dkn dmcX10_record (by decide +kernel))
theorem dX10_record_32 : decode cX10_record 32 = .ok (.invokevirtual 69, 3) := dk_182 (a := 0) (b := 69) (dkn dmcX10_record (by decide +kernel)) rfl
theorem dX10_record_35 : decode cX10_record 35 = .ok (.putfield 73, 3) := dk_181 (a := 0) (b := 73) (dkn dmcX10_record (by decide +kernel)) rfl
theorem dX10_record_38 : decode cX10_record 38 = .ok (.aload_n 0, 1) := dk_42 (dkn dmcX10_record (by decide +kernel))
theorem dX10_record_39 : decode cX10_record 39 = .ok (.aload_n 1, 1) := dk_43 (dkn dmcX10_record (by decide +kernel))
theorem dX10_record_40 : decode cX10_record 40 = .ok (.getfield 76, 3) := dk_180 (a := 0) (b := 76) (dkn dmcX10_record (by decide +kernel)) rfl
theorem dX10_record_43 : decode cX10_record 43 = .ok (.putfield 79, 3) := dk_181 (a := 0) (b := 79) (dkn dmcX10_record (by decide +kernel)) rfl
theorem dX10_record_46 : decode cX10_record 46 = .ok (.aload_n 0, 1) := dk_42 (dkn dmcX10_record (by decide +kernel))
theorem dX10_record_47 : decode cX10_record 47 = .ok (.aload_n 1, 1) := dk_43 (dkn dmcX10_record (by decide +kernel))
theorem dX10_record_48 : decode cX10_record 48 = .ok (.getfield 82, 3) := dk_180 (a := 0) (b := 82) (dkn dmcX10_record (by decide +kernel)) rfl
theorem dX10_record_51 : decode cX10_record 51 = .ok (.putfield 85, 3) := dk_181 (a := 0) (b := 85) (dkn dmcX10_record (by decide +kernel)) rfl
theorem dX10_record_54 : decode cX10_record 54 = .ok (.return_, 1) := dk_177 (dkn dmcX10_record (by decide +kernel))
def dncX10_latestThread : Nat := 0xac030400a72e2d00b42a0900b42a0f00a32c01112d00b42a19009e2d00b42a
theorem dmcX10_latestThread : dkc dncX10_latestThread 31 cX10_latestThread.data.toList 0 = true := by decide +kernel
theorem dX10_latestThread_0 : decode cX10_latestThread 0 = .ok (.aload_n 0, 1) := dk_42 (dkn dmcX10_latestThread (by decide +kernel))
theorem dX10_latestThread_1 : decode cX10_latestThread 1 = .ok (.getfield 45, 3) := dk_180 (a := 0) (b := 45) (dkn dmcX10_latestThread (by decide +kernel)) rfl
theorem dX10_latestThread_4 : decode cX10_latestThread 4 = .ok (.ifCond .le 25, 3) := dk_158 (a := 0) (b := 25) (dkn dmcX10_latestThread (by decide +kernel)) rfl
theorem dX10_latestThread_7 : decode cX10_latestThread 7 = .ok (.aload_n 0, 1) := dk_42 (dkn dmcX10_latestThread (by decide +kernel))
theorem dX10_latestThread_8 : decode cX10_latestThread 8 = .ok (.getfield 45, 3) := dk_180 (a := 0) (b := 45) (dkn dmcX10_latestThread (by decide +kernel)) rfl
theorem dX10_latestThread_11 : decode cX10_latestThread 11 = .ok (.sipush 300, 3) := dk_17 (a := 1) (b := 44) (dkn dmcX10_latestThread (by decide +kernel)) rfl
theorem dX10_latestThread_14 : decode cX10_latestThread 14 = .ok (.if_icmp .gt 15, 3) := dk_163 (a := 0) (b := 15) (dkn dmcX10_latestThread (by decide +kernel)) rfl
theorem dX10_latestThread_17 : decode cX10_latestThread 17 = .ok (.aload_n 0, 1) := dk_42 (dkn dmcX10_latestThread (by decide +kernel))
theorem dX10_latestThread_18 : decode cX10_latestThread 18 = .ok (.getfield 9, 3) := dk_180 (a := 0) (b := 9) (dkn dmcX10_latestThread (by decide +kernel)) rfl
theorem dX10_latestThread_21 : decode cX10_latestThread 21 = .ok (.aload_n 0, 1) := dk_42 (dkn dmcX10_latestThread (by decide +kernel))
theorem dX10_latestThread_22 : decode cX10_latestThread 22 = .ok (.getfield 45, 3) := dk_180 (a := 0) (b := 45) (dkn dmcX10_latestThread (by decide +kernel)) rfl
theorem dX10_latestThread_25 : decode cX10_latestThread 25 = .ok (.iaload, 1) := dk_46 (dkn dmcX10_latestThread (by decide +kernel))
theorem dX10_latestThread_26 : decode cX10_latestThread 26 = .ok (.goto 4, 3) := dk_167 (a := 0) (b := 4) (dkn dmcX10_latestThread (by decide +kernel)) rfl
theorem dX10_latestThread_29 : decode cX10_latestThread 29 = .ok (.iconst 0, 1) := dk_3 (dkn dmcX10_latestThread (by decide +kernel))
theorem dX10_latestThread_30 : decode cX10_latestThread 30 = .ok (.ireturn, 1) := dk_172 (dkn dmcX10_latestThread (by decide +kernel))
def dncX10_takeTurns : Nat := 0xb1c2ffa7010384e4ffa701068405366100b604152b2a12009905151700a22e1d5e00b42c061506360305360404362e1d5b00b42c3600a228101d3c00a25600b42c1d3e03
theorem dmcX10_takeTurns : dkc dncX10_takeTurns 68 cX10_takeTurns.data.toList 0 = true := by decide +kernel
theorem dX10_takeTurns_0 : decode cX10_takeTurns 0 = .ok (.iconst 0, 1) := dk_3 (dkn dmcX10_takeTurns (by decide +kernel))
theorem dX10_takeTurns_1 : decode cX10_takeTurns 1 = .ok (.istore_n 3, 1) := dk_62 (dkn dmcX10_takeTurns (by decide +kernel))
theorem dX10_takeTurns_2 : decode cX10_takeTurns 2 = .ok (.iload_n 3, 1) := dk_29 (dkn dmcX10_takeTurns (by decide +kernel))
theorem dX10_takeTurns_3 : decode cX10_takeTurns 3 = .ok (.aload_n 2, 1) := dk_44 (dkn dmcX10_takeTurns (by decide +kernel))
theorem dX10_takeTurns_4 : decode cX10_takeTurns 4 = .ok (.getfield 86, 3) := dk_180 (a := 0) (b := 86) (dkn dmcX10_takeTurns (by decide +kernel)) rfl
theorem dX10_takeTurns_7 : decode cX10_takeTurns 7 = .ok (.if_icmp .ge 60, 3) := dk_162 (a := 0) (b := 60) (dkn dmcX10_takeTurns (by decide +kernel)) rfl
theorem dX10_takeTurns_10 : decode cX10_takeTurns 10 = .ok (.iload_n 3, 1) := dk_29 (dkn dmcX10_takeTurns (by decide +kernel))
theorem dX10_takeTurns_11 : decode cX10_takeTurns 11 = .ok (.bipush 40, 2) := dk_16 (a := 40) (dkn dmcX10_takeTurns (by decide +kernel)) rfl
theorem dX10_takeTurns_13 : decode cX10_takeTurns 13 = .ok (.if_icmp .ge 54, 3) := dk_162 (a := 0) (b := 54) (dkn dmcX10_takeTurns (by decide +kernel)) rfl
theorem dX10_takeTurns_16 : decode cX10_takeTurns 16 = .ok (.aload_n 2, 1) := dk_44 (dkn dmcX10_takeTurns (by decide +kernel))
theorem dX10_takeTurns_17 : decode cX10_takeTurns 17 = .ok (.getfield 91, 3) := dk_180 (a := 0) (b := 91) (dkn dmcX10_takeTurns (by decide +kernel)) rfl
theorem dX10_takeTurns_20 : decode cX10_takeTurns 20 = .ok (.iload_n 3, 1) := dk_29 (dkn dmcX10_takeTurns (by decide +kernel))
theorem dX10_takeTurns_21 : decode cX10_takeTurns 21 = .ok (.iaload, 1) := dk_46 (dkn dmcX10_takeTurns (by decide +kernel))
theorem dX10_takeTurns_22 : decode cX10_takeTurns 22 = .ok (.istore 4, 2) := dk_54 (dkn dmcX10_takeTurns (by decide +kernel))
theorem dX10_takeTurns_24 : decode cX10_takeTurns 24 = .ok (.iconst 1, 1) := dk_4 (dkn dmcX10_takeTurns (by decide +kernel))
theorem dX10_takeTurns_25 : decode cX10_takeTurns 25 = .ok (.istore 5, 2) := dk_54 (dkn dmcX10_takeTurns (by decide +kernel))
theorem dX10_takeTurns_27 : decode cX10_takeTurns 27 = .ok (.iconst 0, 1) := dk_3 (dkn dmcX10_takeTurns (by decide +kernel))
theorem dX10_takeTurns_28 : decode cX10_takeTurns 28 = .ok (.istore 6, 2) := dk_54 (dkn dmcX10_takeTurns (by decide +kernel))
theorem dX10_takeTurns_30 : decode cX10_takeTurns 30 = .ok (.iload 6, 2) := dk_21 (dkn dmcX10_takeTurns (by decide +kernel))
theorem dX10_takeTurns_32 : decode cX10_takeTurns 32 = .ok (.aload_n 2, 1) := dk_44 (dkn dmcX10_takeTurns (by decide +kernel))
theorem dX10_takeTurns_33 : decode cX10_takeTurns 33 = .ok (.getfield 94, 3) := dk_180 (a := 0) (b := 94) (dkn dmcX10_takeTurns (by decide +kernel)) rfl
theorem dX10_takeTurns_36 : decode cX10_takeTurns 36 = .ok (.iload_n 3, 1) := dk_29 (dkn dmcX10_takeTurns (by decide +kernel))
theorem dX10_takeTurns_37 : decode cX10_takeTurns 37 = .ok (.iaload, 1) := dk_46 (dkn dmcX10_takeTurns (by decide +kernel))
theorem dX10_takeTurns_38 : decode cX10_takeTurns 38 = .ok (.if_icmp .ge 23, 3) := dk_162 (a := 0) (b := 23) (dkn dmcX10_takeTurns (by decide +kernel)) rfl
theorem dX10_takeTurns_41 : decode cX10_takeTurns 41 = .ok (.iload 5, 2) := dk_21 (dkn dmcX10_takeTurns (by decide +kernel))
theorem dX10_takeTurns_43 : decode cX10_takeTurns 43 = .ok (.ifCond .eq 18, 3) := dk_153 (a := 0) (b := 18) (dkn dmcX10_takeTurns (by decide +kernel)) rfl
theorem dX10_takeTurns_46 : decode cX10_takeTurns 46 = .ok (.aload_n 0, 1) := dk_42 (dkn dmcX10_takeTurns (by decide +kernel))
theorem dX10_takeTurns_47 : decode cX10_takeTurns 47 = .ok (.aload_n 1, 1) := dk_43 (dkn dmcX10_takeTurns (by decide +kernel))
theorem dX10_takeTurns_48 : decode cX10_takeTurns 48 = .ok (.iload 4, 2) := dk_21 (dkn dmcX10_takeTurns (by decide +kernel))
theorem dX10_takeTurns_50 : decode cX10_takeTurns 50 = .ok (.invokevirtual 97, 3) := dk_182 (a := 0) (b := 97) (dkn dmcX10_takeTurns (by decide +kernel)) rfl
theorem dX10_takeTurns_53 : decode cX10_takeTurns 53 = .ok (.istore 5, 2) := dk_54 (dkn dmcX10_takeTurns (by decide +kernel))
theorem dX10_takeTurns_55 : decode cX10_takeTurns 55 = .ok (.iinc 6 1, 3) := dk_132 (b := 1) (dkn dmcX10_takeTurns (by decide +kernel)) rfl
theorem dX10_takeTurns_58 : decode cX10_takeTurns 58 = .ok (.goto (-28), 3) := dk_167 (a := 255) (b := 228) (dkn dmcX10_takeTurns (by decide +kernel)) rfl
theorem dX10_takeTurns_61 : decode cX10_takeTurns 61 = .ok (.iinc 3 1, 3) := dk_132 (b := 1) (dkn dmcX10_takeTurns (by decide +kernel)) rfl
theorem dX10_takeTurns_64 : decode cX10_takeTurns 64 = .ok (.goto (-62), 3) := dk_167 (a := 255) (b := 194) (dkn dmcX10_takeTurns (by decide +kernel)) rfl
theorem dX10_takeTurns_67 : decode cX10_takeTurns 67 = .ok (.return_, 1) := dk_177 (dkn dmcX10_takeTurns (by decide +kernel))
def dncX10_goOn : Nat := 0xb1d3ffa70103843d030400a7040700996100b604152b2a11009b041504366900b66500b62a2b2800991c2c00a22c01111d3e033d04
theorem dmcX10_goOn : dkc dncX10_goOn 53 cX10_goOn.data.toList 0 = true := by decide +kernel
theorem dX10_goOn_0 : decode cX10_goOn 0 = .ok (.iconst 1, 1) := dk_4 (dkn dmcX10_goOn (by decide +kernel))
theorem dX10_goOn_1 : decode cX10_goOn 1 = .ok (.istore_n 2, 1) := dk_61 (dkn dmcX10_goOn (by decide +kernel))
theorem dX10_goOn_2 : decode cX10_goOn 2 = .ok (.iconst 0, 1) := dk_3 (dkn dmcX10_goOn (by decide +kernel))
theorem dX10_goOn_3 : decode cX10_goOn 3 = .ok (.istore_n 3, 1) := dk_62 (dkn dmcX10_goOn (by decide +kernel))
theorem dX10_goOn_4 : decode cX10_goOn 4 = .ok (.iload_n 3, 1) := dk_29 (dkn dmcX10_goOn (by decide +kernel))
theorem dX10_goOn_5 : decode cX10_goOn 5 = .ok (.sipush 300, 3) := dk_17 (a := 1) (b := 44) (dkn dmcX10_goOn (by decide +kernel)) rfl
theorem dX10_goOn_8 : decode cX10_goOn 8 = .ok (.if_icmp .ge 44, 3) := dk_162 (a := 0) (b := 44) (dkn dmcX10_goOn (by decide +kernel)) rfl
theorem dX10_goOn_11 : decode cX10_goOn 11 = .ok (.iload_n 2, 1) := dk_28 (dkn dmcX10_goOn (by decide +kernel))
theorem dX10_goOn_12 : decode cX10_goOn 12 = .ok (.ifCond .eq 40, 3) := dk_153 (a := 0) (b := 40) (dkn dmcX10_goOn (by decide +kernel)) rfl
theorem dX10_goOn_15 : decode cX10_goOn 15 = .ok (.aload_n 1, 1) := dk_43 (dkn dmcX10_goOn (by decide +kernel))
theorem dX10_goOn_16 : decode cX10_goOn 16 = .ok (.aload_n 0, 1) := dk_42 (dkn dmcX10_goOn (by decide +kernel))
theorem dX10_goOn_17 : decode cX10_goOn 17 = .ok (.invokevirtual 101, 3) := dk_182 (a := 0) (b := 101) (dkn dmcX10_goOn (by decide +kernel)) rfl
theorem dX10_goOn_20 : decode cX10_goOn 20 = .ok (.invokevirtual 105, 3) := dk_182 (a := 0) (b := 105) (dkn dmcX10_goOn (by decide +kernel)) rfl
theorem dX10_goOn_23 : decode cX10_goOn 23 = .ok (.istore 4, 2) := dk_54 (dkn dmcX10_goOn (by decide +kernel))
theorem dX10_goOn_25 : decode cX10_goOn 25 = .ok (.iload 4, 2) := dk_21 (dkn dmcX10_goOn (by decide +kernel))
theorem dX10_goOn_27 : decode cX10_goOn 27 = .ok (.ifCond .lt 17, 3) := dk_155 (a := 0) (b := 17) (dkn dmcX10_goOn (by decide +kernel)) rfl
theorem dX10_goOn_30 : decode cX10_goOn 30 = .ok (.aload_n 0, 1) := dk_42 (dkn dmcX10_goOn (by decide +kernel))
theorem dX10_goOn_31 : decode cX10_goOn 31 = .ok (.aload_n 1, 1) := dk_43 (dkn dmcX10_goOn (by decide +kernel))
theorem dX10_goOn_32 : decode cX10_goOn 32 = .ok (.iload 4, 2) := dk_21 (dkn dmcX10_goOn (by decide +kernel))
theorem dX10_goOn_34 : decode cX10_goOn 34 = .ok (.invokevirtual 97, 3) := dk_182 (a := 0) (b := 97) (dkn dmcX10_goOn (by decide +kernel)) rfl
theorem dX10_goOn_37 : decode cX10_goOn 37 = .ok (.ifCond .eq 7, 3) := dk_153 (a := 0) (b := 7) (dkn dmcX10_goOn (by decide +kernel)) rfl
theorem dX10_goOn_40 : decode cX10_goOn 40 = .ok (.iconst 1, 1) := dk_4 (dkn dmcX10_goOn (by decide +kernel))
theorem dX10_goOn_41 : decode cX10_goOn 41 = .ok (.goto 4, 3) := dk_167 (a := 0) (b := 4) (dkn dmcX10_goOn (by decide +kernel)) rfl
theorem dX10_goOn_44 : decode cX10_goOn 44 = .ok (.iconst 0, 1) := dk_3 (dkn dmcX10_goOn (by decide +kernel))
theorem dX10_goOn_45 : decode cX10_goOn 45 = .ok (.istore_n 2, 1) := dk_61 (dkn dmcX10_goOn (by decide +kernel))
theorem dX10_goOn_46 : decode cX10_goOn 46 = .ok (.iinc 3 1, 3) := dk_132 (b := 1) (dkn dmcX10_goOn (by decide +kernel)) rfl
theorem dX10_goOn_49 : decode cX10_goOn 49 = .ok (.goto (-45), 3) := dk_167 (a := 255) (b := 211) (dkn dmcX10_goOn (by decide +kernel)) rfl
theorem dX10_goOn_52 : decode cX10_goOn 52 = .ok (.return_, 1) := dk_177 (dkn dmcX10_goOn (by decide +kernel))
def dncX10_advance : Nat := 0xac047b00b62b2a4f7700b61d1c3700b42b2d00b42a1200b42a4f1d2d00b42a0f00b42a4f1c2d00b42a0900b42a2d00b560042d00b4592a7300b61c2a3400b504152aac030500a002041504367000b61c2b3e6d00b61c2bac030500a12c01112d00b42a0d009a3400b42a
theorem dmcX10_advance : dkc dncX10_advance 106 cX10_advance.data.toList 0 = true := by decide +kernel
theorem dX10_advance_0 : decode cX10_advance 0 = .ok (.aload_n 0, 1) := dk_42 (dkn dmcX10_advance (by decide +kernel))
theorem dX10_advance_1 : decode cX10_advance 1 = .ok (.getfield 52, 3) := dk_180 (a := 0) (b := 52) (dkn dmcX10_advance (by decide +kernel)) rfl
theorem dX10_advance_4 : decode cX10_advance 4 = .ok (.ifCond .ne 13, 3) := dk_154 (a := 0) (b := 13) (dkn dmcX10_advance (by decide +kernel)) rfl
theorem dX10_advance_7 : decode cX10_advance 7 = .ok (.aload_n 0, 1) := dk_42 (dkn dmcX10_advance (by decide +kernel))
theorem dX10_advance_8 : decode cX10_advance 8 = .ok (.getfield 45, 3) := dk_180 (a := 0) (b := 45) (dkn dmcX10_advance (by decide +kernel)) rfl
theorem dX10_advance_11 : decode cX10_advance 11 = .ok (.sipush 300, 3) := dk_17 (a := 1) (b := 44) (dkn dmcX10_advance (by decide +kernel)) rfl
theorem dX10_advance_14 : decode cX10_advance 14 = .ok (.if_icmp .lt 5, 3) := dk_161 (a := 0) (b := 5) (dkn dmcX10_advance (by decide +kernel)) rfl
theorem dX10_advance_17 : decode cX10_advance 17 = .ok (.iconst 0, 1) := dk_3 (dkn dmcX10_advance (by decide +kernel))
theorem dX10_advance_18 : decode cX10_advance 18 = .ok (.ireturn, 1) := dk_172 (dkn dmcX10_advance (by decide +kernel))
theorem dX10_advance_19 : decode cX10_advance 19 = .ok (.aload_n 1, 1) := dk_43 (dkn dmcX10_advance (by decide +kernel))
theorem dX10_advance_20 : decode cX10_advance 20 = .ok (.iload_n 2, 1) := dk_28 (dkn dmcX10_advance (by decide +kernel))
theorem dX10_advance_21 : decode cX10_advance 21 = .ok (.invokevirtual 109, 3) := dk_182 (a := 0) (b := 109) (dkn dmcX10_advance (by decide +kernel)) rfl
theorem dX10_advance_24 : decode cX10_advance 24 = .ok (.istore_n 3, 1) := dk_62 (dkn dmcX10_advance (by decide +kernel))
theorem dX10_advance_25 : decode cX10_advance 25 = .ok (.aload_n 1, 1) := dk_43 (dkn dmcX10_advance (by decide +kernel))
theorem dX10_advance_26 : decode cX10_advance 26 = .ok (.iload_n 2, 1) := dk_28 (dkn dmcX10_advance (by decide +kernel))
theorem dX10_advance_27 : decode cX10_advance 27 = .ok (.invokevirtual 112, 3) := dk_182 (a := 0) (b := 112) (dkn dmcX10_advance (by decide +kernel)) rfl
theorem dX10_advance_30 : decode cX10_advance 30 = .ok (.istore 4, 2) := dk_54 (dkn dmcX10_advance (by decide +kernel))
theorem dX10_advance_32 : decode cX10_advance 32 = .ok (.iload 4, 2) := dk_21 (dkn dmcX10_advance (by decide +kernel))
theorem dX10_advance_34 : decode cX10_advance 34 = .ok (.iconst (-1), 1) := dk_2 (dkn dmcX10_advance (by decide +kernel))
theorem dX10_advance_35 : decode cX10_advance 35 = .ok (.if_icmp .ne 5, 3) := dk_160 (a := 0) (b := 5) (dkn dmcX10_advance (by decide +kernel)) rfl
theorem dX10_advance_38 : decode cX10_advance 38 = .ok (.iconst 0, 1) := dk_3 (dkn dmcX10_advance (by decide +kernel))
theorem dX10_advance_39 : decode cX10_advance 39 = .ok (.ireturn, 1) := dk_172 (dkn dmcX10_advance (by decide +kernel))
theorem dX10_advance_40 : decode cX10_advance 40 = .ok (.aload_n 0, 1) := dk_42 (dkn dmcX10_advance (by decide +kernel))
theorem dX10_advance_41 : decode cX10_advance 41 = .ok (.iload 4, 2) := dk_21 (dkn dmcX10_advance (by decide +kernel))
theorem dX10_advance_43 : decode cX10_advance 43 = .ok (.putfield 52, 3) := dk_181 (a := 0) (b := 52) (dkn dmcX10_advance (by decide +kernel)) rfl
theorem dX10_advance_46 : decode cX10_advance 46 = .ok (.aload_n 0, 1) := dk_42 (dkn dmcX10_advance (by decide +kernel))
theorem dX10_advance_47 : decode cX10_advance 47 = .ok (.iload_n 2, 1) := dk_28 (dkn dmcX10_advance (by decide +kernel))
theorem dX10_advance_48 : decode cX10_advance 48 = .ok (.invokevirtual 115, 3) := dk_182 (a := 0) (b := 115) (dkn dmcX10_advance (by decide +kernel)) rfl
theorem dX10_advance_51 : decode cX10_advance 51 = .ok (.aload_n 0, 1) := dk_42 (dkn dmcX10_advance (by decide +kernel))
theorem dX10_advance_52 : decode cX10_advance 52 = .ok (.dup, 1) := dk_89 (dkn dmcX10_advance (by decide +kernel))
theorem dX10_advance_53 : decode cX10_advance 53 = .ok (.getfield 45, 3) := dk_180 (a := 0) (b := 45) (dkn dmcX10_advance (by decide +kernel)) rfl
theorem dX10_advance_56 : decode cX10_advance 56 = .ok (.iconst 1, 1) := dk_4 (dkn dmcX10_advance (by decide +kernel))
theorem dX10_advance_57 : decode cX10_advance 57 = .ok (.iadd, 1) := dk_96 (dkn dmcX10_advance (by decide +kernel))
theorem dX10_advance_58 : decode cX10_advance 58 = .ok (.putfield 45, 3) := dk_181 (a := 0) (b := 45) (dkn dmcX10_advance (by decide +kernel)) rfl
theorem dX10_advance_61 : decode cX10_advance 61 = .ok (.aload_n 0, 1) := dk_42 (dkn dmcX10_advance (by decide +kernel))
theorem dX10_advance_62 : decode cX10_advance 62 = .ok (.getfield 9, 3) := dk_180 (a := 0) (b := 9) (dkn dmcX10_advance (by decide +kernel)) rfl
theorem dX10_advance_65 : decode cX10_advance 65 = .ok (.aload_n 0, 1) := dk_42 (dkn dmcX10_advance (by decide +kernel))
theorem dX10_advance_66 : decode cX10_advance 66 = .ok (.getfield 45, 3) := dk_180 (a := 0) (b := 45) (dkn dmcX10_advance (by decide +kernel)) rfl
theorem dX10_advance_69 : decode cX10_advance 69 = .ok (.iload_n 2, 1) := dk_28 (dkn dmcX10_advance (by decide +kernel))
theorem dX10_advance_70 : decode cX10_advance 70 = .ok (.iastore, 1) := dk_79 (dkn dmcX10_advance (by decide +kernel))
theorem dX10_advance_71 : decode cX10_advance 71 = .ok (.aload_n 0, 1) := dk_42 (dkn dmcX10_advance (by decide +kernel))
theorem dX10_advance_72 : decode cX10_advance 72 = .ok (.getfield 15, 3) := dk_180 (a := 0) (b := 15) (dkn dmcX10_advance (by decide +kernel)) rfl
theorem dX10_advance_75 : decode cX10_advance 75 = .ok (.aload_n 0, 1) := dk_42 (dkn dmcX10_advance (by decide +kernel))
theorem dX10_advance_76 : decode cX10_advance 76 = .ok (.getfield 45, 3) := dk_180 (a := 0) (b := 45) (dkn dmcX10_advance (by decide +kernel)) rfl
theorem dX10_advance_79 : decode cX10_advance 79 = .ok (.iload_n 3, 1) := dk_29 (dkn dmcX10_advance (by decide +kernel))
theorem dX10_advance_80 : decode cX10_advance 80 = .ok (.iastore, 1) := dk_79 (dkn dmcX10_advance (by decide +kernel))
theorem dX10_advance_81 : decode cX10_advance 81 = .ok (.aload_n 0, 1) := dk_42 (dkn dmcX10_advance (by decide +kernel))
theorem dX10_advance_82 : decode cX10_advance 82 = .ok (.getfield 18, 3) := dk_180 (a := 0) (b := 18) (dkn dmcX10_advance (by decide +kernel)) rfl
theorem dX10_advance_85 : decode cX10_advance 85 = .ok (.aload_n 0, 1) := dk_42 (dkn dmcX10_advance (by decide +kernel))
theorem dX10_advance_86 : decode cX10_advance 86 = .ok (.getfield 45, 3) := dk_180 (a := 0) (b := 45) (dkn dmcX10_advance (by decide +kernel)) rfl
theorem dX10_advance_89 : decode cX10_advance 89 = .ok (.aload_n 1, 1) := dk_43 (dkn dmcX10_advance (by decide +kernel))
theorem dX10_advance_90 : decode cX10_advance 90 = .ok (.getfield 55, 3) := dk_180 (a := 0) (b := 55) (dkn dmcX10_advance (by decide +kernel)) rfl
theorem dX10_advance_93 : decode cX10_advance 93 = .ok (.iload_n 2, 1) := dk_28 (dkn dmcX10_advance (by decide +kernel))
theorem dX10_advance_94 : decode cX10_advance 94 = .ok (.iload_n 3, 1) := dk_29 (dkn dmcX10_advance (by decide +kernel))
theorem dX10_advance_95 : decode cX10_advance 95 = .ok (.invokevirtual 119, 3) := dk_182 (a := 0) (b := 119) (dkn dmcX10_advance (by decide +kernel)) rfl
theorem dX10_advance_98 : decode cX10_advance 98 = .ok (.iastore, 1) := dk_79 (dkn dmcX10_advance (by decide +kernel))
theorem dX10_advance_99 : decode cX10_advance 99 = .ok (.aload_n 0, 1) := dk_42 (dkn dmcX10_advance (by decide +kernel))
theorem dX10_advance_100 : decode cX10_advance 100 = .ok (.aload_n 1, 1) := dk_43 (dkn dmcX10_advance (by decide +kernel))
theorem dX10_advance_101 : decode cX10_advance 101 = .ok (.invokevirtual 123, 3) := dk_182 (a := 0) (b := 123) (dkn dmcX10_advance (by decide +kernel)) rfl
theorem dX10_advance_104 : decode cX10_advance 104 = .ok (.iconst 1, 1) := dk_4 (dkn dmcX10_advance (by decide +kernel))
theorem dX10_advance_105 : decode cX10_advance 105 = .ok (.ireturn, 1) := dk_172 (dkn dmcX10_advance (by decide +kernel))
def dncX10_noteChange : Nat := 0xb13100b560043100b4592a4f1b3100b42a2a00b42a4f2d00b42a3100b42a2700b42a24009f6500b62a1b
theorem dmcX10_noteChange : dkc dncX10_noteChange 42 cX10_noteChange.data.toList 0 = true := by decide +kernel
theorem dX10_noteChange_0 : decode cX10_noteChange 0 = .ok (.iload_n 1, 1) := dk_27 (dkn dmcX10_noteChange (by decide +kernel))
theorem dX10_noteChange_1 : decode cX10_noteChange 1 = .ok (.aload_n 0, 1) := dk_42 (dkn dmcX10_noteChange (by decide +kernel))
theorem dX10_noteChange_2 : decode cX10_noteChange 2 = .ok (.invokevirtual 101, 3) := dk_182 (a := 0) (b := 101) (dkn dmcX10_noteChange (by decide +kernel)) rfl
theorem dX10_noteChange_5 : decode cX10_noteChange 5 = .ok (.if_icmp .eq 36, 3) := dk_159 (a := 0) (b := 36) (dkn dmcX10_noteChange (by decide +kernel)) rfl
theorem dX10_noteChange_8 : decode cX10_noteChange 8 = .ok (.aload_n 0, 1) := dk_42 (dkn dmcX10_noteChange (by decide +kernel))
theorem dX10_noteChange_9 : decode cX10_noteChange 9 = .ok (.getfield 39, 3) := dk_180 (a := 0) (b := 39) (dkn dmcX10_noteChange (by decide +kernel)) rfl
theorem dX10_noteChange_12 : decode cX10_noteChange 12 = .ok (.aload_n 0, 1) := dk_42 (dkn dmcX10_noteChange (by decide +kernel))
theorem dX10_noteChange_13 : decode cX10_noteChange 13 = .ok (.getfield 49, 3) := dk_180 (a := 0) (b := 49) (dkn dmcX10_noteChange (by decide +kernel)) rfl
theorem dX10_noteChange_16 : decode cX10_noteChange 16 = .ok (.aload_n 0, 1) := dk_42 (dkn dmcX10_noteChange (by decide +kernel))
theorem dX10_noteChange_17 : decode cX10_noteChange 17 = .ok (.getfield 45, 3) := dk_180 (a := 0) (b := 45) (dkn dmcX10_noteChange (by decide +kernel)) rfl
theorem dX10_noteChange_20 : decode cX10_noteChange 20 = .ok (.iastore, 1) := dk_79 (dkn dmcX10_noteChange (by decide +kernel))
theorem dX10_noteChange_21 : decode cX10_noteChange 21 = .ok (.aload_n 0, 1) := dk_42 (dkn dmcX10_noteChange (by decide +kernel))
theorem dX10_noteChange_22 : decode cX10_noteChange 22 = .ok (.getfield 42, 3) := dk_180 (a := 0) (b := 42) (dkn dmcX10_noteChange (by decide +kernel)) rfl
theorem dX10_noteChange_25 : decode cX10_noteChange 25 = .ok (.aload_n 0, 1) := dk_42 (dkn dmcX10_noteChange (by decide +kernel))
theorem dX10_noteChange_26 : decode cX10_noteChange 26 = .ok (.getfield 49, 3) := dk_180 (a := 0) (b := 49) (dkn dmcX10_noteChange (by decide +kernel)) rfl
theorem dX10_noteChange_29 : decode cX10_noteChange 29 = .ok (.iload_n 1, 1) := dk_27 (dkn dmcX10_noteChange (by decide +kernel))
theorem dX10_noteChange_30 : decode cX10_noteChange 30 = .ok (.iastore, 1) := dk_79 (dkn dmcX10_noteChange (by decide +kernel))
theorem dX10_noteChange_31 : decode cX10_noteChange 31 = .ok (.aload_n 0, 1) := dk_42 (dkn dmcX10_noteChange (by decide +kernel))
theorem dX10_noteChange_32 : decode cX10_noteChange 32 = .ok (.dup, 1) := dk_89 (dkn dmcX10_noteChange (by decide +kernel))
theorem dX10_noteChange_33 : decode cX10_noteChange 33 = .ok (.getfield 49, 3) := dk_180 (a := 0) (b := 49) (dkn dmcX10_noteChange (by decide +kernel)) rfl
theorem dX10_noteChange_36 : decode cX10_noteChange 36 = .ok (.iconst 1, 1) := dk_4 (dkn dmcX10_noteChange (by decide +kernel))
theorem dX10_noteChange_37 : decode cX10_noteChange 37 = .ok (.iadd, 1) := dk_96 (dkn dmcX10_noteChange (by decide +kernel))
theorem dX10_noteChange_38 : decode cX10_noteChange 38 = .ok (.putfield 49, 3) := dk_181 (a := 0) (b := 49) (dkn dmcX10_noteChange (by decide +kernel)) rfl
theorem dX10_noteChange_41 : decode cX10_noteChange 41 = .ok (.return_, 1) := dk_177 (dkn dmcX10_noteChange (by decide +kernel))
def dncX10_noteEffects : Nat := 0xb14f8d00b42b2d00b42a2400b42a4f8a00b42b2d00b42a2100b42a4f2e1c8700b42b2d00b42a1e00b42a4f2e1c8400b42b2d00b42a1b00b42a2100a20c101c27009b1c4f1c2d00b42a1800b42a4f8100b42b2d00b42a1500b42a3d7e00b42b
theorem dmcX10_noteEffects : dkc dncX10_noteEffects 95 cX10_noteEffects.data.toList 0 = true := by decide +kernel
theorem dX10_noteEffects_0 : decode cX10_noteEffects 0 = .ok (.aload_n 1, 1) := dk_43 (dkn dmcX10_noteEffects (by decide +kernel))
theorem dX10_noteEffects_1 : decode cX10_noteEffects 1 = .ok (.getfield 126, 3) := dk_180 (a := 0) (b := 126) (dkn dmcX10_noteEffects (by decide +kernel)) rfl
theorem dX10_noteEffects_4 : decode cX10_noteEffects 4 = .ok (.istore_n 2, 1) := dk_61 (dkn dmcX10_noteEffects (by decide +kernel))
theorem dX10_noteEffects_5 : decode cX10_noteEffects 5 = .ok (.aload_n 0, 1) := dk_42 (dkn dmcX10_noteEffects (by decide +kernel))
theorem dX10_noteEffects_6 : decode cX10_noteEffects 6 = .ok (.getfield 21, 3) := dk_180 (a := 0) (b := 21) (dkn dmcX10_noteEffects (by decide +kernel)) rfl
theorem dX10_noteEffects_9 : decode cX10_noteEffects 9 = .ok (.aload_n 0, 1) := dk_42 (dkn dmcX10_noteEffects (by decide +kernel))
theorem dX10_noteEffects_10 : decode cX10_noteEffects 10 = .ok (.getfield 45, 3) := dk_180 (a := 0) (b := 45) (dkn dmcX10_noteEffects (by decide +kernel)) rfl
theorem dX10_noteEffects_13 : decode cX10_noteEffects 13 = .ok (.aload_n 1, 1) := dk_43 (dkn dmcX10_noteEffects (by decide +kernel))
theorem dX10_noteEffects_14 : decode cX10_noteEffects 14 = .ok (.getfield 129, 3) := dk_180 (a := 0) (b := 129) (dkn dmcX10_noteEffects (by decide +kernel)) rfl
theorem dX10_noteEffects_17 : decode cX10_noteEffects 17 = .ok (.iastore, 1) := dk_79 (dkn dmcX10_noteEffects (by decide +kernel))
theorem dX10_noteEffects_18 : decode cX10_noteEffects 18 = .ok (.aload_n 0, 1) := dk_42 (dkn dmcX10_noteEffects (by decide +kernel))
theorem dX10_noteEffects_19 : decode cX10_noteEffects 19 = .ok (.getfield 24, 3) := dk_180 (a := 0) (b := 24) (dkn dmcX10_noteEffects (by decide +kernel)) rfl
theorem dX10_noteEffects_22 : decode cX10_noteEffects 22 = .ok (.aload_n 0, 1) := dk_42 (dkn dmcX10_noteEffects (by decide +kernel))
theorem dX10_noteEffects_23 : decode cX10_noteEffects 23 = .ok (.getfield 45, 3) := dk_180 (a := 0) (b := 45) (dkn dmcX10_noteEffects (by decide +kernel)) rfl
theorem dX10_noteEffects_26 : decode cX10_noteEffects 26 = .ok (.iload_n 2, 1) := dk_28 (dkn dmcX10_noteEffects (by decide +kernel))
theorem dX10_noteEffects_27 : decode cX10_noteEffects 27 = .ok (.iastore, 1) := dk_79 (dkn dmcX10_noteEffects (by decide +kernel))
theorem dX10_noteEffects_28 : decode cX10_noteEffects 28 = .ok (.iload_n 2, 1) := dk_28 (dkn dmcX10_noteEffects (by decide +kernel))
theorem dX10_noteEffects_29 : decode cX10_noteEffects 29 = .ok (.ifCond .lt 39, 3) := dk_155 (a := 0) (b := 39) (dkn dmcX10_noteEffects (by decide +kernel)) rfl
theorem dX10_noteEffects_32 : decode cX10_noteEffects 32 = .ok (.iload_n 2, 1) := dk_28 (dkn dmcX10_noteEffects (by decide +kernel))
theorem dX10_noteEffects_33 : decode cX10_noteEffects 33 = .ok (.bipush 12, 2) := dk_16 (a := 12) (dkn dmcX10_noteEffects (by decide +kernel)) rfl
theorem dX10_noteEffects_35 : decode cX10_noteEffects 35 = .ok (.if_icmp .ge 33, 3) := dk_162 (a := 0) (b := 33) (dkn dmcX10_noteEffects (by decide +kernel)) rfl
theorem dX10_noteEffects_38 : decode cX10_noteEffects 38 = .ok (.aload_n 0, 1) := dk_42 (dkn dmcX10_noteEffects (by decide +kernel))
theorem dX10_noteEffects_39 : decode cX10_noteEffects 39 = .ok (.getfield 27, 3) := dk_180 (a := 0) (b := 27) (dkn dmcX10_noteEffects (by decide +kernel)) rfl
theorem dX10_noteEffects_42 : decode cX10_noteEffects 42 = .ok (.aload_n 0, 1) := dk_42 (dkn dmcX10_noteEffects (by decide +kernel))
theorem dX10_noteEffects_43 : decode cX10_noteEffects 43 = .ok (.getfield 45, 3) := dk_180 (a := 0) (b := 45) (dkn dmcX10_noteEffects (by decide +kernel)) rfl
theorem dX10_noteEffects_46 : decode cX10_noteEffects 46 = .ok (.aload_n 1, 1) := dk_43 (dkn dmcX10_noteEffects (by decide +kernel))
theorem dX10_noteEffects_47 : decode cX10_noteEffects 47 = .ok (.getfield 132, 3) := dk_180 (a := 0) (b := 132) (dkn dmcX10_noteEffects (by decide +kernel)) rfl
theorem dX10_noteEffects_50 : decode cX10_noteEffects 50 = .ok (.iload_n 2, 1) := dk_28 (dkn dmcX10_noteEffects (by decide +kernel))
theorem dX10_noteEffects_51 : decode cX10_noteEffects 51 = .ok (.iaload, 1) := dk_46 (dkn dmcX10_noteEffects (by decide +kernel))
theorem dX10_noteEffects_52 : decode cX10_noteEffects 52 = .ok (.iastore, 1) := dk_79 (dkn dmcX10_noteEffects (by decide +kernel))
theorem dX10_noteEffects_53 : decode cX10_noteEffects 53 = .ok (.aload_n 0, 1) := dk_42 (dkn dmcX10_noteEffects (by decide +kernel))
theorem dX10_noteEffects_54 : decode cX10_noteEffects 54 = .ok (.getfield 30, 3) := dk_180 (a := 0) (b := 30) (dkn dmcX10_noteEffects (by decide +kernel)) rfl
theorem dX10_noteEffects_57 : decode cX10_noteEffects 57 = .ok (.aload_n 0, 1) := dk_42 (dkn dmcX10_noteEffects (by decide +kernel))
theorem dX10_noteEffects_58 : decode cX10_noteEffects 58 = .ok (.getfield 45, 3) := dk_180 (a := 0) (b := 45) (dkn dmcX10_noteEffects (by decide +kernel)) rfl
theorem dX10_noteEffects_61 : decode cX10_noteEffects 61 = .ok (.aload_n 1, 1) := dk_43 (dkn dmcX10_noteEffects (by decide +kernel))
theorem dX10_noteEffects_62 : decode cX10_noteEffects 62 = .ok (.getfield 135, 3) := dk_180 (a := 0) (b := 135) (dkn dmcX10_noteEffects (by decide +kernel)) rfl
theorem dX10_noteEffects_65 : decode cX10_noteEffects 65 = .ok (.iload_n 2, 1) := dk_28 (dkn dmcX10_noteEffects (by decide +kernel))
theorem dX10_noteEffects_66 : decode cX10_noteEffects 66 = .ok (.iaload, 1) := dk_46 (dkn dmcX10_noteEffects (by decide +kernel))
theorem dX10_noteEffects_67 : decode cX10_noteEffects 67 = .ok (.iastore, 1) := dk_79 (dkn dmcX10_noteEffects (by decide +kernel))
theorem dX10_noteEffects_68 : decode cX10_noteEffects 68 = .ok (.aload_n 0, 1) := dk_42 (dkn dmcX10_noteEffects (by decide +kernel))
theorem dX10_noteEffects_69 : decode cX10_noteEffects 69 = .ok (.getfield 33, 3) := dk_180 (a := 0) (b := 33) (dkn dmcX10_noteEffects (by decide +kernel)) rfl
theorem dX10_noteEffects_72 : decode cX10_noteEffects 72 = .ok (.aload_n 0, 1) := dk_42 (dkn dmcX10_noteEffects (by decide +kernel))
theorem dX10_noteEffects_73 : decode cX10_noteEffects 73 = .ok (.getfield 45, 3) := dk_180 (a := 0) (b := 45) (dkn dmcX10_noteEffects (by decide +kernel)) rfl
theorem dX10_noteEffects_76 : decode cX10_noteEffects 76 = .ok (.aload_n 1, 1) := dk_43 (dkn dmcX10_noteEffects (by decide +kernel))
theorem dX10_noteEffects_77 : decode cX10_noteEffects 77 = .ok (.getfield 138, 3) := dk_180 (a := 0) (b := 138) (dkn dmcX10_noteEffects (by decide +kernel)) rfl
theorem dX10_noteEffects_80 : decode cX10_noteEffects 80 = .ok (.iastore, 1) := dk_79 (dkn dmcX10_noteEffects (by decide +kernel))
theorem dX10_noteEffects_81 : decode cX10_noteEffects 81 = .ok (.aload_n 0, 1) := dk_42 (dkn dmcX10_noteEffects (by decide +kernel))
theorem dX10_noteEffects_82 : decode cX10_noteEffects 82 = .ok (.getfield 36, 3) := dk_180 (a := 0) (b := 36) (dkn dmcX10_noteEffects (by decide +kernel)) rfl
theorem dX10_noteEffects_85 : decode cX10_noteEffects 85 = .ok (.aload_n 0, 1) := dk_42 (dkn dmcX10_noteEffects (by decide +kernel))
theorem dX10_noteEffects_86 : decode cX10_noteEffects 86 = .ok (.getfield 45, 3) := dk_180 (a := 0) (b := 45) (dkn dmcX10_noteEffects (by decide +kernel)) rfl
theorem dX10_noteEffects_89 : decode cX10_noteEffects 89 = .ok (.aload_n 1, 1) := dk_43 (dkn dmcX10_noteEffects (by decide +kernel))
theorem dX10_noteEffects_90 : decode cX10_noteEffects 90 = .ok (.getfield 141, 3) := dk_180 (a := 0) (b := 141) (dkn dmcX10_noteEffects (by decide +kernel)) rfl
theorem dX10_noteEffects_93 : decode cX10_noteEffects 93 = .ok (.iastore, 1) := dk_79 (dkn dmcX10_noteEffects (by decide +kernel))
theorem dX10_noteEffects_94 : decode cX10_noteEffects 94 = .ok (.return_, 1) := dk_177 (dkn dmcX10_noteEffects (by decide +kernel))
def dncX10_howOver : Nat := 0xac040400a7030700998f00b62bac0605009b6900b6032bac050500993400b42a
theorem dmcX10_howOver : dkc dncX10_howOver 32 cX10_howOver.data.toList 0 = true := by decide +kernel
theorem dX10_howOver_0 : decode cX10_howOver 0 = .ok (.aload_n 0, 1) := dk_42 (dkn dmcX10_howOver (by decide +kernel))
theorem dX10_howOver_1 : decode cX10_howOver 1 = .ok (.getfield 52, 3) := dk_180 (a := 0) (b := 52) (dkn dmcX10_howOver (by decide +kernel)) rfl
theorem dX10_howOver_4 : decode cX10_howOver 4 = .ok (.ifCond .eq 5, 3) := dk_153 (a := 0) (b := 5) (dkn dmcX10_howOver (by decide +kernel)) rfl
theorem dX10_howOver_7 : decode cX10_howOver 7 = .ok (.iconst 2, 1) := dk_5 (dkn dmcX10_howOver (by decide +kernel))
theorem dX10_howOver_8 : decode cX10_howOver 8 = .ok (.ireturn, 1) := dk_172 (dkn dmcX10_howOver (by decide +kernel))
theorem dX10_howOver_9 : decode cX10_howOver 9 = .ok (.aload_n 1, 1) := dk_43 (dkn dmcX10_howOver (by decide +kernel))
theorem dX10_howOver_10 : decode cX10_howOver 10 = .ok (.iconst 0, 1) := dk_3 (dkn dmcX10_howOver (by decide +kernel))
theorem dX10_howOver_11 : decode cX10_howOver 11 = .ok (.invokevirtual 105, 3) := dk_182 (a := 0) (b := 105) (dkn dmcX10_howOver (by decide +kernel)) rfl
theorem dX10_howOver_14 : decode cX10_howOver 14 = .ok (.ifCond .lt 5, 3) := dk_155 (a := 0) (b := 5) (dkn dmcX10_howOver (by decide +kernel)) rfl
theorem dX10_howOver_17 : decode cX10_howOver 17 = .ok (.iconst 3, 1) := dk_6 (dkn dmcX10_howOver (by decide +kernel))
theorem dX10_howOver_18 : decode cX10_howOver 18 = .ok (.ireturn, 1) := dk_172 (dkn dmcX10_howOver (by decide +kernel))
theorem dX10_howOver_19 : decode cX10_howOver 19 = .ok (.aload_n 1, 1) := dk_43 (dkn dmcX10_howOver (by decide +kernel))
theorem dX10_howOver_20 : decode cX10_howOver 20 = .ok (.invokevirtual 143, 3) := dk_182 (a := 0) (b := 143) (dkn dmcX10_howOver (by decide +kernel)) rfl
theorem dX10_howOver_23 : decode cX10_howOver 23 = .ok (.ifCond .eq 7, 3) := dk_153 (a := 0) (b := 7) (dkn dmcX10_howOver (by decide +kernel)) rfl
theorem dX10_howOver_26 : decode cX10_howOver 26 = .ok (.iconst 0, 1) := dk_3 (dkn dmcX10_howOver (by decide +kernel))
theorem dX10_howOver_27 : decode cX10_howOver 27 = .ok (.goto 4, 3) := dk_167 (a := 0) (b := 4) (dkn dmcX10_howOver (by decide +kernel)) rfl
theorem dX10_howOver_30 : decode cX10_howOver 30 = .ok (.iconst 1, 1) := dk_4 (dkn dmcX10_howOver (by decide +kernel))
theorem dX10_howOver_31 : decode cX10_howOver 31 = .ok (.ireturn, 1) := dk_172 (dkn dmcX10_howOver (by decide +kernel))
def dncX10_placeOf : Nat := 0xac2e1b1800b42a0900a72e1b1500b42a0c009ffe102e1b1500b42a
theorem dmcX10_placeOf : dkc dncX10_placeOf 27 cX10_placeOf.data.toList 0 = true := by decide +kernel
theorem dX10_placeOf_0 : decode cX10_placeOf 0 = .ok (.aload_n 0, 1) := dk_42 (dkn dmcX10_placeOf (by decide +kernel))
theorem dX10_placeOf_1 : decode cX10_placeOf 1 = .ok (.getfield 21, 3) := dk_180 (a := 0) (b := 21) (dkn dmcX10_placeOf (by decide +kernel)) rfl
theorem dX10_placeOf_4 : decode cX10_placeOf 4 = .ok (.iload_n 1, 1) := dk_27 (dkn dmcX10_placeOf (by decide +kernel))
theorem dX10_placeOf_5 : decode cX10_placeOf 5 = .ok (.iaload, 1) := dk_46 (dkn dmcX10_placeOf (by decide +kernel))
theorem dX10_placeOf_6 : decode cX10_placeOf 6 = .ok (.bipush (-2), 2) := dk_16 (a := 254) (dkn dmcX10_placeOf (by decide +kernel)) rfl
theorem dX10_placeOf_8 : decode cX10_placeOf 8 = .ok (.if_icmp .eq 12, 3) := dk_159 (a := 0) (b := 12) (dkn dmcX10_placeOf (by decide +kernel)) rfl
theorem dX10_placeOf_11 : decode cX10_placeOf 11 = .ok (.aload_n 0, 1) := dk_42 (dkn dmcX10_placeOf (by decide +kernel))
theorem dX10_placeOf_12 : decode cX10_placeOf 12 = .ok (.getfield 21, 3) := dk_180 (a := 0) (b := 21) (dkn dmcX10_placeOf (by decide +kernel)) rfl
theorem dX10_placeOf_15 : decode cX10_placeOf 15 = .ok (.iload_n 1, 1) := dk_27 (dkn dmcX10_placeOf (by decide +kernel))
theorem dX10_placeOf_16 : decode cX10_placeOf 16 = .ok (.iaload, 1) := dk_46 (dkn dmcX10_placeOf (by decide +kernel))
theorem dX10_placeOf_17 : decode cX10_placeOf 17 = .ok (.goto 9, 3) := dk_167 (a := 0) (b := 9) (dkn dmcX10_placeOf (by decide +kernel)) rfl
theorem dX10_placeOf_20 : decode cX10_placeOf 20 = .ok (.aload_n 0, 1) := dk_42 (dkn dmcX10_placeOf (by decide +kernel))
theorem dX10_placeOf_21 : decode cX10_placeOf 21 = .ok (.getfield 24, 3) := dk_180 (a := 0) (b := 24) (dkn dmcX10_placeOf (by decide +kernel)) rfl
theorem dX10_placeOf_24 : decode cX10_placeOf 24 = .ok (.iload_n 1, 1) := dk_27 (dkn dmcX10_placeOf (by decide +kernel))
theorem dX10_placeOf_25 : decode cX10_placeOf 25 = .ok (.iaload, 1) := dk_46 (dkn dmcX10_placeOf (by decide +kernel))
theorem dX10_placeOf_26 : decode cX10_placeOf 26 = .ok (.ireturn, 1) := dk_172 (dkn dmcX10_placeOf (by decide +kernel))
def dncX10_lastWrite : Nat := 0xac03edffa7ff0384ac1d0500a01b2e1d1800b42a15009e1d3e1cac030500a0fe101b
theorem dmcX10_lastWrite : dkc dncX10_lastWrite 34 cX10_lastWrite.data.toList 0 = true := by decide +kernel
theorem dX10_lastWrite_0 : decode cX10_lastWrite 0 = .ok (.iload_n 1, 1) := dk_27 (dkn dmcX10_lastWrite (by decide +kernel))
theorem dX10_lastWrite_1 : decode cX10_lastWrite 1 = .ok (.bipush (-2), 2) := dk_16 (a := 254) (dkn dmcX10_lastWrite (by decide +kernel)) rfl
theorem dX10_lastWrite_3 : decode cX10_lastWrite 3 = .ok (.if_icmp .ne 5, 3) := dk_160 (a := 0) (b := 5) (dkn dmcX10_lastWrite (by decide +kernel)) rfl
theorem dX10_lastWrite_6 : decode cX10_lastWrite 6 = .ok (.iconst 0, 1) := dk_3 (dkn dmcX10_lastWrite (by decide +kernel))
theorem dX10_lastWrite_7 : decode cX10_lastWrite 7 = .ok (.ireturn, 1) := dk_172 (dkn dmcX10_lastWrite (by decide +kernel))
theorem dX10_lastWrite_8 : decode cX10_lastWrite 8 = .ok (.iload_n 2, 1) := dk_28 (dkn dmcX10_lastWrite (by decide +kernel))
theorem dX10_lastWrite_9 : decode cX10_lastWrite 9 = .ok (.istore_n 3, 1) := dk_62 (dkn dmcX10_lastWrite (by decide +kernel))
theorem dX10_lastWrite_10 : decode cX10_lastWrite 10 = .ok (.iload_n 3, 1) := dk_29 (dkn dmcX10_lastWrite (by decide +kernel))
theorem dX10_lastWrite_11 : decode cX10_lastWrite 11 = .ok (.ifCond .le 21, 3) := dk_158 (a := 0) (b := 21) (dkn dmcX10_lastWrite (by decide +kernel)) rfl
theorem dX10_lastWrite_14 : decode cX10_lastWrite 14 = .ok (.aload_n 0, 1) := dk_42 (dkn dmcX10_lastWrite (by decide +kernel))
theorem dX10_lastWrite_15 : decode cX10_lastWrite 15 = .ok (.getfield 24, 3) := dk_180 (a := 0) (b := 24) (dkn dmcX10_lastWrite (by decide +kernel)) rfl
theorem dX10_lastWrite_18 : decode cX10_lastWrite 18 = .ok (.iload_n 3, 1) := dk_29 (dkn dmcX10_lastWrite (by decide +kernel))
theorem dX10_lastWrite_19 : decode cX10_lastWrite 19 = .ok (.iaload, 1) := dk_46 (dkn dmcX10_lastWrite (by decide +kernel))
theorem dX10_lastWrite_20 : decode cX10_lastWrite 20 = .ok (.iload_n 1, 1) := dk_27 (dkn dmcX10_lastWrite (by decide +kernel))
theorem dX10_lastWrite_21 : decode cX10_lastWrite 21 = .ok (.if_icmp .ne 5, 3) := dk_160 (a := 0) (b := 5) (dkn dmcX10_lastWrite (by decide +kernel)) rfl
theorem dX10_lastWrite_24 : decode cX10_lastWrite 24 = .ok (.iload_n 3, 1) := dk_29 (dkn dmcX10_lastWrite (by decide +kernel))
theorem dX10_lastWrite_25 : decode cX10_lastWrite 25 = .ok (.ireturn, 1) := dk_172 (dkn dmcX10_lastWrite (by decide +kernel))
theorem dX10_lastWrite_26 : decode cX10_lastWrite 26 = .ok (.iinc 3 (-1), 3) := dk_132 (b := 255) (dkn dmcX10_lastWrite (by decide +kernel)) rfl
theorem dX10_lastWrite_29 : decode cX10_lastWrite 29 = .ok (.goto (-19), 3) := dk_167 (a := 255) (b := 237) (dkn dmcX10_lastWrite (by decide +kernel)) rfl
theorem dX10_lastWrite_32 : decode cX10_lastWrite 32 = .ok (.iconst 0, 1) := dk_3 (dkn dmcX10_lastWrite (by decide +kernel))
theorem dX10_lastWrite_33 : decode cX10_lastWrite 33 = .ok (.ireturn, 1) := dk_172 (dkn dmcX10_lastWrite (by decide +kernel))
def dncX10_nextRead : Nat := 0xac03e9ffa7010384ac1d0500a01b2e1d1500b42a1500a32d00b42a1d3e60041cac030500a0fe101b
theorem dmcX10_nextRead : dkc dncX10_nextRead 40 cX10_nextRead.data.toList 0 = true := by decide +kernel
theorem dX10_nextRead_0 : decode cX10_nextRead 0 = .ok (.iload_n 1, 1) := dk_27 (dkn dmcX10_nextRead (by decide +kernel))
theorem dX10_nextRead_1 : decode cX10_nextRead 1 = .ok (.bipush (-2), 2) := dk_16 (a := 254) (dkn dmcX10_nextRead (by decide +kernel)) rfl
theorem dX10_nextRead_3 : decode cX10_nextRead 3 = .ok (.if_icmp .ne 5, 3) := dk_160 (a := 0) (b := 5) (dkn dmcX10_nextRead (by decide +kernel)) rfl
theorem dX10_nextRead_6 : decode cX10_nextRead 6 = .ok (.iconst 0, 1) := dk_3 (dkn dmcX10_nextRead (by decide +kernel))
theorem dX10_nextRead_7 : decode cX10_nextRead 7 = .ok (.ireturn, 1) := dk_172 (dkn dmcX10_nextRead (by decide +kernel))
theorem dX10_nextRead_8 : decode cX10_nextRead 8 = .ok (.iload_n 2, 1) := dk_28 (dkn dmcX10_nextRead (by decide +kernel))
theorem dX10_nextRead_9 : decode cX10_nextRead 9 = .ok (.iconst 1, 1) := dk_4 (dkn dmcX10_nextRead (by decide +kernel))
theorem dX10_nextRead_10 : decode cX10_nextRead 10 = .ok (.iadd, 1) := dk_96 (dkn dmcX10_nextRead (by decide +kernel))
theorem dX10_nextRead_11 : decode cX10_nextRead 11 = .ok (.istore_n 3, 1) := dk_62 (dkn dmcX10_nextRead (by decide +kernel))
theorem dX10_nextRead_12 : decode cX10_nextRead 12 = .ok (.iload_n 3, 1) := dk_29 (dkn dmcX10_nextRead (by decide +kernel))
theorem dX10_nextRead_13 : decode cX10_nextRead 13 = .ok (.aload_n 0, 1) := dk_42 (dkn dmcX10_nextRead (by decide +kernel))
theorem dX10_nextRead_14 : decode cX10_nextRead 14 = .ok (.getfield 45, 3) := dk_180 (a := 0) (b := 45) (dkn dmcX10_nextRead (by decide +kernel)) rfl
theorem dX10_nextRead_17 : decode cX10_nextRead 17 = .ok (.if_icmp .gt 21, 3) := dk_163 (a := 0) (b := 21) (dkn dmcX10_nextRead (by decide +kernel)) rfl
theorem dX10_nextRead_20 : decode cX10_nextRead 20 = .ok (.aload_n 0, 1) := dk_42 (dkn dmcX10_nextRead (by decide +kernel))
theorem dX10_nextRead_21 : decode cX10_nextRead 21 = .ok (.getfield 21, 3) := dk_180 (a := 0) (b := 21) (dkn dmcX10_nextRead (by decide +kernel)) rfl
theorem dX10_nextRead_24 : decode cX10_nextRead 24 = .ok (.iload_n 3, 1) := dk_29 (dkn dmcX10_nextRead (by decide +kernel))
theorem dX10_nextRead_25 : decode cX10_nextRead 25 = .ok (.iaload, 1) := dk_46 (dkn dmcX10_nextRead (by decide +kernel))
theorem dX10_nextRead_26 : decode cX10_nextRead 26 = .ok (.iload_n 1, 1) := dk_27 (dkn dmcX10_nextRead (by decide +kernel))
theorem dX10_nextRead_27 : decode cX10_nextRead 27 = .ok (.if_icmp .ne 5, 3) := dk_160 (a := 0) (b := 5) (dkn dmcX10_nextRead (by decide +kernel)) rfl
theorem dX10_nextRead_30 : decode cX10_nextRead 30 = .ok (.iload_n 3, 1) := dk_29 (dkn dmcX10_nextRead (by decide +kernel))
theorem dX10_nextRead_31 : decode cX10_nextRead 31 = .ok (.ireturn, 1) := dk_172 (dkn dmcX10_nextRead (by decide +kernel))
theorem dX10_nextRead_32 : decode cX10_nextRead 32 = .ok (.iinc 3 1, 3) := dk_132 (b := 1) (dkn dmcX10_nextRead (by decide +kernel)) rfl
theorem dX10_nextRead_35 : decode cX10_nextRead 35 = .ok (.goto (-23), 3) := dk_167 (a := 255) (b := 233) (dkn dmcX10_nextRead (by decide +kernel)) rfl
theorem dX10_nextRead_38 : decode cX10_nextRead 38 = .ok (.iconst 0, 1) := dk_3 (dkn dmcX10_nextRead (by decide +kernel))
theorem dX10_nextRead_39 : decode cX10_nextRead 39 = .ok (.ireturn, 1) := dk_172 (dkn dmcX10_nextRead (by decide +kernel))
def dncX10_spanCount : Nat := 0xac0415d7ffa70107840536061501048406009a05150b0099061506369300b606151c1b07152a2600a32d00b42a07150736030636030400a7040700a01c1d053603043603
theorem dmcX10_spanCount : dkc dncX10_spanCount 68 cX10_spanCount.data.toList 0 = true := by decide +kernel
theorem dX10_spanCount_0 : decode cX10_spanCount 0 = .ok (.iconst 0, 1) := dk_3 (dkn dmcX10_spanCount (by decide +kernel))
theorem dX10_spanCount_1 : decode cX10_spanCount 1 = .ok (.istore 4, 2) := dk_54 (dkn dmcX10_spanCount (by decide +kernel))
theorem dX10_spanCount_3 : decode cX10_spanCount 3 = .ok (.iconst 0, 1) := dk_3 (dkn dmcX10_spanCount (by decide +kernel))
theorem dX10_spanCount_4 : decode cX10_spanCount 4 = .ok (.istore 5, 2) := dk_54 (dkn dmcX10_spanCount (by decide +kernel))
theorem dX10_spanCount_6 : decode cX10_spanCount 6 = .ok (.iload_n 3, 1) := dk_29 (dkn dmcX10_spanCount (by decide +kernel))
theorem dX10_spanCount_7 : decode cX10_spanCount 7 = .ok (.iload_n 2, 1) := dk_28 (dkn dmcX10_spanCount (by decide +kernel))
theorem dX10_spanCount_8 : decode cX10_spanCount 8 = .ok (.if_icmp .ne 7, 3) := dk_160 (a := 0) (b := 7) (dkn dmcX10_spanCount (by decide +kernel)) rfl
theorem dX10_spanCount_11 : decode cX10_spanCount 11 = .ok (.iconst 1, 1) := dk_4 (dkn dmcX10_spanCount (by decide +kernel))
theorem dX10_spanCount_12 : decode cX10_spanCount 12 = .ok (.goto 4, 3) := dk_167 (a := 0) (b := 4) (dkn dmcX10_spanCount (by decide +kernel)) rfl
theorem dX10_spanCount_15 : decode cX10_spanCount 15 = .ok (.iconst 0, 1) := dk_3 (dkn dmcX10_spanCount (by decide +kernel))
theorem dX10_spanCount_16 : decode cX10_spanCount 16 = .ok (.istore 6, 2) := dk_54 (dkn dmcX10_spanCount (by decide +kernel))
theorem dX10_spanCount_18 : decode cX10_spanCount 18 = .ok (.iconst 0, 1) := dk_3 (dkn dmcX10_spanCount (by decide +kernel))
theorem dX10_spanCount_19 : decode cX10_spanCount 19 = .ok (.istore 7, 2) := dk_54 (dkn dmcX10_spanCount (by decide +kernel))
theorem dX10_spanCount_21 : decode cX10_spanCount 21 = .ok (.iload 7, 2) := dk_21 (dkn dmcX10_spanCount (by decide +kernel))
theorem dX10_spanCount_23 : decode cX10_spanCount 23 = .ok (.aload_n 0, 1) := dk_42 (dkn dmcX10_spanCount (by decide +kernel))
theorem dX10_spanCount_24 : decode cX10_spanCount 24 = .ok (.getfield 45, 3) := dk_180 (a := 0) (b := 45) (dkn dmcX10_spanCount (by decide +kernel)) rfl
theorem dX10_spanCount_27 : decode cX10_spanCount 27 = .ok (.if_icmp .gt 38, 3) := dk_163 (a := 0) (b := 38) (dkn dmcX10_spanCount (by decide +kernel)) rfl
theorem dX10_spanCount_30 : decode cX10_spanCount 30 = .ok (.aload_n 0, 1) := dk_42 (dkn dmcX10_spanCount (by decide +kernel))
theorem dX10_spanCount_31 : decode cX10_spanCount 31 = .ok (.iload 7, 2) := dk_21 (dkn dmcX10_spanCount (by decide +kernel))
theorem dX10_spanCount_33 : decode cX10_spanCount 33 = .ok (.iload_n 1, 1) := dk_27 (dkn dmcX10_spanCount (by decide +kernel))
theorem dX10_spanCount_34 : decode cX10_spanCount 34 = .ok (.iload_n 2, 1) := dk_28 (dkn dmcX10_spanCount (by decide +kernel))
theorem dX10_spanCount_35 : decode cX10_spanCount 35 = .ok (.iload 6, 2) := dk_21 (dkn dmcX10_spanCount (by decide +kernel))
theorem dX10_spanCount_37 : decode cX10_spanCount 37 = .ok (.invokevirtual 147, 3) := dk_182 (a := 0) (b := 147) (dkn dmcX10_spanCount (by decide +kernel)) rfl
theorem dX10_spanCount_40 : decode cX10_spanCount 40 = .ok (.istore 6, 2) := dk_54 (dkn dmcX10_spanCount (by decide +kernel))
theorem dX10_spanCount_42 : decode cX10_spanCount 42 = .ok (.iload 6, 2) := dk_21 (dkn dmcX10_spanCount (by decide +kernel))
theorem dX10_spanCount_44 : decode cX10_spanCount 44 = .ok (.ifCond .eq 11, 3) := dk_153 (a := 0) (b := 11) (dkn dmcX10_spanCount (by decide +kernel)) rfl
theorem dX10_spanCount_47 : decode cX10_spanCount 47 = .ok (.iload 5, 2) := dk_21 (dkn dmcX10_spanCount (by decide +kernel))
theorem dX10_spanCount_49 : decode cX10_spanCount 49 = .ok (.ifCond .ne 6, 3) := dk_154 (a := 0) (b := 6) (dkn dmcX10_spanCount (by decide +kernel)) rfl
theorem dX10_spanCount_52 : decode cX10_spanCount 52 = .ok (.iinc 4 1, 3) := dk_132 (b := 1) (dkn dmcX10_spanCount (by decide +kernel)) rfl
theorem dX10_spanCount_55 : decode cX10_spanCount 55 = .ok (.iload 6, 2) := dk_21 (dkn dmcX10_spanCount (by decide +kernel))
theorem dX10_spanCount_57 : decode cX10_spanCount 57 = .ok (.istore 5, 2) := dk_54 (dkn dmcX10_spanCount (by decide +kernel))
theorem dX10_spanCount_59 : decode cX10_spanCount 59 = .ok (.iinc 7 1, 3) := dk_132 (b := 1) (dkn dmcX10_spanCount (by decide +kernel)) rfl
theorem dX10_spanCount_62 : decode cX10_spanCount 62 = .ok (.goto (-41), 3) := dk_167 (a := 255) (b := 215) (dkn dmcX10_spanCount (by decide +kernel)) rfl
theorem dX10_spanCount_65 : decode cX10_spanCount 65 = .ok (.iload 4, 2) := dk_21 (dkn dmcX10_spanCount (by decide +kernel))
theorem dX10_spanCount_67 : decode cX10_spanCount 67 = .ok (.ireturn, 1) := dk_172 (dkn dmcX10_spanCount (by decide +kernel))
def dncX10_spanEdge : Nat := 0xac020400a72d00b42a0a00a00415061511009a05151600990715b2ffa701098407360815ac640409150800a0041506150f009a08151400990715ac09150600a0041506150d0099051501068415009a07151a0099081508369300b608151c1b09152a4b00a32d00b42a09150936030836030400a7040700a01c1d073603063602
theorem dmcX10_spanEdge : dkc dncX10_spanEdge 128 cX10_spanEdge.data.toList 0 = true := by decide +kernel
theorem dX10_spanEdge_0 : decode cX10_spanEdge 0 = .ok (.iconst (-1), 1) := dk_2 (dkn dmcX10_spanEdge (by decide +kernel))
theorem dX10_spanEdge_1 : decode cX10_spanEdge 1 = .ok (.istore 6, 2) := dk_54 (dkn dmcX10_spanEdge (by decide +kernel))
theorem dX10_spanEdge_3 : decode cX10_spanEdge 3 = .ok (.iconst 0, 1) := dk_3 (dkn dmcX10_spanEdge (by decide +kernel))
theorem dX10_spanEdge_4 : decode cX10_spanEdge 4 = .ok (.istore 7, 2) := dk_54 (dkn dmcX10_spanEdge (by decide +kernel))
theorem dX10_spanEdge_6 : decode cX10_spanEdge 6 = .ok (.iload_n 3, 1) := dk_29 (dkn dmcX10_spanEdge (by decide +kernel))
theorem dX10_spanEdge_7 : decode cX10_spanEdge 7 = .ok (.iload_n 2, 1) := dk_28 (dkn dmcX10_spanEdge (by decide +kernel))
theorem dX10_spanEdge_8 : decode cX10_spanEdge 8 = .ok (.if_icmp .ne 7, 3) := dk_160 (a := 0) (b := 7) (dkn dmcX10_spanEdge (by decide +kernel)) rfl
theorem dX10_spanEdge_11 : decode cX10_spanEdge 11 = .ok (.iconst 1, 1) := dk_4 (dkn dmcX10_spanEdge (by decide +kernel))
theorem dX10_spanEdge_12 : decode cX10_spanEdge 12 = .ok (.goto 4, 3) := dk_167 (a := 0) (b := 4) (dkn dmcX10_spanEdge (by decide +kernel)) rfl
theorem dX10_spanEdge_15 : decode cX10_spanEdge 15 = .ok (.iconst 0, 1) := dk_3 (dkn dmcX10_spanEdge (by decide +kernel))
theorem dX10_spanEdge_16 : decode cX10_spanEdge 16 = .ok (.istore 8, 2) := dk_54 (dkn dmcX10_spanEdge (by decide +kernel))
theorem dX10_spanEdge_18 : decode cX10_spanEdge 18 = .ok (.iconst 0, 1) := dk_3 (dkn dmcX10_spanEdge (by decide +kernel))
theorem dX10_spanEdge_19 : decode cX10_spanEdge 19 = .ok (.istore 9, 2) := dk_54 (dkn dmcX10_spanEdge (by decide +kernel))
theorem dX10_spanEdge_21 : decode cX10_spanEdge 21 = .ok (.iload 9, 2) := dk_21 (dkn dmcX10_spanEdge (by decide +kernel))
theorem dX10_spanEdge_23 : decode cX10_spanEdge 23 = .ok (.aload_n 0, 1) := dk_42 (dkn dmcX10_spanEdge (by decide +kernel))
theorem dX10_spanEdge_24 : decode cX10_spanEdge 24 = .ok (.getfield 45, 3) := dk_180 (a := 0) (b := 45) (dkn dmcX10_spanEdge (by decide +kernel)) rfl
theorem dX10_spanEdge_27 : decode cX10_spanEdge 27 = .ok (.if_icmp .gt 75, 3) := dk_163 (a := 0) (b := 75) (dkn dmcX10_spanEdge (by decide +kernel)) rfl
theorem dX10_spanEdge_30 : decode cX10_spanEdge 30 = .ok (.aload_n 0, 1) := dk_42 (dkn dmcX10_spanEdge (by decide +kernel))
theorem dX10_spanEdge_31 : decode cX10_spanEdge 31 = .ok (.iload 9, 2) := dk_21 (dkn dmcX10_spanEdge (by decide +kernel))
theorem dX10_spanEdge_33 : decode cX10_spanEdge 33 = .ok (.iload_n 1, 1) := dk_27 (dkn dmcX10_spanEdge (by decide +kernel))
theorem dX10_spanEdge_34 : decode cX10_spanEdge 34 = .ok (.iload_n 2, 1) := dk_28 (dkn dmcX10_spanEdge (by decide +kernel))
theorem dX10_spanEdge_35 : decode cX10_spanEdge 35 = .ok (.iload 8, 2) := dk_21 (dkn dmcX10_spanEdge (by decide +kernel))
theorem dX10_spanEdge_37 : decode cX10_spanEdge 37 = .ok (.invokevirtual 147, 3) := dk_182 (a := 0) (b := 147) (dkn dmcX10_spanEdge (by decide +kernel)) rfl
theorem dX10_spanEdge_40 : decode cX10_spanEdge 40 = .ok (.istore 8, 2) := dk_54 (dkn dmcX10_spanEdge (by decide +kernel))
theorem dX10_spanEdge_42 : decode cX10_spanEdge 42 = .ok (.iload 8, 2) := dk_21 (dkn dmcX10_spanEdge (by decide +kernel))
theorem dX10_spanEdge_44 : decode cX10_spanEdge 44 = .ok (.ifCond .eq 26, 3) := dk_153 (a := 0) (b := 26) (dkn dmcX10_spanEdge (by decide +kernel)) rfl
theorem dX10_spanEdge_47 : decode cX10_spanEdge 47 = .ok (.iload 7, 2) := dk_21 (dkn dmcX10_spanEdge (by decide +kernel))
theorem dX10_spanEdge_49 : decode cX10_spanEdge 49 = .ok (.ifCond .ne 21, 3) := dk_154 (a := 0) (b := 21) (dkn dmcX10_spanEdge (by decide +kernel)) rfl
theorem dX10_spanEdge_52 : decode cX10_spanEdge 52 = .ok (.iinc 6 1, 3) := dk_132 (b := 1) (dkn dmcX10_spanEdge (by decide +kernel)) rfl
theorem dX10_spanEdge_55 : decode cX10_spanEdge 55 = .ok (.iload 5, 2) := dk_21 (dkn dmcX10_spanEdge (by decide +kernel))
theorem dX10_spanEdge_57 : decode cX10_spanEdge 57 = .ok (.ifCond .eq 13, 3) := dk_153 (a := 0) (b := 13) (dkn dmcX10_spanEdge (by decide +kernel)) rfl
theorem dX10_spanEdge_60 : decode cX10_spanEdge 60 = .ok (.iload 6, 2) := dk_21 (dkn dmcX10_spanEdge (by decide +kernel))
theorem dX10_spanEdge_62 : decode cX10_spanEdge 62 = .ok (.iload 4, 2) := dk_21 (dkn dmcX10_spanEdge (by decide +kernel))
theorem dX10_spanEdge_64 : decode cX10_spanEdge 64 = .ok (.if_icmp .ne 6, 3) := dk_160 (a := 0) (b := 6) (dkn dmcX10_spanEdge (by decide +kernel)) rfl
theorem dX10_spanEdge_67 : decode cX10_spanEdge 67 = .ok (.iload 9, 2) := dk_21 (dkn dmcX10_spanEdge (by decide +kernel))
theorem dX10_spanEdge_69 : decode cX10_spanEdge 69 = .ok (.ireturn, 1) := dk_172 (dkn dmcX10_spanEdge (by decide +kernel))
theorem dX10_spanEdge_70 : decode cX10_spanEdge 70 = .ok (.iload 7, 2) := dk_21 (dkn dmcX10_spanEdge (by decide +kernel))
theorem dX10_spanEdge_72 : decode cX10_spanEdge 72 = .ok (.ifCond .eq 20, 3) := dk_153 (a := 0) (b := 20) (dkn dmcX10_spanEdge (by decide +kernel)) rfl
theorem dX10_spanEdge_75 : decode cX10_spanEdge 75 = .ok (.iload 8, 2) := dk_21 (dkn dmcX10_spanEdge (by decide +kernel))
theorem dX10_spanEdge_77 : decode cX10_spanEdge 77 = .ok (.ifCond .ne 15, 3) := dk_154 (a := 0) (b := 15) (dkn dmcX10_spanEdge (by decide +kernel)) rfl
theorem dX10_spanEdge_80 : decode cX10_spanEdge 80 = .ok (.iload 6, 2) := dk_21 (dkn dmcX10_spanEdge (by decide +kernel))
theorem dX10_spanEdge_82 : decode cX10_spanEdge 82 = .ok (.iload 4, 2) := dk_21 (dkn dmcX10_spanEdge (by decide +kernel))
theorem dX10_spanEdge_84 : decode cX10_spanEdge 84 = .ok (.if_icmp .ne 8, 3) := dk_160 (a := 0) (b := 8) (dkn dmcX10_spanEdge (by decide +kernel)) rfl
theorem dX10_spanEdge_87 : decode cX10_spanEdge 87 = .ok (.iload 9, 2) := dk_21 (dkn dmcX10_spanEdge (by decide +kernel))
theorem dX10_spanEdge_89 : decode cX10_spanEdge 89 = .ok (.iconst 1, 1) := dk_4 (dkn dmcX10_spanEdge (by decide +kernel))
theorem dX10_spanEdge_90 : decode cX10_spanEdge 90 = .ok (.isub, 1) := dk_100 (dkn dmcX10_spanEdge (by decide +kernel))
theorem dX10_spanEdge_91 : decode cX10_spanEdge 91 = .ok (.ireturn, 1) := dk_172 (dkn dmcX10_spanEdge (by decide +kernel))
theorem dX10_spanEdge_92 : decode cX10_spanEdge 92 = .ok (.iload 8, 2) := dk_21 (dkn dmcX10_spanEdge (by decide +kernel))
theorem dX10_spanEdge_94 : decode cX10_spanEdge 94 = .ok (.istore 7, 2) := dk_54 (dkn dmcX10_spanEdge (by decide +kernel))
theorem dX10_spanEdge_96 : decode cX10_spanEdge 96 = .ok (.iinc 9 1, 3) := dk_132 (b := 1) (dkn dmcX10_spanEdge (by decide +kernel)) rfl
theorem dX10_spanEdge_99 : decode cX10_spanEdge 99 = .ok (.goto (-78), 3) := dk_167 (a := 255) (b := 178) (dkn dmcX10_spanEdge (by decide +kernel)) rfl
theorem dX10_spanEdge_102 : decode cX10_spanEdge 102 = .ok (.iload 7, 2) := dk_21 (dkn dmcX10_spanEdge (by decide +kernel))
theorem dX10_spanEdge_104 : decode cX10_spanEdge 104 = .ok (.ifCond .eq 22, 3) := dk_153 (a := 0) (b := 22) (dkn dmcX10_spanEdge (by decide +kernel)) rfl
theorem dX10_spanEdge_107 : decode cX10_spanEdge 107 = .ok (.iload 5, 2) := dk_21 (dkn dmcX10_spanEdge (by decide +kernel))
theorem dX10_spanEdge_109 : decode cX10_spanEdge 109 = .ok (.ifCond .ne 17, 3) := dk_154 (a := 0) (b := 17) (dkn dmcX10_spanEdge (by decide +kernel)) rfl
theorem dX10_spanEdge_112 : decode cX10_spanEdge 112 = .ok (.iload 6, 2) := dk_21 (dkn dmcX10_spanEdge (by decide +kernel))
theorem dX10_spanEdge_114 : decode cX10_spanEdge 114 = .ok (.iload 4, 2) := dk_21 (dkn dmcX10_spanEdge (by decide +kernel))
theorem dX10_spanEdge_116 : decode cX10_spanEdge 116 = .ok (.if_icmp .ne 10, 3) := dk_160 (a := 0) (b := 10) (dkn dmcX10_spanEdge (by decide +kernel)) rfl
theorem dX10_spanEdge_119 : decode cX10_spanEdge 119 = .ok (.aload_n 0, 1) := dk_42 (dkn dmcX10_spanEdge (by decide +kernel))
theorem dX10_spanEdge_120 : decode cX10_spanEdge 120 = .ok (.getfield 45, 3) := dk_180 (a := 0) (b := 45) (dkn dmcX10_spanEdge (by decide +kernel)) rfl
theorem dX10_spanEdge_123 : decode cX10_spanEdge 123 = .ok (.goto 4, 3) := dk_167 (a := 0) (b := 4) (dkn dmcX10_spanEdge (by decide +kernel)) rfl
theorem dX10_spanEdge_126 : decode cX10_spanEdge 126 = .ok (.iconst (-1), 1) := dk_2 (dkn dmcX10_spanEdge (by decide +kernel))
theorem dX10_spanEdge_127 : decode cX10_spanEdge 127 = .ok (.ireturn, 1) := dk_172 (dkn dmcX10_spanEdge (by decide +kernel))
def dncX10_holdsBehind : Nat := 0xac030400a7040700a01d2e1b1e00b42a11009a2e1b1b00b42aac041506009f1c2e1b1800b42a0d00991b
theorem dmcX10_holdsBehind : dkc dncX10_holdsBehind 42 cX10_holdsBehind.data.toList 0 = true := by decide +kernel
theorem dX10_holdsBehind_0 : decode cX10_holdsBehind 0 = .ok (.iload_n 1, 1) := dk_27 (dkn dmcX10_holdsBehind (by decide +kernel))
theorem dX10_holdsBehind_1 : decode cX10_holdsBehind 1 = .ok (.ifCond .eq 13, 3) := dk_153 (a := 0) (b := 13) (dkn dmcX10_holdsBehind (by decide +kernel)) rfl
theorem dX10_holdsBehind_4 : decode cX10_holdsBehind 4 = .ok (.aload_n 0, 1) := dk_42 (dkn dmcX10_holdsBehind (by decide +kernel))
theorem dX10_holdsBehind_5 : decode cX10_holdsBehind 5 = .ok (.getfield 24, 3) := dk_180 (a := 0) (b := 24) (dkn dmcX10_holdsBehind (by decide +kernel)) rfl
theorem dX10_holdsBehind_8 : decode cX10_holdsBehind 8 = .ok (.iload_n 1, 1) := dk_27 (dkn dmcX10_holdsBehind (by decide +kernel))
theorem dX10_holdsBehind_9 : decode cX10_holdsBehind 9 = .ok (.iaload, 1) := dk_46 (dkn dmcX10_holdsBehind (by decide +kernel))
theorem dX10_holdsBehind_10 : decode cX10_holdsBehind 10 = .ok (.iload_n 2, 1) := dk_28 (dkn dmcX10_holdsBehind (by decide +kernel))
theorem dX10_holdsBehind_11 : decode cX10_holdsBehind 11 = .ok (.if_icmp .eq 6, 3) := dk_159 (a := 0) (b := 6) (dkn dmcX10_holdsBehind (by decide +kernel)) rfl
theorem dX10_holdsBehind_14 : decode cX10_holdsBehind 14 = .ok (.iload 4, 2) := dk_21 (dkn dmcX10_holdsBehind (by decide +kernel))
theorem dX10_holdsBehind_16 : decode cX10_holdsBehind 16 = .ok (.ireturn, 1) := dk_172 (dkn dmcX10_holdsBehind (by decide +kernel))
theorem dX10_holdsBehind_17 : decode cX10_holdsBehind 17 = .ok (.aload_n 0, 1) := dk_42 (dkn dmcX10_holdsBehind (by decide +kernel))
theorem dX10_holdsBehind_18 : decode cX10_holdsBehind 18 = .ok (.getfield 27, 3) := dk_180 (a := 0) (b := 27) (dkn dmcX10_holdsBehind (by decide +kernel)) rfl
theorem dX10_holdsBehind_21 : decode cX10_holdsBehind 21 = .ok (.iload_n 1, 1) := dk_27 (dkn dmcX10_holdsBehind (by decide +kernel))
theorem dX10_holdsBehind_22 : decode cX10_holdsBehind 22 = .ok (.iaload, 1) := dk_46 (dkn dmcX10_holdsBehind (by decide +kernel))
theorem dX10_holdsBehind_23 : decode cX10_holdsBehind 23 = .ok (.ifCond .ne 17, 3) := dk_154 (a := 0) (b := 17) (dkn dmcX10_holdsBehind (by decide +kernel)) rfl
theorem dX10_holdsBehind_26 : decode cX10_holdsBehind 26 = .ok (.aload_n 0, 1) := dk_42 (dkn dmcX10_holdsBehind (by decide +kernel))
theorem dX10_holdsBehind_27 : decode cX10_holdsBehind 27 = .ok (.getfield 30, 3) := dk_180 (a := 0) (b := 30) (dkn dmcX10_holdsBehind (by decide +kernel)) rfl
theorem dX10_holdsBehind_30 : decode cX10_holdsBehind 30 = .ok (.iload_n 1, 1) := dk_27 (dkn dmcX10_holdsBehind (by decide +kernel))
theorem dX10_holdsBehind_31 : decode cX10_holdsBehind 31 = .ok (.iaload, 1) := dk_46 (dkn dmcX10_holdsBehind (by decide +kernel))
theorem dX10_holdsBehind_32 : decode cX10_holdsBehind 32 = .ok (.iload_n 3, 1) := dk_29 (dkn dmcX10_holdsBehind (by decide +kernel))
theorem dX10_holdsBehind_33 : decode cX10_holdsBehind 33 = .ok (.if_icmp .ne 7, 3) := dk_160 (a := 0) (b := 7) (dkn dmcX10_holdsBehind (by decide +kernel)) rfl
theorem dX10_holdsBehind_36 : decode cX10_holdsBehind 36 = .ok (.iconst 1, 1) := dk_4 (dkn dmcX10_holdsBehind (by decide +kernel))
theorem dX10_holdsBehind_37 : decode cX10_holdsBehind 37 = .ok (.goto 4, 3) := dk_167 (a := 0) (b := 4) (dkn dmcX10_holdsBehind (by decide +kernel)) rfl
theorem dX10_holdsBehind_40 : decode cX10_holdsBehind 40 = .ok (.iconst 0, 1) := dk_3 (dkn dmcX10_holdsBehind (by decide +kernel))
theorem dX10_holdsBehind_41 : decode cX10_holdsBehind 41 = .ok (.ireturn, 1) := dk_172 (dkn dmcX10_holdsBehind (by decide +kernel))
def dncX11_code : Nat := 0xac06154f600406151b4600b40c00b42a4f0515600607154e00b40c00b42a4f0415600507154e00b40c00b42a4f1d600407154e00b40c00b42a4f1c07154e00b40c00b42a07364a00b606151b0c00b42aacfe100600a11810061506362e1b4600b40c00b42aac020500a413101c09009b1c0d00994200b81b
theorem dmcX11_code : dkc dncX11_code 120 cX11_code.data.toList 0 = true := by decide +kernel
theorem dX11_code_0 : decode cX11_code 0 = .ok (.iload_n 1, 1) := dk_27 (dkn dmcX11_code (by decide +kernel))
theorem dX11_code_1 : decode cX11_code 1 = .ok (.invokestatic 66, 3) := dk_184 (a := 0) (b := 66) (dkn dmcX11_code (by decide +kernel)) rfl
theorem dX11_code_4 : decode cX11_code 4 = .ok (.ifCond .eq 13, 3) := dk_153 (a := 0) (b := 13) (dkn dmcX11_code (by decide +kernel)) rfl
theorem dX11_code_7 : decode cX11_code 7 = .ok (.iload_n 2, 1) := dk_28 (dkn dmcX11_code (by decide +kernel))
theorem dX11_code_8 : decode cX11_code 8 = .ok (.ifCond .lt 9, 3) := dk_155 (a := 0) (b := 9) (dkn dmcX11_code (by decide +kernel)) rfl
theorem dX11_code_11 : decode cX11_code 11 = .ok (.iload_n 2, 1) := dk_28 (dkn dmcX11_code (by decide +kernel))
theorem dX11_code_12 : decode cX11_code 12 = .ok (.bipush 19, 2) := dk_16 (a := 19) (dkn dmcX11_code (by decide +kernel)) rfl
theorem dX11_code_14 : decode cX11_code 14 = .ok (.if_icmp .le 5, 3) := dk_164 (a := 0) (b := 5) (dkn dmcX11_code (by decide +kernel)) rfl
theorem dX11_code_17 : decode cX11_code 17 = .ok (.iconst (-1), 1) := dk_2 (dkn dmcX11_code (by decide +kernel))
theorem dX11_code_18 : decode cX11_code 18 = .ok (.ireturn, 1) := dk_172 (dkn dmcX11_code (by decide +kernel))
theorem dX11_code_19 : decode cX11_code 19 = .ok (.aload_n 0, 1) := dk_42 (dkn dmcX11_code (by decide +kernel))
theorem dX11_code_20 : decode cX11_code 20 = .ok (.getfield 12, 3) := dk_180 (a := 0) (b := 12) (dkn dmcX11_code (by decide +kernel)) rfl
theorem dX11_code_23 : decode cX11_code 23 = .ok (.getfield 70, 3) := dk_180 (a := 0) (b := 70) (dkn dmcX11_code (by decide +kernel)) rfl
theorem dX11_code_26 : decode cX11_code 26 = .ok (.iload_n 1, 1) := dk_27 (dkn dmcX11_code (by decide +kernel))
theorem dX11_code_27 : decode cX11_code 27 = .ok (.iaload, 1) := dk_46 (dkn dmcX11_code (by decide +kernel))
theorem dX11_code_28 : decode cX11_code 28 = .ok (.istore 6, 2) := dk_54 (dkn dmcX11_code (by decide +kernel))
theorem dX11_code_30 : decode cX11_code 30 = .ok (.iload 6, 2) := dk_21 (dkn dmcX11_code (by decide +kernel))
theorem dX11_code_32 : decode cX11_code 32 = .ok (.bipush 24, 2) := dk_16 (a := 24) (dkn dmcX11_code (by decide +kernel)) rfl
theorem dX11_code_34 : decode cX11_code 34 = .ok (.if_icmp .lt 6, 3) := dk_161 (a := 0) (b := 6) (dkn dmcX11_code (by decide +kernel)) rfl
theorem dX11_code_37 : decode cX11_code 37 = .ok (.bipush (-2), 2) := dk_16 (a := 254) (dkn dmcX11_code (by decide +kernel)) rfl
theorem dX11_code_39 : decode cX11_code 39 = .ok (.ireturn, 1) := dk_172 (dkn dmcX11_code (by decide +kernel))
theorem dX11_code_40 : decode cX11_code 40 = .ok (.aload_n 0, 1) := dk_42 (dkn dmcX11_code (by decide +kernel))
theorem dX11_code_41 : decode cX11_code 41 = .ok (.getfield 12, 3) := dk_180 (a := 0) (b := 12) (dkn dmcX11_code (by decide +kernel)) rfl
theorem dX11_code_44 : decode cX11_code 44 = .ok (.iload_n 1, 1) := dk_27 (dkn dmcX11_code (by decide +kernel))
theorem dX11_code_45 : decode cX11_code 45 = .ok (.iload 6, 2) := dk_21 (dkn dmcX11_code (by decide +kernel))
theorem dX11_code_47 : decode cX11_code 47 = .ok (.invokevirtual 74, 3) := dk_182 (a := 0) (b := 74) (dkn dmcX11_code (by decide +kernel)) rfl
theorem dX11_code_50 : decode cX11_code 50 = .ok (.istore 7, 2) := dk_54 (dkn dmcX11_code (by decide +kernel))
theorem dX11_code_52 : decode cX11_code 52 = .ok (.aload_n 0, 1) := dk_42 (dkn dmcX11_code (by decide +kernel))
theorem dX11_code_53 : decode cX11_code 53 = .ok (.getfield 12, 3) := dk_180 (a := 0) (b := 12) (dkn dmcX11_code (by decide +kernel)) rfl
theorem dX11_code_56 : decode cX11_code 56 = .ok (.getfield 78, 3) := dk_180 (a := 0) (b := 78) (dkn dmcX11_code (by decide +kernel)) rfl
theorem dX11_code_59 : decode cX11_code 59 = .ok (.iload 7, 2) := dk_21 (dkn dmcX11_code (by decide +kernel))
theorem dX11_code_61 : decode cX11_code 61 = .ok (.iload_n 2, 1) := dk_28 (dkn dmcX11_code (by decide +kernel))
theorem dX11_code_62 : decode cX11_code 62 = .ok (.iastore, 1) := dk_79 (dkn dmcX11_code (by decide +kernel))
theorem dX11_code_63 : decode cX11_code 63 = .ok (.aload_n 0, 1) := dk_42 (dkn dmcX11_code (by decide +kernel))
theorem dX11_code_64 : decode cX11_code 64 = .ok (.getfield 12, 3) := dk_180 (a := 0) (b := 12) (dkn dmcX11_code (by decide +kernel)) rfl
theorem dX11_code_67 : decode cX11_code 67 = .ok (.getfield 78, 3) := dk_180 (a := 0) (b := 78) (dkn dmcX11_code (by decide +kernel)) rfl
theorem dX11_code_70 : decode cX11_code 70 = .ok (.iload 7, 2) := dk_21 (dkn dmcX11_code (by decide +kernel))
theorem dX11_code_72 : decode cX11_code 72 = .ok (.iconst 1, 1) := dk_4 (dkn dmcX11_code (by decide +kernel))
theorem dX11_code_73 : decode cX11_code 73 = .ok (.iadd, 1) := dk_96 (dkn dmcX11_code (by decide +kernel))
theorem dX11_code_74 : decode cX11_code 74 = .ok (.iload_n 3, 1) := dk_29 (dkn dmcX11_code (by decide +kernel))
theorem dX11_code_75 : decode cX11_code 75 = .ok (.iastore, 1) := dk_79 (dkn dmcX11_code (by decide +kernel))
theorem dX11_code_76 : decode cX11_code 76 = .ok (.aload_n 0, 1) := dk_42 (dkn dmcX11_code (by decide +kernel))
theorem dX11_code_77 : decode cX11_code 77 = .ok (.getfield 12, 3) := dk_180 (a := 0) (b := 12) (dkn dmcX11_code (by decide +kernel)) rfl
theorem dX11_code_80 : decode cX11_code 80 = .ok (.getfield 78, 3) := dk_180 (a := 0) (b := 78) (dkn dmcX11_code (by decide +kernel)) rfl
theorem dX11_code_83 : decode cX11_code 83 = .ok (.iload 7, 2) := dk_21 (dkn dmcX11_code (by decide +kernel))
theorem dX11_code_85 : decode cX11_code 85 = .ok (.iconst 2, 1) := dk_5 (dkn dmcX11_code (by decide +kernel))
theorem dX11_code_86 : decode cX11_code 86 = .ok (.iadd, 1) := dk_96 (dkn dmcX11_code (by decide +kernel))
theorem dX11_code_87 : decode cX11_code 87 = .ok (.iload 4, 2) := dk_21 (dkn dmcX11_code (by decide +kernel))
theorem dX11_code_89 : decode cX11_code 89 = .ok (.iastore, 1) := dk_79 (dkn dmcX11_code (by decide +kernel))
theorem dX11_code_90 : decode cX11_code 90 = .ok (.aload_n 0, 1) := dk_42 (dkn dmcX11_code (by decide +kernel))
theorem dX11_code_91 : decode cX11_code 91 = .ok (.getfield 12, 3) := dk_180 (a := 0) (b := 12) (dkn dmcX11_code (by decide +kernel)) rfl
theorem dX11_code_94 : decode cX11_code 94 = .ok (.getfield 78, 3) := dk_180 (a := 0) (b := 78) (dkn dmcX11_code (by decide +kernel)) rfl
theorem dX11_code_97 : decode cX11_code 97 = .ok (.iload 7, 2) := dk_21 (dkn dmcX11_code (by decide +kernel))
theorem dX11_code_99 : decode cX11_code 99 = .ok (.iconst 3, 1) := dk_6 (dkn dmcX11_code (by decide +kernel))
theorem dX11_code_100 : decode cX11_code 100 = .ok (.iadd, 1) := dk_96 (dkn dmcX11_code (by decide +kernel))
theorem dX11_code_101 : decode cX11_code 101 = .ok (.iload 5, 2) := dk_21 (dkn dmcX11_code (by decide +kernel))
theorem dX11_code_103 : decode cX11_code 103 = .ok (.iastore, 1) := dk_79 (dkn dmcX11_code (by decide +kernel))
theorem dX11_code_104 : decode cX11_code 104 = .ok (.aload_n 0, 1) := dk_42 (dkn dmcX11_code (by decide +kernel))
theorem dX11_code_105 : decode cX11_code 105 = .ok (.getfield 12, 3) := dk_180 (a := 0) (b := 12) (dkn dmcX11_code (by decide +kernel)) rfl
theorem dX11_code_108 : decode cX11_code 108 = .ok (.getfield 70, 3) := dk_180 (a := 0) (b := 70) (dkn dmcX11_code (by decide +kernel)) rfl
theorem dX11_code_111 : decode cX11_code 111 = .ok (.iload_n 1, 1) := dk_27 (dkn dmcX11_code (by decide +kernel))
theorem dX11_code_112 : decode cX11_code 112 = .ok (.iload 6, 2) := dk_21 (dkn dmcX11_code (by decide +kernel))
theorem dX11_code_114 : decode cX11_code 114 = .ok (.iconst 1, 1) := dk_4 (dkn dmcX11_code (by decide +kernel))
theorem dX11_code_115 : decode cX11_code 115 = .ok (.iadd, 1) := dk_96 (dkn dmcX11_code (by decide +kernel))
theorem dX11_code_116 : decode cX11_code 116 = .ok (.iastore, 1) := dk_79 (dkn dmcX11_code (by decide +kernel))
theorem dX11_code_117 : decode cX11_code 117 = .ok (.iload 6, 2) := dk_21 (dkn dmcX11_code (by decide +kernel))
theorem dX11_code_119 : decode cX11_code 119 = .ok (.ireturn, 1) := dk_172 (dkn dmcX11_code (by decide +kernel))
def dncX11_clear : Nat := 0xac1c4f031b4600b40c00b42a3d2e1b4600b40c00b42aac0205009a4200b81b
theorem dmcX11_clear : dkc dncX11_clear 31 cX11_clear.data.toList 0 = true := by decide +kernel
theorem dX11_clear_0 : decode cX11_clear 0 = .ok (.iload_n 1, 1) := dk_27 (dkn dmcX11_clear (by decide +kernel))
theorem dX11_clear_1 : decode cX11_clear 1 = .ok (.invokestatic 66, 3) := dk_184 (a := 0) (b := 66) (dkn dmcX11_clear (by decide +kernel)) rfl
theorem dX11_clear_4 : decode cX11_clear 4 = .ok (.ifCond .ne 5, 3) := dk_154 (a := 0) (b := 5) (dkn dmcX11_clear (by decide +kernel)) rfl
theorem dX11_clear_7 : decode cX11_clear 7 = .ok (.iconst (-1), 1) := dk_2 (dkn dmcX11_clear (by decide +kernel))
theorem dX11_clear_8 : decode cX11_clear 8 = .ok (.ireturn, 1) := dk_172 (dkn dmcX11_clear (by decide +kernel))
theorem dX11_clear_9 : decode cX11_clear 9 = .ok (.aload_n 0, 1) := dk_42 (dkn dmcX11_clear (by decide +kernel))
theorem dX11_clear_10 : decode cX11_clear 10 = .ok (.getfield 12, 3) := dk_180 (a := 0) (b := 12) (dkn dmcX11_clear (by decide +kernel)) rfl
theorem dX11_clear_13 : decode cX11_clear 13 = .ok (.getfield 70, 3) := dk_180 (a := 0) (b := 70) (dkn dmcX11_clear (by decide +kernel)) rfl
theorem dX11_clear_16 : decode cX11_clear 16 = .ok (.iload_n 1, 1) := dk_27 (dkn dmcX11_clear (by decide +kernel))
theorem dX11_clear_17 : decode cX11_clear 17 = .ok (.iaload, 1) := dk_46 (dkn dmcX11_clear (by decide +kernel))
theorem dX11_clear_18 : decode cX11_clear 18 = .ok (.istore_n 2, 1) := dk_61 (dkn dmcX11_clear (by decide +kernel))
theorem dX11_clear_19 : decode cX11_clear 19 = .ok (.aload_n 0, 1) := dk_42 (dkn dmcX11_clear (by decide +kernel))
theorem dX11_clear_20 : decode cX11_clear 20 = .ok (.getfield 12, 3) := dk_180 (a := 0) (b := 12) (dkn dmcX11_clear (by decide +kernel)) rfl
theorem dX11_clear_23 : decode cX11_clear 23 = .ok (.getfield 70, 3) := dk_180 (a := 0) (b := 70) (dkn dmcX11_clear (by decide +kernel)) rfl
theorem dX11_clear_26 : decode cX11_clear 26 = .ok (.iload_n 1, 1) := dk_27 (dkn dmcX11_clear (by decide +kernel))
theorem dX11_clear_27 : decode cX11_clear 27 = .ok (.iconst 0, 1) := dk_3 (dkn dmcX11_clear (by decide +kernel))
theorem dX11_clear_28 : decode cX11_clear 28 = .ok (.iastore, 1) := dk_79 (dkn dmcX11_clear (by decide +kernel))
theorem dX11_clear_29 : decode cX11_clear 29 = .ok (.iload_n 2, 1) := dk_28 (dkn dmcX11_clear (by decide +kernel))
theorem dX11_clear_30 : decode cX11_clear 30 = .ok (.ireturn, 1) := dk_172 (dkn dmcX11_clear (by decide +kernel))
theorem dX11_cell_0 : decode cX11_cell 0 = .ok (.iload_n 1, 1) := dk_27 (by decide +kernel)
theorem dX11_cell_1 : decode cX11_cell 1 = .ok (.invokestatic 81, 3) := dk_184 (a := 0) (b := 81) (by decide +kernel) rfl
theorem dX11_cell_4 : decode cX11_cell 4 = .ok (.ifCond .ne 5, 3) := dk_154 (a := 0) (b := 5) (by decide +kernel) rfl
theorem dX11_cell_7 : decode cX11_cell 7 = .ok (.iconst (-1), 1) := dk_2 (by decide +kernel)
theorem dX11_cell_8 : decode cX11_cell 8 = .ok (.ireturn, 1) := dk_172 (by decide +kernel)
theorem dX11_cell_9 : decode cX11_cell 9 = .ok (.aload_n 0, 1) := dk_42 (by decide +kernel)
theorem dX11_cell_10 : decode cX11_cell 10 = .ok (.getfield 12, 3) := dk_180 (a := 0) (b := 12) (by decide +kernel) rfl
theorem dX11_cell_13 : decode cX11_cell 13 = .ok (.getfield 84, 3) := dk_180 (a := 0) (b := 84) (by decide +kernel) rfl
theorem dX11_cell_16 : decode cX11_cell 16 = .ok (.iload_n 1, 1) := dk_27 (by decide +kernel)
theorem dX11_cell_17 : decode cX11_cell 17 = .ok (.iload_n 2, 1) := dk_28 (by decide +kernel)
theorem dX11_cell_18 : decode cX11_cell 18 = .ok (.iastore, 1) := dk_79 (by decide +kernel)
theorem dX11_cell_19 : decode cX11_cell 19 = .ok (.iconst 0, 1) := dk_3 (by decide +kernel)
theorem dX11_cell_20 : decode cX11_cell 20 = .ok (.ireturn, 1) := dk_172 (by decide +kernel)
def dncX11_input : Nat := 0xac5700b40c00b42a5700b560045700b4590c00b42a4f1b5700b40c00b42a5a00b40c00b42aacfe100600a11e105700b40c00b42a
theorem dmcX11_input : dkc dncX11_input 52 cX11_input.data.toList 0 = true := by decide +kernel
theorem dX11_input_0 : decode cX11_input 0 = .ok (.aload_n 0, 1) := dk_42 (dkn dmcX11_input (by decide +kernel))
theorem dX11_input_1 : decode cX11_input 1 = .ok (.getfield 12, 3) := dk_180 (a := 0) (b := 12) (dkn dmcX11_input (by decide +kernel)) rfl
theorem dX11_input_4 : decode cX11_input 4 = .ok (.getfield 87, 3) := dk_180 (a := 0) (b := 87) (dkn dmcX11_input (by decide +kernel)) rfl
theorem dX11_input_7 : decode cX11_input 7 = .ok (.bipush 30, 2) := dk_16 (a := 30) (dkn dmcX11_input (by decide +kernel)) rfl
theorem dX11_input_9 : decode cX11_input 9 = .ok (.if_icmp .lt 6, 3) := dk_161 (a := 0) (b := 6) (dkn dmcX11_input (by decide +kernel)) rfl
theorem dX11_input_12 : decode cX11_input 12 = .ok (.bipush (-2), 2) := dk_16 (a := 254) (dkn dmcX11_input (by decide +kernel)) rfl
theorem dX11_input_14 : decode cX11_input 14 = .ok (.ireturn, 1) := dk_172 (dkn dmcX11_input (by decide +kernel))
theorem dX11_input_15 : decode cX11_input 15 = .ok (.aload_n 0, 1) := dk_42 (dkn dmcX11_input (by decide +kernel))
theorem dX11_input_16 : decode cX11_input 16 = .ok (.getfield 12, 3) := dk_180 (a := 0) (b := 12) (dkn dmcX11_input (by decide +kernel)) rfl
theorem dX11_input_19 : decode cX11_input 19 = .ok (.getfield 90, 3) := dk_180 (a := 0) (b := 90) (dkn dmcX11_input (by decide +kernel)) rfl
theorem dX11_input_22 : decode cX11_input 22 = .ok (.aload_n 0, 1) := dk_42 (dkn dmcX11_input (by decide +kernel))
theorem dX11_input_23 : decode cX11_input 23 = .ok (.getfield 12, 3) := dk_180 (a := 0) (b := 12) (dkn dmcX11_input (by decide +kernel)) rfl
theorem dX11_input_26 : decode cX11_input 26 = .ok (.getfield 87, 3) := dk_180 (a := 0) (b := 87) (dkn dmcX11_input (by decide +kernel)) rfl
theorem dX11_input_29 : decode cX11_input 29 = .ok (.iload_n 1, 1) := dk_27 (dkn dmcX11_input (by decide +kernel))
theorem dX11_input_30 : decode cX11_input 30 = .ok (.iastore, 1) := dk_79 (dkn dmcX11_input (by decide +kernel))
theorem dX11_input_31 : decode cX11_input 31 = .ok (.aload_n 0, 1) := dk_42 (dkn dmcX11_input (by decide +kernel))
theorem dX11_input_32 : decode cX11_input 32 = .ok (.getfield 12, 3) := dk_180 (a := 0) (b := 12) (dkn dmcX11_input (by decide +kernel)) rfl
theorem dX11_input_35 : decode cX11_input 35 = .ok (.dup, 1) := dk_89 (dkn dmcX11_input (by decide +kernel))
theorem dX11_input_36 : decode cX11_input 36 = .ok (.getfield 87, 3) := dk_180 (a := 0) (b := 87) (dkn dmcX11_input (by decide +kernel)) rfl
theorem dX11_input_39 : decode cX11_input 39 = .ok (.iconst 1, 1) := dk_4 (dkn dmcX11_input (by decide +kernel))
theorem dX11_input_40 : decode cX11_input 40 = .ok (.iadd, 1) := dk_96 (dkn dmcX11_input (by decide +kernel))
theorem dX11_input_41 : decode cX11_input 41 = .ok (.putfield 87, 3) := dk_181 (a := 0) (b := 87) (dkn dmcX11_input (by decide +kernel)) rfl
theorem dX11_input_44 : decode cX11_input 44 = .ok (.aload_n 0, 1) := dk_42 (dkn dmcX11_input (by decide +kernel))
theorem dX11_input_45 : decode cX11_input 45 = .ok (.getfield 12, 3) := dk_180 (a := 0) (b := 12) (dkn dmcX11_input (by decide +kernel)) rfl
theorem dX11_input_48 : decode cX11_input 48 = .ok (.getfield 87, 3) := dk_180 (a := 0) (b := 87) (dkn dmcX11_input (by decide +kernel)) rfl
theorem dX11_input_51 : decode cX11_input 51 = .ok (.ireturn, 1) := dk_172 (dkn dmcX11_input (by decide +kernel))
def dncX11_turn : Nat := 0xac5d00b40c00b42a5d00b560045d00b4590c00b42a4f1c5d00b40c00b42a6300b40c00b42a4f1b5d00b40c00b42a6000b40c00b42aacfe100600a128105d00b40c00b42aac020500a464101c0900a1041c0e00994200b81b
theorem dmcX11_turn : dkc dncX11_turn 88 cX11_turn.data.toList 0 = true := by decide +kernel
theorem dX11_turn_0 : decode cX11_turn 0 = .ok (.iload_n 1, 1) := dk_27 (dkn dmcX11_turn (by decide +kernel))
theorem dX11_turn_1 : decode cX11_turn 1 = .ok (.invokestatic 66, 3) := dk_184 (a := 0) (b := 66) (dkn dmcX11_turn (by decide +kernel)) rfl
theorem dX11_turn_4 : decode cX11_turn 4 = .ok (.ifCond .eq 14, 3) := dk_153 (a := 0) (b := 14) (dkn dmcX11_turn (by decide +kernel)) rfl
theorem dX11_turn_7 : decode cX11_turn 7 = .ok (.iload_n 2, 1) := dk_28 (dkn dmcX11_turn (by decide +kernel))
theorem dX11_turn_8 : decode cX11_turn 8 = .ok (.iconst 1, 1) := dk_4 (dkn dmcX11_turn (by decide +kernel))
theorem dX11_turn_9 : decode cX11_turn 9 = .ok (.if_icmp .lt 9, 3) := dk_161 (a := 0) (b := 9) (dkn dmcX11_turn (by decide +kernel)) rfl
theorem dX11_turn_12 : decode cX11_turn 12 = .ok (.iload_n 2, 1) := dk_28 (dkn dmcX11_turn (by decide +kernel))
theorem dX11_turn_13 : decode cX11_turn 13 = .ok (.bipush 100, 2) := dk_16 (a := 100) (dkn dmcX11_turn (by decide +kernel)) rfl
theorem dX11_turn_15 : decode cX11_turn 15 = .ok (.if_icmp .le 5, 3) := dk_164 (a := 0) (b := 5) (dkn dmcX11_turn (by decide +kernel)) rfl
theorem dX11_turn_18 : decode cX11_turn 18 = .ok (.iconst (-1), 1) := dk_2 (dkn dmcX11_turn (by decide +kernel))
theorem dX11_turn_19 : decode cX11_turn 19 = .ok (.ireturn, 1) := dk_172 (dkn dmcX11_turn (by decide +kernel))
theorem dX11_turn_20 : decode cX11_turn 20 = .ok (.aload_n 0, 1) := dk_42 (dkn dmcX11_turn (by decide +kernel))
theorem dX11_turn_21 : decode cX11_turn 21 = .ok (.getfield 12, 3) := dk_180 (a := 0) (b := 12) (dkn dmcX11_turn (by decide +kernel)) rfl
theorem dX11_turn_24 : decode cX11_turn 24 = .ok (.getfield 93, 3) := dk_180 (a := 0) (b := 93) (dkn dmcX11_turn (by decide +kernel)) rfl
theorem dX11_turn_27 : decode cX11_turn 27 = .ok (.bipush 40, 2) := dk_16 (a := 40) (dkn dmcX11_turn (by decide +kernel)) rfl
theorem dX11_turn_29 : decode cX11_turn 29 = .ok (.if_icmp .lt 6, 3) := dk_161 (a := 0) (b := 6) (dkn dmcX11_turn (by decide +kernel)) rfl
theorem dX11_turn_32 : decode cX11_turn 32 = .ok (.bipush (-2), 2) := dk_16 (a := 254) (dkn dmcX11_turn (by decide +kernel)) rfl
theorem dX11_turn_34 : decode cX11_turn 34 = .ok (.ireturn, 1) := dk_172 (dkn dmcX11_turn (by decide +kernel))
theorem dX11_turn_35 : decode cX11_turn 35 = .ok (.aload_n 0, 1) := dk_42 (dkn dmcX11_turn (by decide +kernel))
theorem dX11_turn_36 : decode cX11_turn 36 = .ok (.getfield 12, 3) := dk_180 (a := 0) (b := 12) (dkn dmcX11_turn (by decide +kernel)) rfl
theorem dX11_turn_39 : decode cX11_turn 39 = .ok (.getfield 96, 3) := dk_180 (a := 0) (b := 96) (dkn dmcX11_turn (by decide +kernel)) rfl
theorem dX11_turn_42 : decode cX11_turn 42 = .ok (.aload_n 0, 1) := dk_42 (dkn dmcX11_turn (by decide +kernel))
theorem dX11_turn_43 : decode cX11_turn 43 = .ok (.getfield 12, 3) := dk_180 (a := 0) (b := 12) (dkn dmcX11_turn (by decide +kernel)) rfl
theorem dX11_turn_46 : decode cX11_turn 46 = .ok (.getfield 93, 3) := dk_180 (a := 0) (b := 93) (dkn dmcX11_turn (by decide +kernel)) rfl
theorem dX11_turn_49 : decode cX11_turn 49 = .ok (.iload_n 1, 1) := dk_27 (dkn dmcX11_turn (by decide +kernel))
theorem dX11_turn_50 : decode cX11_turn 50 = .ok (.iastore, 1) := dk_79 (dkn dmcX11_turn (by decide +kernel))
theorem dX11_turn_51 : decode cX11_turn 51 = .ok (.aload_n 0, 1) := dk_42 (dkn dmcX11_turn (by decide +kernel))
theorem dX11_turn_52 : decode cX11_turn 52 = .ok (.getfield 12, 3) := dk_180 (a := 0) (b := 12) (dkn dmcX11_turn (by decide +kernel)) rfl
theorem dX11_turn_55 : decode cX11_turn 55 = .ok (.getfield 99, 3) := dk_180 (a := 0) (b := 99) (dkn dmcX11_turn (by decide +kernel)) rfl
theorem dX11_turn_58 : decode cX11_turn 58 = .ok (.aload_n 0, 1) := dk_42 (dkn dmcX11_turn (by decide +kernel))
theorem dX11_turn_59 : decode cX11_turn 59 = .ok (.getfield 12, 3) := dk_180 (a := 0) (b := 12) (dkn dmcX11_turn (by decide +kernel)) rfl
theorem dX11_turn_62 : decode cX11_turn 62 = .ok (.getfield 93, 3) := dk_180 (a := 0) (b := 93) (dkn dmcX11_turn (by decide +kernel)) rfl
theorem dX11_turn_65 : decode cX11_turn 65 = .ok (.iload_n 2, 1) := dk_28 (dkn dmcX11_turn (by decide +kernel))
theorem dX11_turn_66 : decode cX11_turn 66 = .ok (.iastore, 1) := dk_79 (dkn dmcX11_turn (by decide +kernel))
theorem dX11_turn_67 : decode cX11_turn 67 = .ok (.aload_n 0, 1) := dk_42 (dkn dmcX11_turn (by decide +kernel))
theorem dX11_turn_68 : decode cX11_turn 68 = .ok (.getfield 12, 3) := dk_180 (a := 0) (b := 12) (dkn dmcX11_turn (by decide +kernel)) rfl
theorem dX11_turn_71 : decode cX11_turn 71 = .ok (.dup, 1) := dk_89 (dkn dmcX11_turn (by decide +kernel))
theorem dX11_turn_72 : decode cX11_turn 72 = .ok (.getfield 93, 3) := dk_180 (a := 0) (b := 93) (dkn dmcX11_turn (by decide +kernel)) rfl
theorem dX11_turn_75 : decode cX11_turn 75 = .ok (.iconst 1, 1) := dk_4 (dkn dmcX11_turn (by decide +kernel))
theorem dX11_turn_76 : decode cX11_turn 76 = .ok (.iadd, 1) := dk_96 (dkn dmcX11_turn (by decide +kernel))
theorem dX11_turn_77 : decode cX11_turn 77 = .ok (.putfield 93, 3) := dk_181 (a := 0) (b := 93) (dkn dmcX11_turn (by decide +kernel)) rfl
theorem dX11_turn_80 : decode cX11_turn 80 = .ok (.aload_n 0, 1) := dk_42 (dkn dmcX11_turn (by decide +kernel))
theorem dX11_turn_81 : decode cX11_turn 81 = .ok (.getfield 12, 3) := dk_180 (a := 0) (b := 12) (dkn dmcX11_turn (by decide +kernel)) rfl
theorem dX11_turn_84 : decode cX11_turn 84 = .ok (.getfield 93, 3) := dk_180 (a := 0) (b := 93) (dkn dmcX11_turn (by decide +kernel)) rfl
theorem dX11_turn_87 : decode cX11_turn 87 = .ok (.ireturn, 1) := dk_172 (dkn dmcX11_turn (by decide +kernel))
theorem dX11_freely_0 : decode cX11_freely 0 = .ok (.aload_n 0, 1) := dk_42 (by decide +kernel)
theorem dX11_freely_1 : decode cX11_freely 1 = .ok (.getfield 12, 3) := dk_180 (a := 0) (b := 12) (by decide +kernel) rfl
theorem dX11_freely_4 : decode cX11_freely 4 = .ok (.getfield 93, 3) := dk_180 (a := 0) (b := 93) (by decide +kernel) rfl
theorem dX11_freely_7 : decode cX11_freely 7 = .ok (.istore_n 1, 1) := dk_60 (by decide +kernel)
theorem dX11_freely_8 : decode cX11_freely 8 = .ok (.aload_n 0, 1) := dk_42 (by decide +kernel)
theorem dX11_freely_9 : decode cX11_freely 9 = .ok (.getfield 12, 3) := dk_180 (a := 0) (b := 12) (by decide +kernel) rfl
theorem dX11_freely_12 : decode cX11_freely 12 = .ok (.iconst 0, 1) := dk_3 (by decide +kernel)
theorem dX11_freely_13 : decode cX11_freely 13 = .ok (.putfield 93, 3) := dk_181 (a := 0) (b := 93) (by decide +kernel) rfl
theorem dX11_freely_16 : decode cX11_freely 16 = .ok (.iload_n 1, 1) := dk_27 (by decide +kernel)
theorem dX11_freely_17 : decode cX11_freely 17 = .ok (.ireturn, 1) := dk_172 (by decide +kernel)
def dncX11_run : Nat := 0xac8100b42200b42a7e00b57800b42200b42a2a7b00b57800b42200b42a2a7400b5042a7100b62b00b42a6d00b61800b42a2200b42a6900b65700b41000b42a1000b42a1800b42a6600b60c00b42a1000b42a
theorem dmcX11_run : dkc dncX11_run 82 cX11_run.data.toList 0 = true := by decide +kernel
theorem dX11_run_0 : decode cX11_run 0 = .ok (.aload_n 0, 1) := dk_42 (dkn dmcX11_run (by decide +kernel))
theorem dX11_run_1 : decode cX11_run 1 = .ok (.getfield 16, 3) := dk_180 (a := 0) (b := 16) (dkn dmcX11_run (by decide +kernel)) rfl
theorem dX11_run_4 : decode cX11_run 4 = .ok (.aload_n 0, 1) := dk_42 (dkn dmcX11_run (by decide +kernel))
theorem dX11_run_5 : decode cX11_run 5 = .ok (.getfield 12, 3) := dk_180 (a := 0) (b := 12) (dkn dmcX11_run (by decide +kernel)) rfl
theorem dX11_run_8 : decode cX11_run 8 = .ok (.invokevirtual 102, 3) := dk_182 (a := 0) (b := 102) (dkn dmcX11_run (by decide +kernel)) rfl
theorem dX11_run_11 : decode cX11_run 11 = .ok (.aload_n 0, 1) := dk_42 (dkn dmcX11_run (by decide +kernel))
theorem dX11_run_12 : decode cX11_run 12 = .ok (.getfield 24, 3) := dk_180 (a := 0) (b := 24) (dkn dmcX11_run (by decide +kernel)) rfl
theorem dX11_run_15 : decode cX11_run 15 = .ok (.aload_n 0, 1) := dk_42 (dkn dmcX11_run (by decide +kernel))
theorem dX11_run_16 : decode cX11_run 16 = .ok (.getfield 16, 3) := dk_180 (a := 0) (b := 16) (dkn dmcX11_run (by decide +kernel)) rfl
theorem dX11_run_19 : decode cX11_run 19 = .ok (.aload_n 0, 1) := dk_42 (dkn dmcX11_run (by decide +kernel))
theorem dX11_run_20 : decode cX11_run 20 = .ok (.getfield 16, 3) := dk_180 (a := 0) (b := 16) (dkn dmcX11_run (by decide +kernel)) rfl
theorem dX11_run_23 : decode cX11_run 23 = .ok (.getfield 87, 3) := dk_180 (a := 0) (b := 87) (dkn dmcX11_run (by decide +kernel)) rfl
theorem dX11_run_26 : decode cX11_run 26 = .ok (.invokevirtual 105, 3) := dk_182 (a := 0) (b := 105) (dkn dmcX11_run (by decide +kernel)) rfl
theorem dX11_run_29 : decode cX11_run 29 = .ok (.aload_n 0, 1) := dk_42 (dkn dmcX11_run (by decide +kernel))
theorem dX11_run_30 : decode cX11_run 30 = .ok (.getfield 34, 3) := dk_180 (a := 0) (b := 34) (dkn dmcX11_run (by decide +kernel)) rfl
theorem dX11_run_33 : decode cX11_run 33 = .ok (.aload_n 0, 1) := dk_42 (dkn dmcX11_run (by decide +kernel))
theorem dX11_run_34 : decode cX11_run 34 = .ok (.getfield 24, 3) := dk_180 (a := 0) (b := 24) (dkn dmcX11_run (by decide +kernel)) rfl
theorem dX11_run_37 : decode cX11_run 37 = .ok (.invokevirtual 109, 3) := dk_182 (a := 0) (b := 109) (dkn dmcX11_run (by decide +kernel)) rfl
theorem dX11_run_40 : decode cX11_run 40 = .ok (.aload_n 0, 1) := dk_42 (dkn dmcX11_run (by decide +kernel))
theorem dX11_run_41 : decode cX11_run 41 = .ok (.getfield 43, 3) := dk_180 (a := 0) (b := 43) (dkn dmcX11_run (by decide +kernel)) rfl
theorem dX11_run_44 : decode cX11_run 44 = .ok (.invokevirtual 113, 3) := dk_182 (a := 0) (b := 113) (dkn dmcX11_run (by decide +kernel)) rfl
theorem dX11_run_47 : decode cX11_run 47 = .ok (.aload_n 0, 1) := dk_42 (dkn dmcX11_run (by decide +kernel))
theorem dX11_run_48 : decode cX11_run 48 = .ok (.iconst 1, 1) := dk_4 (dkn dmcX11_run (by decide +kernel))
theorem dX11_run_49 : decode cX11_run 49 = .ok (.putfield 116, 3) := dk_181 (a := 0) (b := 116) (dkn dmcX11_run (by decide +kernel)) rfl
theorem dX11_run_52 : decode cX11_run 52 = .ok (.aload_n 0, 1) := dk_42 (dkn dmcX11_run (by decide +kernel))
theorem dX11_run_53 : decode cX11_run 53 = .ok (.aload_n 0, 1) := dk_42 (dkn dmcX11_run (by decide +kernel))
theorem dX11_run_54 : decode cX11_run 54 = .ok (.getfield 34, 3) := dk_180 (a := 0) (b := 34) (dkn dmcX11_run (by decide +kernel)) rfl
theorem dX11_run_57 : decode cX11_run 57 = .ok (.getfield 120, 3) := dk_180 (a := 0) (b := 120) (dkn dmcX11_run (by decide +kernel)) rfl
theorem dX11_run_60 : decode cX11_run 60 = .ok (.putfield 123, 3) := dk_181 (a := 0) (b := 123) (dkn dmcX11_run (by decide +kernel)) rfl
theorem dX11_run_63 : decode cX11_run 63 = .ok (.aload_n 0, 1) := dk_42 (dkn dmcX11_run (by decide +kernel))
theorem dX11_run_64 : decode cX11_run 64 = .ok (.aload_n 0, 1) := dk_42 (dkn dmcX11_run (by decide +kernel))
theorem dX11_run_65 : decode cX11_run 65 = .ok (.getfield 34, 3) := dk_180 (a := 0) (b := 34) (dkn dmcX11_run (by decide +kernel)) rfl
theorem dX11_run_68 : decode cX11_run 68 = .ok (.getfield 120, 3) := dk_180 (a := 0) (b := 120) (dkn dmcX11_run (by decide +kernel)) rfl
theorem dX11_run_71 : decode cX11_run 71 = .ok (.putfield 126, 3) := dk_181 (a := 0) (b := 126) (dkn dmcX11_run (by decide +kernel)) rfl
theorem dX11_run_74 : decode cX11_run 74 = .ok (.aload_n 0, 1) := dk_42 (dkn dmcX11_run (by decide +kernel))
theorem dX11_run_75 : decode cX11_run 75 = .ok (.getfield 34, 3) := dk_180 (a := 0) (b := 34) (dkn dmcX11_run (by decide +kernel)) rfl
theorem dX11_run_78 : decode cX11_run 78 = .ok (.getfield 129, 3) := dk_180 (a := 0) (b := 129) (dkn dmcX11_run (by decide +kernel)) rfl
theorem dX11_run_81 : decode cX11_run 81 = .ok (.ireturn, 1) := dk_172 (dkn dmcX11_run (by decide +kernel))
def dncX11_told : Nat := 0xac02ac60689100b42200b42a07688e00b42200b42a06ac9100b42200b42aac8e00b42200b42aac8b00b42200b42aac8700b62200b42a0a00a70207009a8400b42200b42aac8400b42200b42aac7800b42200b42aac8100b42200b42a730000006b000000630000005b000000450000003d000000350000002d000000070000000000000087000000aa1bacfe1006009a7400b42a
theorem dmcX11_told : dkc dncX11_told 148 cX11_told.data.toList 0 = true := by decide +kernel
theorem dX11_told_0 : decode cX11_told 0 = .ok (.aload_n 0, 1) := dk_42 (dkn dmcX11_told (by decide +kernel))
theorem dX11_told_1 : decode cX11_told 1 = .ok (.getfield 116, 3) := dk_180 (a := 0) (b := 116) (dkn dmcX11_told (by decide +kernel)) rfl
theorem dX11_told_4 : decode cX11_told 4 = .ok (.ifCond .ne 6, 3) := dk_154 (a := 0) (b := 6) (dkn dmcX11_told (by decide +kernel)) rfl
theorem dX11_told_7 : decode cX11_told 7 = .ok (.bipush (-2), 2) := dk_16 (a := 254) (dkn dmcX11_told (by decide +kernel)) rfl
theorem dX11_told_9 : decode cX11_told 9 = .ok (.ireturn, 1) := dk_172 (dkn dmcX11_told (by decide +kernel))
theorem dX11_told_10 : decode cX11_told 10 = .ok (.iload_n 1, 1) := dk_27 (dkn dmcX11_told (by decide +kernel))
theorem dX11_told_11 : decode cX11_told 11 = .ok (.tableswitch 135 0 7 #[45, 53, 61, 69, 91, 99, 107, 115], 45) := by decide +kernel
theorem dX11_told_56 : decode cX11_told 56 = .ok (.aload_n 0, 1) := dk_42 (dkn dmcX11_told (by decide +kernel))
theorem dX11_told_57 : decode cX11_told 57 = .ok (.getfield 34, 3) := dk_180 (a := 0) (b := 34) (dkn dmcX11_told (by decide +kernel)) rfl
theorem dX11_told_60 : decode cX11_told 60 = .ok (.getfield 129, 3) := dk_180 (a := 0) (b := 129) (dkn dmcX11_told (by decide +kernel)) rfl
theorem dX11_told_63 : decode cX11_told 63 = .ok (.ireturn, 1) := dk_172 (dkn dmcX11_told (by decide +kernel))
theorem dX11_told_64 : decode cX11_told 64 = .ok (.aload_n 0, 1) := dk_42 (dkn dmcX11_told (by decide +kernel))
theorem dX11_told_65 : decode cX11_told 65 = .ok (.getfield 34, 3) := dk_180 (a := 0) (b := 34) (dkn dmcX11_told (by decide +kernel)) rfl
theorem dX11_told_68 : decode cX11_told 68 = .ok (.getfield 120, 3) := dk_180 (a := 0) (b := 120) (dkn dmcX11_told (by decide +kernel)) rfl
theorem dX11_told_71 : decode cX11_told 71 = .ok (.ireturn, 1) := dk_172 (dkn dmcX11_told (by decide +kernel))
theorem dX11_told_72 : decode cX11_told 72 = .ok (.aload_n 0, 1) := dk_42 (dkn dmcX11_told (by decide +kernel))
theorem dX11_told_73 : decode cX11_told 73 = .ok (.getfield 34, 3) := dk_180 (a := 0) (b := 34) (dkn dmcX11_told (by decide +kernel)) rfl
theorem dX11_told_76 : decode cX11_told 76 = .ok (.getfield 132, 3) := dk_180 (a := 0) (b := 132) (dkn dmcX11_told (by decide +kernel)) rfl
theorem dX11_told_79 : decode cX11_told 79 = .ok (.ireturn, 1) := dk_172 (dkn dmcX11_told (by decide +kernel))
theorem dX11_told_80 : decode cX11_told 80 = .ok (.aload_n 0, 1) := dk_42 (dkn dmcX11_told (by decide +kernel))
theorem dX11_told_81 : decode cX11_told 81 = .ok (.getfield 34, 3) := dk_180 (a := 0) (b := 34) (dkn dmcX11_told (by decide +kernel)) rfl
theorem dX11_told_84 : decode cX11_told 84 = .ok (.getfield 132, 3) := dk_180 (a := 0) (b := 132) (dkn dmcX11_told (by decide +kernel)) rfl
theorem dX11_told_87 : decode cX11_told 87 = .ok (.ifCond .ne 7, 3) := dk_154 (a := 0) (b := 7) (dkn dmcX11_told (by decide +kernel)) rfl
theorem dX11_told_90 : decode cX11_told 90 = .ok (.iconst (-1), 1) := dk_2 (dkn dmcX11_told (by decide +kernel))
theorem dX11_told_91 : decode cX11_told 91 = .ok (.goto 10, 3) := dk_167 (a := 0) (b := 10) (dkn dmcX11_told (by decide +kernel)) rfl
theorem dX11_told_94 : decode cX11_told 94 = .ok (.aload_n 0, 1) := dk_42 (dkn dmcX11_told (by decide +kernel))
theorem dX11_told_95 : decode cX11_told 95 = .ok (.getfield 34, 3) := dk_180 (a := 0) (b := 34) (dkn dmcX11_told (by decide +kernel)) rfl
theorem dX11_told_98 : decode cX11_told 98 = .ok (.invokevirtual 135, 3) := dk_182 (a := 0) (b := 135) (dkn dmcX11_told (by decide +kernel)) rfl
theorem dX11_told_101 : decode cX11_told 101 = .ok (.ireturn, 1) := dk_172 (dkn dmcX11_told (by decide +kernel))
theorem dX11_told_102 : decode cX11_told 102 = .ok (.aload_n 0, 1) := dk_42 (dkn dmcX11_told (by decide +kernel))
theorem dX11_told_103 : decode cX11_told 103 = .ok (.getfield 34, 3) := dk_180 (a := 0) (b := 34) (dkn dmcX11_told (by decide +kernel)) rfl
theorem dX11_told_106 : decode cX11_told 106 = .ok (.getfield 139, 3) := dk_180 (a := 0) (b := 139) (dkn dmcX11_told (by decide +kernel)) rfl
theorem dX11_told_109 : decode cX11_told 109 = .ok (.ireturn, 1) := dk_172 (dkn dmcX11_told (by decide +kernel))
theorem dX11_told_110 : decode cX11_told 110 = .ok (.aload_n 0, 1) := dk_42 (dkn dmcX11_told (by decide +kernel))
theorem dX11_told_111 : decode cX11_told 111 = .ok (.getfield 34, 3) := dk_180 (a := 0) (b := 34) (dkn dmcX11_told (by decide +kernel)) rfl
theorem dX11_told_114 : decode cX11_told 114 = .ok (.getfield 142, 3) := dk_180 (a := 0) (b := 142) (dkn dmcX11_told (by decide +kernel)) rfl
theorem dX11_told_117 : decode cX11_told 117 = .ok (.ireturn, 1) := dk_172 (dkn dmcX11_told (by decide +kernel))
theorem dX11_told_118 : decode cX11_told 118 = .ok (.aload_n 0, 1) := dk_42 (dkn dmcX11_told (by decide +kernel))
theorem dX11_told_119 : decode cX11_told 119 = .ok (.getfield 34, 3) := dk_180 (a := 0) (b := 34) (dkn dmcX11_told (by decide +kernel)) rfl
theorem dX11_told_122 : decode cX11_told 122 = .ok (.getfield 145, 3) := dk_180 (a := 0) (b := 145) (dkn dmcX11_told (by decide +kernel)) rfl
theorem dX11_told_125 : decode cX11_told 125 = .ok (.ireturn, 1) := dk_172 (dkn dmcX11_told (by decide +kernel))
theorem dX11_told_126 : decode cX11_told 126 = .ok (.iconst 3, 1) := dk_6 (dkn dmcX11_told (by decide +kernel))
theorem dX11_told_127 : decode cX11_told 127 = .ok (.aload_n 0, 1) := dk_42 (dkn dmcX11_told (by decide +kernel))
theorem dX11_told_128 : decode cX11_told 128 = .ok (.getfield 34, 3) := dk_180 (a := 0) (b := 34) (dkn dmcX11_told (by decide +kernel)) rfl
theorem dX11_told_131 : decode cX11_told 131 = .ok (.getfield 142, 3) := dk_180 (a := 0) (b := 142) (dkn dmcX11_told (by decide +kernel)) rfl
theorem dX11_told_134 : decode cX11_told 134 = .ok (.imul, 1) := dk_104 (dkn dmcX11_told (by decide +kernel))
theorem dX11_told_135 : decode cX11_told 135 = .ok (.iconst 4, 1) := dk_7 (dkn dmcX11_told (by decide +kernel))
theorem dX11_told_136 : decode cX11_told 136 = .ok (.aload_n 0, 1) := dk_42 (dkn dmcX11_told (by decide +kernel))
theorem dX11_told_137 : decode cX11_told 137 = .ok (.getfield 34, 3) := dk_180 (a := 0) (b := 34) (dkn dmcX11_told (by decide +kernel)) rfl
theorem dX11_told_140 : decode cX11_told 140 = .ok (.getfield 145, 3) := dk_180 (a := 0) (b := 145) (dkn dmcX11_told (by decide +kernel)) rfl
theorem dX11_told_143 : decode cX11_told 143 = .ok (.imul, 1) := dk_104 (dkn dmcX11_told (by decide +kernel))
theorem dX11_told_144 : decode cX11_told 144 = .ok (.iadd, 1) := dk_96 (dkn dmcX11_told (by decide +kernel))
theorem dX11_told_145 : decode cX11_told 145 = .ok (.ireturn, 1) := dk_172 (dkn dmcX11_told (by decide +kernel))
theorem dX11_told_146 : decode cX11_told 146 = .ok (.iconst (-1), 1) := dk_2 (dkn dmcX11_told (by decide +kernel))
theorem dX11_told_147 : decode cX11_told 147 = .ok (.ireturn, 1) := dk_172 (dkn dmcX11_told (by decide +kernel))
def dncX11_change : Nat := 0xac2e1b9700b42200b42a0c00a72e1b9400b42200b42a0f009a1cac020500a4041c08009b1c0c00a28e00b42200b42a1b17009b1b1b00997400b42a
theorem dmcX11_change : dkc dncX11_change 59 cX11_change.data.toList 0 = true := by decide +kernel
theorem dX11_change_0 : decode cX11_change 0 = .ok (.aload_n 0, 1) := dk_42 (dkn dmcX11_change (by decide +kernel))
theorem dX11_change_1 : decode cX11_change 1 = .ok (.getfield 116, 3) := dk_180 (a := 0) (b := 116) (dkn dmcX11_change (by decide +kernel)) rfl
theorem dX11_change_4 : decode cX11_change 4 = .ok (.ifCond .eq 27, 3) := dk_153 (a := 0) (b := 27) (dkn dmcX11_change (by decide +kernel)) rfl
theorem dX11_change_7 : decode cX11_change 7 = .ok (.iload_n 1, 1) := dk_27 (dkn dmcX11_change (by decide +kernel))
theorem dX11_change_8 : decode cX11_change 8 = .ok (.ifCond .lt 23, 3) := dk_155 (a := 0) (b := 23) (dkn dmcX11_change (by decide +kernel)) rfl
theorem dX11_change_11 : decode cX11_change 11 = .ok (.iload_n 1, 1) := dk_27 (dkn dmcX11_change (by decide +kernel))
theorem dX11_change_12 : decode cX11_change 12 = .ok (.aload_n 0, 1) := dk_42 (dkn dmcX11_change (by decide +kernel))
theorem dX11_change_13 : decode cX11_change 13 = .ok (.getfield 34, 3) := dk_180 (a := 0) (b := 34) (dkn dmcX11_change (by decide +kernel)) rfl
theorem dX11_change_16 : decode cX11_change 16 = .ok (.getfield 142, 3) := dk_180 (a := 0) (b := 142) (dkn dmcX11_change (by decide +kernel)) rfl
theorem dX11_change_19 : decode cX11_change 19 = .ok (.if_icmp .ge 12, 3) := dk_162 (a := 0) (b := 12) (dkn dmcX11_change (by decide +kernel)) rfl
theorem dX11_change_22 : decode cX11_change 22 = .ok (.iload_n 2, 1) := dk_28 (dkn dmcX11_change (by decide +kernel))
theorem dX11_change_23 : decode cX11_change 23 = .ok (.ifCond .lt 8, 3) := dk_155 (a := 0) (b := 8) (dkn dmcX11_change (by decide +kernel)) rfl
theorem dX11_change_26 : decode cX11_change 26 = .ok (.iload_n 2, 1) := dk_28 (dkn dmcX11_change (by decide +kernel))
theorem dX11_change_27 : decode cX11_change 27 = .ok (.iconst 1, 1) := dk_4 (dkn dmcX11_change (by decide +kernel))
theorem dX11_change_28 : decode cX11_change 28 = .ok (.if_icmp .le 5, 3) := dk_164 (a := 0) (b := 5) (dkn dmcX11_change (by decide +kernel)) rfl
theorem dX11_change_31 : decode cX11_change 31 = .ok (.iconst (-1), 1) := dk_2 (dkn dmcX11_change (by decide +kernel))
theorem dX11_change_32 : decode cX11_change 32 = .ok (.ireturn, 1) := dk_172 (dkn dmcX11_change (by decide +kernel))
theorem dX11_change_33 : decode cX11_change 33 = .ok (.iload_n 2, 1) := dk_28 (dkn dmcX11_change (by decide +kernel))
theorem dX11_change_34 : decode cX11_change 34 = .ok (.ifCond .ne 15, 3) := dk_154 (a := 0) (b := 15) (dkn dmcX11_change (by decide +kernel)) rfl
theorem dX11_change_37 : decode cX11_change 37 = .ok (.aload_n 0, 1) := dk_42 (dkn dmcX11_change (by decide +kernel))
theorem dX11_change_38 : decode cX11_change 38 = .ok (.getfield 34, 3) := dk_180 (a := 0) (b := 34) (dkn dmcX11_change (by decide +kernel)) rfl
theorem dX11_change_41 : decode cX11_change 41 = .ok (.getfield 148, 3) := dk_180 (a := 0) (b := 148) (dkn dmcX11_change (by decide +kernel)) rfl
theorem dX11_change_44 : decode cX11_change 44 = .ok (.iload_n 1, 1) := dk_27 (dkn dmcX11_change (by decide +kernel))
theorem dX11_change_45 : decode cX11_change 45 = .ok (.iaload, 1) := dk_46 (dkn dmcX11_change (by decide +kernel))
theorem dX11_change_46 : decode cX11_change 46 = .ok (.goto 12, 3) := dk_167 (a := 0) (b := 12) (dkn dmcX11_change (by decide +kernel)) rfl
theorem dX11_change_49 : decode cX11_change 49 = .ok (.aload_n 0, 1) := dk_42 (dkn dmcX11_change (by decide +kernel))
theorem dX11_change_50 : decode cX11_change 50 = .ok (.getfield 34, 3) := dk_180 (a := 0) (b := 34) (dkn dmcX11_change (by decide +kernel)) rfl
theorem dX11_change_53 : decode cX11_change 53 = .ok (.getfield 151, 3) := dk_180 (a := 0) (b := 151) (dkn dmcX11_change (by decide +kernel)) rfl
theorem dX11_change_56 : decode cX11_change 56 = .ok (.iload_n 1, 1) := dk_27 (dkn dmcX11_change (by decide +kernel))
theorem dX11_change_57 : decode cX11_change 57 = .ok (.iaload, 1) := dk_46 (dkn dmcX11_change (by decide +kernel))
theorem dX11_change_58 : decode cX11_change 58 = .ok (.ireturn, 1) := dk_172 (dkn dmcX11_change (by decide +kernel))
def dncX11_step : Nat := 0xac02ac2e1ba900b42200b42aac2e1ba600b42200b42aac2e1ba300b42200b42aac2e1ba000b42200b42aac2e1b9d00b42200b42aac2e1b9a00b42200b42a580000004e000000440000003a000000300000002600000005000000000000006200000000aa1cac020500a47800b42200b42a1b0e00a1041b1300997400b42a
theorem dmcX11_step : dkc dncX11_step 126 cX11_step.data.toList 0 = true := by decide +kernel
theorem dX11_step_0 : decode cX11_step 0 = .ok (.aload_n 0, 1) := dk_42 (dkn dmcX11_step (by decide +kernel))
theorem dX11_step_1 : decode cX11_step 1 = .ok (.getfield 116, 3) := dk_180 (a := 0) (b := 116) (dkn dmcX11_step (by decide +kernel)) rfl
theorem dX11_step_4 : decode cX11_step 4 = .ok (.ifCond .eq 19, 3) := dk_153 (a := 0) (b := 19) (dkn dmcX11_step (by decide +kernel)) rfl
theorem dX11_step_7 : decode cX11_step 7 = .ok (.iload_n 1, 1) := dk_27 (dkn dmcX11_step (by decide +kernel))
theorem dX11_step_8 : decode cX11_step 8 = .ok (.iconst 1, 1) := dk_4 (dkn dmcX11_step (by decide +kernel))
theorem dX11_step_9 : decode cX11_step 9 = .ok (.if_icmp .lt 14, 3) := dk_161 (a := 0) (b := 14) (dkn dmcX11_step (by decide +kernel)) rfl
theorem dX11_step_12 : decode cX11_step 12 = .ok (.iload_n 1, 1) := dk_27 (dkn dmcX11_step (by decide +kernel))
theorem dX11_step_13 : decode cX11_step 13 = .ok (.aload_n 0, 1) := dk_42 (dkn dmcX11_step (by decide +kernel))
theorem dX11_step_14 : decode cX11_step 14 = .ok (.getfield 34, 3) := dk_180 (a := 0) (b := 34) (dkn dmcX11_step (by decide +kernel)) rfl
theorem dX11_step_17 : decode cX11_step 17 = .ok (.getfield 120, 3) := dk_180 (a := 0) (b := 120) (dkn dmcX11_step (by decide +kernel)) rfl
theorem dX11_step_20 : decode cX11_step 20 = .ok (.if_icmp .le 5, 3) := dk_164 (a := 0) (b := 5) (dkn dmcX11_step (by decide +kernel)) rfl
theorem dX11_step_23 : decode cX11_step 23 = .ok (.iconst (-1), 1) := dk_2 (dkn dmcX11_step (by decide +kernel))
theorem dX11_step_24 : decode cX11_step 24 = .ok (.ireturn, 1) := dk_172 (dkn dmcX11_step (by decide +kernel))
theorem dX11_step_25 : decode cX11_step 25 = .ok (.iload_n 2, 1) := dk_28 (dkn dmcX11_step (by decide +kernel))
theorem dX11_step_26 : decode cX11_step 26 = .ok (.tableswitch 98 0 5 #[38, 48, 58, 68, 78, 88], 38) := by decide +kernel
theorem dX11_step_64 : decode cX11_step 64 = .ok (.aload_n 0, 1) := dk_42 (dkn dmcX11_step (by decide +kernel))
theorem dX11_step_65 : decode cX11_step 65 = .ok (.getfield 34, 3) := dk_180 (a := 0) (b := 34) (dkn dmcX11_step (by decide +kernel)) rfl
theorem dX11_step_68 : decode cX11_step 68 = .ok (.getfield 154, 3) := dk_180 (a := 0) (b := 154) (dkn dmcX11_step (by decide +kernel)) rfl
theorem dX11_step_71 : decode cX11_step 71 = .ok (.iload_n 1, 1) := dk_27 (dkn dmcX11_step (by decide +kernel))
theorem dX11_step_72 : decode cX11_step 72 = .ok (.iaload, 1) := dk_46 (dkn dmcX11_step (by decide +kernel))
theorem dX11_step_73 : decode cX11_step 73 = .ok (.ireturn, 1) := dk_172 (dkn dmcX11_step (by decide +kernel))
theorem dX11_step_74 : decode cX11_step 74 = .ok (.aload_n 0, 1) := dk_42 (dkn dmcX11_step (by decide +kernel))
theorem dX11_step_75 : decode cX11_step 75 = .ok (.getfield 34, 3) := dk_180 (a := 0) (b := 34) (dkn dmcX11_step (by decide +kernel)) rfl
theorem dX11_step_78 : decode cX11_step 78 = .ok (.getfield 157, 3) := dk_180 (a := 0) (b := 157) (dkn dmcX11_step (by decide +kernel)) rfl
theorem dX11_step_81 : decode cX11_step 81 = .ok (.iload_n 1, 1) := dk_27 (dkn dmcX11_step (by decide +kernel))
theorem dX11_step_82 : decode cX11_step 82 = .ok (.iaload, 1) := dk_46 (dkn dmcX11_step (by decide +kernel))
theorem dX11_step_83 : decode cX11_step 83 = .ok (.ireturn, 1) := dk_172 (dkn dmcX11_step (by decide +kernel))
theorem dX11_step_84 : decode cX11_step 84 = .ok (.aload_n 0, 1) := dk_42 (dkn dmcX11_step (by decide +kernel))
theorem dX11_step_85 : decode cX11_step 85 = .ok (.getfield 34, 3) := dk_180 (a := 0) (b := 34) (dkn dmcX11_step (by decide +kernel)) rfl
theorem dX11_step_88 : decode cX11_step 88 = .ok (.getfield 160, 3) := dk_180 (a := 0) (b := 160) (dkn dmcX11_step (by decide +kernel)) rfl
theorem dX11_step_91 : decode cX11_step 91 = .ok (.iload_n 1, 1) := dk_27 (dkn dmcX11_step (by decide +kernel))
theorem dX11_step_92 : decode cX11_step 92 = .ok (.iaload, 1) := dk_46 (dkn dmcX11_step (by decide +kernel))
theorem dX11_step_93 : decode cX11_step 93 = .ok (.ireturn, 1) := dk_172 (dkn dmcX11_step (by decide +kernel))
theorem dX11_step_94 : decode cX11_step 94 = .ok (.aload_n 0, 1) := dk_42 (dkn dmcX11_step (by decide +kernel))
theorem dX11_step_95 : decode cX11_step 95 = .ok (.getfield 34, 3) := dk_180 (a := 0) (b := 34) (dkn dmcX11_step (by decide +kernel)) rfl
theorem dX11_step_98 : decode cX11_step 98 = .ok (.getfield 163, 3) := dk_180 (a := 0) (b := 163) (dkn dmcX11_step (by decide +kernel)) rfl
theorem dX11_step_101 : decode cX11_step 101 = .ok (.iload_n 1, 1) := dk_27 (dkn dmcX11_step (by decide +kernel))
theorem dX11_step_102 : decode cX11_step 102 = .ok (.iaload, 1) := dk_46 (dkn dmcX11_step (by decide +kernel))
theorem dX11_step_103 : decode cX11_step 103 = .ok (.ireturn, 1) := dk_172 (dkn dmcX11_step (by decide +kernel))
theorem dX11_step_104 : decode cX11_step 104 = .ok (.aload_n 0, 1) := dk_42 (dkn dmcX11_step (by decide +kernel))
theorem dX11_step_105 : decode cX11_step 105 = .ok (.getfield 34, 3) := dk_180 (a := 0) (b := 34) (dkn dmcX11_step (by decide +kernel)) rfl
theorem dX11_step_108 : decode cX11_step 108 = .ok (.getfield 166, 3) := dk_180 (a := 0) (b := 166) (dkn dmcX11_step (by decide +kernel)) rfl
theorem dX11_step_111 : decode cX11_step 111 = .ok (.iload_n 1, 1) := dk_27 (dkn dmcX11_step (by decide +kernel))
theorem dX11_step_112 : decode cX11_step 112 = .ok (.iaload, 1) := dk_46 (dkn dmcX11_step (by decide +kernel))
theorem dX11_step_113 : decode cX11_step 113 = .ok (.ireturn, 1) := dk_172 (dkn dmcX11_step (by decide +kernel))
theorem dX11_step_114 : decode cX11_step 114 = .ok (.aload_n 0, 1) := dk_42 (dkn dmcX11_step (by decide +kernel))
theorem dX11_step_115 : decode cX11_step 115 = .ok (.getfield 34, 3) := dk_180 (a := 0) (b := 34) (dkn dmcX11_step (by decide +kernel)) rfl
theorem dX11_step_118 : decode cX11_step 118 = .ok (.getfield 169, 3) := dk_180 (a := 0) (b := 169) (dkn dmcX11_step (by decide +kernel)) rfl
theorem dX11_step_121 : decode cX11_step 121 = .ok (.iload_n 1, 1) := dk_27 (dkn dmcX11_step (by decide +kernel))
theorem dX11_step_122 : decode cX11_step 122 = .ok (.iaload, 1) := dk_46 (dkn dmcX11_step (by decide +kernel))
theorem dX11_step_123 : decode cX11_step 123 = .ok (.ireturn, 1) := dk_172 (dkn dmcX11_step (by decide +kernel))
theorem dX11_step_124 : decode cX11_step 124 = .ok (.iconst (-1), 1) := dk_2 (dkn dmcX11_step (by decide +kernel))
theorem dX11_step_125 : decode cX11_step 125 = .ok (.ireturn, 1) := dk_172 (dkn dmcX11_step (by decide +kernel))
def dncX11_play : Nat := 0xacb000b42a3e00b5ac00b61b2a2a6900b61c0c00b42a1c00b42aac020500a49100b42200b42a1c0e009b1c1200a38e00b42200b42a1b1d009b1bacfe1006009a7400b42a
theorem dmcX11_play : dkc dncX11_play 68 cX11_play.data.toList 0 = true := by decide +kernel
theorem dX11_play_0 : decode cX11_play 0 = .ok (.aload_n 0, 1) := dk_42 (dkn dmcX11_play (by decide +kernel))
theorem dX11_play_1 : decode cX11_play 1 = .ok (.getfield 116, 3) := dk_180 (a := 0) (b := 116) (dkn dmcX11_play (by decide +kernel)) rfl
theorem dX11_play_4 : decode cX11_play 4 = .ok (.ifCond .ne 6, 3) := dk_154 (a := 0) (b := 6) (dkn dmcX11_play (by decide +kernel)) rfl
theorem dX11_play_7 : decode cX11_play 7 = .ok (.bipush (-2), 2) := dk_16 (a := 254) (dkn dmcX11_play (by decide +kernel)) rfl
theorem dX11_play_9 : decode cX11_play 9 = .ok (.ireturn, 1) := dk_172 (dkn dmcX11_play (by decide +kernel))
theorem dX11_play_10 : decode cX11_play 10 = .ok (.iload_n 1, 1) := dk_27 (dkn dmcX11_play (by decide +kernel))
theorem dX11_play_11 : decode cX11_play 11 = .ok (.ifCond .lt 29, 3) := dk_155 (a := 0) (b := 29) (dkn dmcX11_play (by decide +kernel)) rfl
theorem dX11_play_14 : decode cX11_play 14 = .ok (.iload_n 1, 1) := dk_27 (dkn dmcX11_play (by decide +kernel))
theorem dX11_play_15 : decode cX11_play 15 = .ok (.aload_n 0, 1) := dk_42 (dkn dmcX11_play (by decide +kernel))
theorem dX11_play_16 : decode cX11_play 16 = .ok (.getfield 34, 3) := dk_180 (a := 0) (b := 34) (dkn dmcX11_play (by decide +kernel)) rfl
theorem dX11_play_19 : decode cX11_play 19 = .ok (.getfield 142, 3) := dk_180 (a := 0) (b := 142) (dkn dmcX11_play (by decide +kernel)) rfl
theorem dX11_play_22 : decode cX11_play 22 = .ok (.if_icmp .gt 18, 3) := dk_163 (a := 0) (b := 18) (dkn dmcX11_play (by decide +kernel)) rfl
theorem dX11_play_25 : decode cX11_play 25 = .ok (.iload_n 2, 1) := dk_28 (dkn dmcX11_play (by decide +kernel))
theorem dX11_play_26 : decode cX11_play 26 = .ok (.ifCond .lt 14, 3) := dk_155 (a := 0) (b := 14) (dkn dmcX11_play (by decide +kernel)) rfl
theorem dX11_play_29 : decode cX11_play 29 = .ok (.iload_n 2, 1) := dk_28 (dkn dmcX11_play (by decide +kernel))
theorem dX11_play_30 : decode cX11_play 30 = .ok (.aload_n 0, 1) := dk_42 (dkn dmcX11_play (by decide +kernel))
theorem dX11_play_31 : decode cX11_play 31 = .ok (.getfield 34, 3) := dk_180 (a := 0) (b := 34) (dkn dmcX11_play (by decide +kernel)) rfl
theorem dX11_play_34 : decode cX11_play 34 = .ok (.getfield 145, 3) := dk_180 (a := 0) (b := 145) (dkn dmcX11_play (by decide +kernel)) rfl
theorem dX11_play_37 : decode cX11_play 37 = .ok (.if_icmp .le 5, 3) := dk_164 (a := 0) (b := 5) (dkn dmcX11_play (by decide +kernel)) rfl
theorem dX11_play_40 : decode cX11_play 40 = .ok (.iconst (-1), 1) := dk_2 (dkn dmcX11_play (by decide +kernel))
theorem dX11_play_41 : decode cX11_play 41 = .ok (.ireturn, 1) := dk_172 (dkn dmcX11_play (by decide +kernel))
theorem dX11_play_42 : decode cX11_play 42 = .ok (.aload_n 0, 1) := dk_42 (dkn dmcX11_play (by decide +kernel))
theorem dX11_play_43 : decode cX11_play 43 = .ok (.getfield 28, 3) := dk_180 (a := 0) (b := 28) (dkn dmcX11_play (by decide +kernel)) rfl
theorem dX11_play_46 : decode cX11_play 46 = .ok (.aload_n 0, 1) := dk_42 (dkn dmcX11_play (by decide +kernel))
theorem dX11_play_47 : decode cX11_play 47 = .ok (.getfield 12, 3) := dk_180 (a := 0) (b := 12) (dkn dmcX11_play (by decide +kernel)) rfl
theorem dX11_play_50 : decode cX11_play 50 = .ok (.iload_n 2, 1) := dk_28 (dkn dmcX11_play (by decide +kernel))
theorem dX11_play_51 : decode cX11_play 51 = .ok (.invokevirtual 105, 3) := dk_182 (a := 0) (b := 105) (dkn dmcX11_play (by decide +kernel)) rfl
theorem dX11_play_54 : decode cX11_play 54 = .ok (.aload_n 0, 1) := dk_42 (dkn dmcX11_play (by decide +kernel))
theorem dX11_play_55 : decode cX11_play 55 = .ok (.aload_n 0, 1) := dk_42 (dkn dmcX11_play (by decide +kernel))
theorem dX11_play_56 : decode cX11_play 56 = .ok (.iload_n 1, 1) := dk_27 (dkn dmcX11_play (by decide +kernel))
theorem dX11_play_57 : decode cX11_play 57 = .ok (.invokevirtual 172, 3) := dk_182 (a := 0) (b := 172) (dkn dmcX11_play (by decide +kernel)) rfl
theorem dX11_play_60 : decode cX11_play 60 = .ok (.putfield 62, 3) := dk_181 (a := 0) (b := 62) (dkn dmcX11_play (by decide +kernel)) rfl
theorem dX11_play_63 : decode cX11_play 63 = .ok (.aload_n 0, 1) := dk_42 (dkn dmcX11_play (by decide +kernel))
theorem dX11_play_64 : decode cX11_play 64 = .ok (.getfield 176, 3) := dk_180 (a := 0) (b := 176) (dkn dmcX11_play (by decide +kernel)) rfl
theorem dX11_play_67 : decode cX11_play 67 = .ok (.ireturn, 1) := dk_172 (dkn dmcX11_play (by decide +kernel))
theorem dX11_ended_0 : decode cX11_ended 0 = .ok (.aload_n 0, 1) := dk_42 (by decide +kernel)
theorem dX11_ended_1 : decode cX11_ended 1 = .ok (.getfield 62, 3) := dk_180 (a := 0) (b := 62) (by decide +kernel) rfl
theorem dX11_ended_4 : decode cX11_ended 4 = .ok (.ireturn, 1) := dk_172 (by decide +kernel)
def dncX11_to : Nat := 0xac7e00b42a7e00b51b2aac0205009ab300b61b2aacfe1006009a7400b42a
theorem dmcX11_to : dkc dncX11_to 30 cX11_to.data.toList 0 = true := by decide +kernel
theorem dX11_to_0 : decode cX11_to 0 = .ok (.aload_n 0, 1) := dk_42 (dkn dmcX11_to (by decide +kernel))
theorem dX11_to_1 : decode cX11_to 1 = .ok (.getfield 116, 3) := dk_180 (a := 0) (b := 116) (dkn dmcX11_to (by decide +kernel)) rfl
theorem dX11_to_4 : decode cX11_to 4 = .ok (.ifCond .ne 6, 3) := dk_154 (a := 0) (b := 6) (dkn dmcX11_to (by decide +kernel)) rfl
theorem dX11_to_7 : decode cX11_to 7 = .ok (.bipush (-2), 2) := dk_16 (a := 254) (dkn dmcX11_to (by decide +kernel)) rfl
theorem dX11_to_9 : decode cX11_to 9 = .ok (.ireturn, 1) := dk_172 (dkn dmcX11_to (by decide +kernel))
theorem dX11_to_10 : decode cX11_to 10 = .ok (.aload_n 0, 1) := dk_42 (dkn dmcX11_to (by decide +kernel))
theorem dX11_to_11 : decode cX11_to 11 = .ok (.iload_n 1, 1) := dk_27 (dkn dmcX11_to (by decide +kernel))
theorem dX11_to_12 : decode cX11_to 12 = .ok (.invokevirtual 179, 3) := dk_182 (a := 0) (b := 179) (dkn dmcX11_to (by decide +kernel)) rfl
theorem dX11_to_15 : decode cX11_to 15 = .ok (.ifCond .ne 5, 3) := dk_154 (a := 0) (b := 5) (dkn dmcX11_to (by decide +kernel)) rfl
theorem dX11_to_18 : decode cX11_to 18 = .ok (.iconst (-1), 1) := dk_2 (dkn dmcX11_to (by decide +kernel))
theorem dX11_to_19 : decode cX11_to 19 = .ok (.ireturn, 1) := dk_172 (dkn dmcX11_to (by decide +kernel))
theorem dX11_to_20 : decode cX11_to 20 = .ok (.aload_n 0, 1) := dk_42 (dkn dmcX11_to (by decide +kernel))
theorem dX11_to_21 : decode cX11_to 21 = .ok (.iload_n 1, 1) := dk_27 (dkn dmcX11_to (by decide +kernel))
theorem dX11_to_22 : decode cX11_to 22 = .ok (.putfield 126, 3) := dk_181 (a := 0) (b := 126) (dkn dmcX11_to (by decide +kernel)) rfl
theorem dX11_to_25 : decode cX11_to 25 = .ok (.aload_n 0, 1) := dk_42 (dkn dmcX11_to (by decide +kernel))
theorem dX11_to_26 : decode cX11_to 26 = .ok (.getfield 126, 3) := dk_180 (a := 0) (b := 126) (dkn dmcX11_to (by decide +kernel)) rfl
theorem dX11_to_29 : decode cX11_to 29 = .ok (.ireturn, 1) := dk_172 (dkn dmcX11_to (by decide +kernel))
def dncX11_back : Nat := 0xac7e00b42a7e00b5641b7e00b4592aac020500a47e00b42a1b0b009b1bacfe1006009a7400b42a
theorem dmcX11_back : dkc dncX11_back 39 cX11_back.data.toList 0 = true := by decide +kernel
theorem dX11_back_0 : decode cX11_back 0 = .ok (.aload_n 0, 1) := dk_42 (dkn dmcX11_back (by decide +kernel))
theorem dX11_back_1 : decode cX11_back 1 = .ok (.getfield 116, 3) := dk_180 (a := 0) (b := 116) (dkn dmcX11_back (by decide +kernel)) rfl
theorem dX11_back_4 : decode cX11_back 4 = .ok (.ifCond .ne 6, 3) := dk_154 (a := 0) (b := 6) (dkn dmcX11_back (by decide +kernel)) rfl
theorem dX11_back_7 : decode cX11_back 7 = .ok (.bipush (-2), 2) := dk_16 (a := 254) (dkn dmcX11_back (by decide +kernel)) rfl
theorem dX11_back_9 : decode cX11_back 9 = .ok (.ireturn, 1) := dk_172 (dkn dmcX11_back (by decide +kernel))
theorem dX11_back_10 : decode cX11_back 10 = .ok (.iload_n 1, 1) := dk_27 (dkn dmcX11_back (by decide +kernel))
theorem dX11_back_11 : decode cX11_back 11 = .ok (.ifCond .lt 11, 3) := dk_155 (a := 0) (b := 11) (dkn dmcX11_back (by decide +kernel)) rfl
theorem dX11_back_14 : decode cX11_back 14 = .ok (.iload_n 1, 1) := dk_27 (dkn dmcX11_back (by decide +kernel))
theorem dX11_back_15 : decode cX11_back 15 = .ok (.aload_n 0, 1) := dk_42 (dkn dmcX11_back (by decide +kernel))
theorem dX11_back_16 : decode cX11_back 16 = .ok (.getfield 126, 3) := dk_180 (a := 0) (b := 126) (dkn dmcX11_back (by decide +kernel)) rfl
theorem dX11_back_19 : decode cX11_back 19 = .ok (.if_icmp .le 5, 3) := dk_164 (a := 0) (b := 5) (dkn dmcX11_back (by decide +kernel)) rfl
theorem dX11_back_22 : decode cX11_back 22 = .ok (.iconst (-1), 1) := dk_2 (dkn dmcX11_back (by decide +kernel))
theorem dX11_back_23 : decode cX11_back 23 = .ok (.ireturn, 1) := dk_172 (dkn dmcX11_back (by decide +kernel))
theorem dX11_back_24 : decode cX11_back 24 = .ok (.aload_n 0, 1) := dk_42 (dkn dmcX11_back (by decide +kernel))
theorem dX11_back_25 : decode cX11_back 25 = .ok (.dup, 1) := dk_89 (dkn dmcX11_back (by decide +kernel))
theorem dX11_back_26 : decode cX11_back 26 = .ok (.getfield 126, 3) := dk_180 (a := 0) (b := 126) (dkn dmcX11_back (by decide +kernel)) rfl
theorem dX11_back_29 : decode cX11_back 29 = .ok (.iload_n 1, 1) := dk_27 (dkn dmcX11_back (by decide +kernel))
theorem dX11_back_30 : decode cX11_back 30 = .ok (.isub, 1) := dk_100 (dkn dmcX11_back (by decide +kernel))
theorem dX11_back_31 : decode cX11_back 31 = .ok (.putfield 126, 3) := dk_181 (a := 0) (b := 126) (dkn dmcX11_back (by decide +kernel)) rfl
theorem dX11_back_34 : decode cX11_back 34 = .ok (.aload_n 0, 1) := dk_42 (dkn dmcX11_back (by decide +kernel))
theorem dX11_back_35 : decode cX11_back 35 = .ok (.getfield 126, 3) := dk_180 (a := 0) (b := 126) (dkn dmcX11_back (by decide +kernel)) rfl
theorem dX11_back_38 : decode cX11_back 38 = .ok (.ireturn, 1) := dk_172 (dkn dmcX11_back (by decide +kernel))
def dncX11_thing : Nat := 0xac2e1bdb00b42d0900a72e1bd800b42d0c00a0042e1bd500b42dac2e1bd500b42d0a009a1cac020500a4041c08009b1c0c0099d200b61b2d4ec800b67e00b42a2aacfe1006009a7400b42a
theorem dmcX11_thing : dkc dncX11_thing 75 cX11_thing.data.toList 0 = true := by decide +kernel
theorem dX11_thing_0 : decode cX11_thing 0 = .ok (.aload_n 0, 1) := dk_42 (dkn dmcX11_thing (by decide +kernel))
theorem dX11_thing_1 : decode cX11_thing 1 = .ok (.getfield 116, 3) := dk_180 (a := 0) (b := 116) (dkn dmcX11_thing (by decide +kernel)) rfl
theorem dX11_thing_4 : decode cX11_thing 4 = .ok (.ifCond .ne 6, 3) := dk_154 (a := 0) (b := 6) (dkn dmcX11_thing (by decide +kernel)) rfl
theorem dX11_thing_7 : decode cX11_thing 7 = .ok (.bipush (-2), 2) := dk_16 (a := 254) (dkn dmcX11_thing (by decide +kernel)) rfl
theorem dX11_thing_9 : decode cX11_thing 9 = .ok (.ireturn, 1) := dk_172 (dkn dmcX11_thing (by decide +kernel))
theorem dX11_thing_10 : decode cX11_thing 10 = .ok (.aload_n 0, 1) := dk_42 (dkn dmcX11_thing (by decide +kernel))
theorem dX11_thing_11 : decode cX11_thing 11 = .ok (.aload_n 0, 1) := dk_42 (dkn dmcX11_thing (by decide +kernel))
theorem dX11_thing_12 : decode cX11_thing 12 = .ok (.getfield 126, 3) := dk_180 (a := 0) (b := 126) (dkn dmcX11_thing (by decide +kernel)) rfl
theorem dX11_thing_15 : decode cX11_thing 15 = .ok (.invokevirtual 200, 3) := dk_182 (a := 0) (b := 200) (dkn dmcX11_thing (by decide +kernel)) rfl
theorem dX11_thing_18 : decode cX11_thing 18 = .ok (.astore_n 3, 1) := dk_78 (dkn dmcX11_thing (by decide +kernel))
theorem dX11_thing_19 : decode cX11_thing 19 = .ok (.aload_n 3, 1) := dk_45 (dkn dmcX11_thing (by decide +kernel))
theorem dX11_thing_20 : decode cX11_thing 20 = .ok (.iload_n 1, 1) := dk_27 (dkn dmcX11_thing (by decide +kernel))
theorem dX11_thing_21 : decode cX11_thing 21 = .ok (.invokevirtual 210, 3) := dk_182 (a := 0) (b := 210) (dkn dmcX11_thing (by decide +kernel)) rfl
theorem dX11_thing_24 : decode cX11_thing 24 = .ok (.ifCond .eq 12, 3) := dk_153 (a := 0) (b := 12) (dkn dmcX11_thing (by decide +kernel)) rfl
theorem dX11_thing_27 : decode cX11_thing 27 = .ok (.iload_n 2, 1) := dk_28 (dkn dmcX11_thing (by decide +kernel))
theorem dX11_thing_28 : decode cX11_thing 28 = .ok (.ifCond .lt 8, 3) := dk_155 (a := 0) (b := 8) (dkn dmcX11_thing (by decide +kernel)) rfl
theorem dX11_thing_31 : decode cX11_thing 31 = .ok (.iload_n 2, 1) := dk_28 (dkn dmcX11_thing (by decide +kernel))
theorem dX11_thing_32 : decode cX11_thing 32 = .ok (.iconst 1, 1) := dk_4 (dkn dmcX11_thing (by decide +kernel))
theorem dX11_thing_33 : decode cX11_thing 33 = .ok (.if_icmp .le 5, 3) := dk_164 (a := 0) (b := 5) (dkn dmcX11_thing (by decide +kernel)) rfl
theorem dX11_thing_36 : decode cX11_thing 36 = .ok (.iconst (-1), 1) := dk_2 (dkn dmcX11_thing (by decide +kernel))
theorem dX11_thing_37 : decode cX11_thing 37 = .ok (.ireturn, 1) := dk_172 (dkn dmcX11_thing (by decide +kernel))
theorem dX11_thing_38 : decode cX11_thing 38 = .ok (.iload_n 2, 1) := dk_28 (dkn dmcX11_thing (by decide +kernel))
theorem dX11_thing_39 : decode cX11_thing 39 = .ok (.ifCond .ne 10, 3) := dk_154 (a := 0) (b := 10) (dkn dmcX11_thing (by decide +kernel)) rfl
theorem dX11_thing_42 : decode cX11_thing 42 = .ok (.aload_n 3, 1) := dk_45 (dkn dmcX11_thing (by decide +kernel))
theorem dX11_thing_43 : decode cX11_thing 43 = .ok (.getfield 213, 3) := dk_180 (a := 0) (b := 213) (dkn dmcX11_thing (by decide +kernel)) rfl
theorem dX11_thing_46 : decode cX11_thing 46 = .ok (.iload_n 1, 1) := dk_27 (dkn dmcX11_thing (by decide +kernel))
theorem dX11_thing_47 : decode cX11_thing 47 = .ok (.iaload, 1) := dk_46 (dkn dmcX11_thing (by decide +kernel))
theorem dX11_thing_48 : decode cX11_thing 48 = .ok (.ireturn, 1) := dk_172 (dkn dmcX11_thing (by decide +kernel))
theorem dX11_thing_49 : decode cX11_thing 49 = .ok (.aload_n 3, 1) := dk_45 (dkn dmcX11_thing (by decide +kernel))
theorem dX11_thing_50 : decode cX11_thing 50 = .ok (.getfield 213, 3) := dk_180 (a := 0) (b := 213) (dkn dmcX11_thing (by decide +kernel)) rfl
theorem dX11_thing_53 : decode cX11_thing 53 = .ok (.iload_n 1, 1) := dk_27 (dkn dmcX11_thing (by decide +kernel))
theorem dX11_thing_54 : decode cX11_thing 54 = .ok (.iaload, 1) := dk_46 (dkn dmcX11_thing (by decide +kernel))
theorem dX11_thing_55 : decode cX11_thing 55 = .ok (.iconst 1, 1) := dk_4 (dkn dmcX11_thing (by decide +kernel))
theorem dX11_thing_56 : decode cX11_thing 56 = .ok (.if_icmp .ne 12, 3) := dk_160 (a := 0) (b := 12) (dkn dmcX11_thing (by decide +kernel)) rfl
theorem dX11_thing_59 : decode cX11_thing 59 = .ok (.aload_n 3, 1) := dk_45 (dkn dmcX11_thing (by decide +kernel))
theorem dX11_thing_60 : decode cX11_thing 60 = .ok (.getfield 216, 3) := dk_180 (a := 0) (b := 216) (dkn dmcX11_thing (by decide +kernel)) rfl
theorem dX11_thing_63 : decode cX11_thing 63 = .ok (.iload_n 1, 1) := dk_27 (dkn dmcX11_thing (by decide +kernel))
theorem dX11_thing_64 : decode cX11_thing 64 = .ok (.iaload, 1) := dk_46 (dkn dmcX11_thing (by decide +kernel))
theorem dX11_thing_65 : decode cX11_thing 65 = .ok (.goto 9, 3) := dk_167 (a := 0) (b := 9) (dkn dmcX11_thing (by decide +kernel)) rfl
theorem dX11_thing_68 : decode cX11_thing 68 = .ok (.aload_n 3, 1) := dk_45 (dkn dmcX11_thing (by decide +kernel))
theorem dX11_thing_69 : decode cX11_thing 69 = .ok (.getfield 219, 3) := dk_180 (a := 0) (b := 219) (dkn dmcX11_thing (by decide +kernel)) rfl
theorem dX11_thing_72 : decode cX11_thing 72 = .ok (.iload_n 1, 1) := dk_27 (dkn dmcX11_thing (by decide +kernel))
theorem dX11_thing_73 : decode cX11_thing 73 = .ok (.iaload, 1) := dk_46 (dkn dmcX11_thing (by decide +kernel))
theorem dX11_thing_74 : decode cX11_thing 74 = .ok (.ireturn, 1) := dk_172 (dkn dmcX11_thing (by decide +kernel))
def dncX11_thread : Nat := 0xacea00b61b2d0800a7e700b61b2d0b009a1c4ec800b67e00b42a2aac020500a4041c08009b1c0c00994200b81bacfe1006009a7400b42a
theorem dmcX11_thread : dkc dncX11_thread 55 cX11_thread.data.toList 0 = true := by decide +kernel
theorem dX11_thread_0 : decode cX11_thread 0 = .ok (.aload_n 0, 1) := dk_42 (dkn dmcX11_thread (by decide +kernel))
theorem dX11_thread_1 : decode cX11_thread 1 = .ok (.getfield 116, 3) := dk_180 (a := 0) (b := 116) (dkn dmcX11_thread (by decide +kernel)) rfl
theorem dX11_thread_4 : decode cX11_thread 4 = .ok (.ifCond .ne 6, 3) := dk_154 (a := 0) (b := 6) (dkn dmcX11_thread (by decide +kernel)) rfl
theorem dX11_thread_7 : decode cX11_thread 7 = .ok (.bipush (-2), 2) := dk_16 (a := 254) (dkn dmcX11_thread (by decide +kernel)) rfl
theorem dX11_thread_9 : decode cX11_thread 9 = .ok (.ireturn, 1) := dk_172 (dkn dmcX11_thread (by decide +kernel))
theorem dX11_thread_10 : decode cX11_thread 10 = .ok (.iload_n 1, 1) := dk_27 (dkn dmcX11_thread (by decide +kernel))
theorem dX11_thread_11 : decode cX11_thread 11 = .ok (.invokestatic 66, 3) := dk_184 (a := 0) (b := 66) (dkn dmcX11_thread (by decide +kernel)) rfl
theorem dX11_thread_14 : decode cX11_thread 14 = .ok (.ifCond .eq 12, 3) := dk_153 (a := 0) (b := 12) (dkn dmcX11_thread (by decide +kernel)) rfl
theorem dX11_thread_17 : decode cX11_thread 17 = .ok (.iload_n 2, 1) := dk_28 (dkn dmcX11_thread (by decide +kernel))
theorem dX11_thread_18 : decode cX11_thread 18 = .ok (.ifCond .lt 8, 3) := dk_155 (a := 0) (b := 8) (dkn dmcX11_thread (by decide +kernel)) rfl
theorem dX11_thread_21 : decode cX11_thread 21 = .ok (.iload_n 2, 1) := dk_28 (dkn dmcX11_thread (by decide +kernel))
theorem dX11_thread_22 : decode cX11_thread 22 = .ok (.iconst 1, 1) := dk_4 (dkn dmcX11_thread (by decide +kernel))
theorem dX11_thread_23 : decode cX11_thread 23 = .ok (.if_icmp .le 5, 3) := dk_164 (a := 0) (b := 5) (dkn dmcX11_thread (by decide +kernel)) rfl
theorem dX11_thread_26 : decode cX11_thread 26 = .ok (.iconst (-1), 1) := dk_2 (dkn dmcX11_thread (by decide +kernel))
theorem dX11_thread_27 : decode cX11_thread 27 = .ok (.ireturn, 1) := dk_172 (dkn dmcX11_thread (by decide +kernel))
theorem dX11_thread_28 : decode cX11_thread 28 = .ok (.aload_n 0, 1) := dk_42 (dkn dmcX11_thread (by decide +kernel))
theorem dX11_thread_29 : decode cX11_thread 29 = .ok (.aload_n 0, 1) := dk_42 (dkn dmcX11_thread (by decide +kernel))
theorem dX11_thread_30 : decode cX11_thread 30 = .ok (.getfield 126, 3) := dk_180 (a := 0) (b := 126) (dkn dmcX11_thread (by decide +kernel)) rfl
theorem dX11_thread_33 : decode cX11_thread 33 = .ok (.invokevirtual 200, 3) := dk_182 (a := 0) (b := 200) (dkn dmcX11_thread (by decide +kernel)) rfl
theorem dX11_thread_36 : decode cX11_thread 36 = .ok (.astore_n 3, 1) := dk_78 (dkn dmcX11_thread (by decide +kernel))
theorem dX11_thread_37 : decode cX11_thread 37 = .ok (.iload_n 2, 1) := dk_28 (dkn dmcX11_thread (by decide +kernel))
theorem dX11_thread_38 : decode cX11_thread 38 = .ok (.ifCond .ne 11, 3) := dk_154 (a := 0) (b := 11) (dkn dmcX11_thread (by decide +kernel)) rfl
theorem dX11_thread_41 : decode cX11_thread 41 = .ok (.aload_n 3, 1) := dk_45 (dkn dmcX11_thread (by decide +kernel))
theorem dX11_thread_42 : decode cX11_thread 42 = .ok (.iload_n 1, 1) := dk_27 (dkn dmcX11_thread (by decide +kernel))
theorem dX11_thread_43 : decode cX11_thread 43 = .ok (.invokevirtual 231, 3) := dk_182 (a := 0) (b := 231) (dkn dmcX11_thread (by decide +kernel)) rfl
theorem dX11_thread_46 : decode cX11_thread 46 = .ok (.goto 8, 3) := dk_167 (a := 0) (b := 8) (dkn dmcX11_thread (by decide +kernel)) rfl
theorem dX11_thread_49 : decode cX11_thread 49 = .ok (.aload_n 3, 1) := dk_45 (dkn dmcX11_thread (by decide +kernel))
theorem dX11_thread_50 : decode cX11_thread 50 = .ok (.iload_n 1, 1) := dk_27 (dkn dmcX11_thread (by decide +kernel))
theorem dX11_thread_51 : decode cX11_thread 51 = .ok (.invokevirtual 234, 3) := dk_182 (a := 0) (b := 234) (dkn dmcX11_thread (by decide +kernel)) rfl
theorem dX11_thread_54 : decode cX11_thread 54 = .ok (.ireturn, 1) := dk_172 (dkn dmcX11_thread (by decide +kernel))
def dncX11_last : Nat := 0xaced00b61c1b2200b42aac0205009ab300b61c2aacfe1006009a7400b42a
theorem dmcX11_last : dkc dncX11_last 30 cX11_last.data.toList 0 = true := by decide +kernel
theorem dX11_last_0 : decode cX11_last 0 = .ok (.aload_n 0, 1) := dk_42 (dkn dmcX11_last (by decide +kernel))
theorem dX11_last_1 : decode cX11_last 1 = .ok (.getfield 116, 3) := dk_180 (a := 0) (b := 116) (dkn dmcX11_last (by decide +kernel)) rfl
theorem dX11_last_4 : decode cX11_last 4 = .ok (.ifCond .ne 6, 3) := dk_154 (a := 0) (b := 6) (dkn dmcX11_last (by decide +kernel)) rfl
theorem dX11_last_7 : decode cX11_last 7 = .ok (.bipush (-2), 2) := dk_16 (a := 254) (dkn dmcX11_last (by decide +kernel)) rfl
theorem dX11_last_9 : decode cX11_last 9 = .ok (.ireturn, 1) := dk_172 (dkn dmcX11_last (by decide +kernel))
theorem dX11_last_10 : decode cX11_last 10 = .ok (.aload_n 0, 1) := dk_42 (dkn dmcX11_last (by decide +kernel))
theorem dX11_last_11 : decode cX11_last 11 = .ok (.iload_n 2, 1) := dk_28 (dkn dmcX11_last (by decide +kernel))
theorem dX11_last_12 : decode cX11_last 12 = .ok (.invokevirtual 179, 3) := dk_182 (a := 0) (b := 179) (dkn dmcX11_last (by decide +kernel)) rfl
theorem dX11_last_15 : decode cX11_last 15 = .ok (.ifCond .ne 5, 3) := dk_154 (a := 0) (b := 5) (dkn dmcX11_last (by decide +kernel)) rfl
theorem dX11_last_18 : decode cX11_last 18 = .ok (.iconst (-1), 1) := dk_2 (dkn dmcX11_last (by decide +kernel))
theorem dX11_last_19 : decode cX11_last 19 = .ok (.ireturn, 1) := dk_172 (dkn dmcX11_last (by decide +kernel))
theorem dX11_last_20 : decode cX11_last 20 = .ok (.aload_n 0, 1) := dk_42 (dkn dmcX11_last (by decide +kernel))
theorem dX11_last_21 : decode cX11_last 21 = .ok (.getfield 34, 3) := dk_180 (a := 0) (b := 34) (dkn dmcX11_last (by decide +kernel)) rfl
theorem dX11_last_24 : decode cX11_last 24 = .ok (.iload_n 1, 1) := dk_27 (dkn dmcX11_last (by decide +kernel))
theorem dX11_last_25 : decode cX11_last 25 = .ok (.iload_n 2, 1) := dk_28 (dkn dmcX11_last (by decide +kernel))
theorem dX11_last_26 : decode cX11_last 26 = .ok (.invokevirtual 237, 3) := dk_182 (a := 0) (b := 237) (dkn dmcX11_last (by decide +kernel)) rfl
theorem dX11_last_29 : decode cX11_last 29 = .ok (.ireturn, 1) := dk_172 (dkn dmcX11_last (by decide +kernel))
def dncX11_next : Nat := 0xacf000b61c1b2200b42aac0205009ab300b61c2aacfe1006009a7400b42a
theorem dmcX11_next : dkc dncX11_next 30 cX11_next.data.toList 0 = true := by decide +kernel
theorem dX11_next_0 : decode cX11_next 0 = .ok (.aload_n 0, 1) := dk_42 (dkn dmcX11_next (by decide +kernel))
theorem dX11_next_1 : decode cX11_next 1 = .ok (.getfield 116, 3) := dk_180 (a := 0) (b := 116) (dkn dmcX11_next (by decide +kernel)) rfl
theorem dX11_next_4 : decode cX11_next 4 = .ok (.ifCond .ne 6, 3) := dk_154 (a := 0) (b := 6) (dkn dmcX11_next (by decide +kernel)) rfl
theorem dX11_next_7 : decode cX11_next 7 = .ok (.bipush (-2), 2) := dk_16 (a := 254) (dkn dmcX11_next (by decide +kernel)) rfl
theorem dX11_next_9 : decode cX11_next 9 = .ok (.ireturn, 1) := dk_172 (dkn dmcX11_next (by decide +kernel))
theorem dX11_next_10 : decode cX11_next 10 = .ok (.aload_n 0, 1) := dk_42 (dkn dmcX11_next (by decide +kernel))
theorem dX11_next_11 : decode cX11_next 11 = .ok (.iload_n 2, 1) := dk_28 (dkn dmcX11_next (by decide +kernel))
theorem dX11_next_12 : decode cX11_next 12 = .ok (.invokevirtual 179, 3) := dk_182 (a := 0) (b := 179) (dkn dmcX11_next (by decide +kernel)) rfl
theorem dX11_next_15 : decode cX11_next 15 = .ok (.ifCond .ne 5, 3) := dk_154 (a := 0) (b := 5) (dkn dmcX11_next (by decide +kernel)) rfl
theorem dX11_next_18 : decode cX11_next 18 = .ok (.iconst (-1), 1) := dk_2 (dkn dmcX11_next (by decide +kernel))
theorem dX11_next_19 : decode cX11_next 19 = .ok (.ireturn, 1) := dk_172 (dkn dmcX11_next (by decide +kernel))
theorem dX11_next_20 : decode cX11_next 20 = .ok (.aload_n 0, 1) := dk_42 (dkn dmcX11_next (by decide +kernel))
theorem dX11_next_21 : decode cX11_next 21 = .ok (.getfield 34, 3) := dk_180 (a := 0) (b := 34) (dkn dmcX11_next (by decide +kernel)) rfl
theorem dX11_next_24 : decode cX11_next 24 = .ok (.iload_n 1, 1) := dk_27 (dkn dmcX11_next (by decide +kernel))
theorem dX11_next_25 : decode cX11_next 25 = .ok (.iload_n 2, 1) := dk_28 (dkn dmcX11_next (by decide +kernel))
theorem dX11_next_26 : decode cX11_next 26 = .ok (.invokevirtual 240, 3) := dk_182 (a := 0) (b := 240) (dkn dmcX11_next (by decide +kernel)) rfl
theorem dX11_next_29 : decode cX11_next 29 = .ok (.ireturn, 1) := dk_172 (dkn dmcX11_next (by decide +kernel))
def dncX11_when : Nat := 0xacf700b6030400a7040700a00404151d2e1b5400b41000b42a1c1b2200b42aacf300b62e1b5400b41000b42a1c1b2200b42a16009a0415ac020500a405041509009b04150e00995100b81bacfe1006009a7400b42a
theorem dmcX11_when : dkc dncX11_when 85 cX11_when.data.toList 0 = true := by decide +kernel
theorem dX11_when_0 : decode cX11_when 0 = .ok (.aload_n 0, 1) := dk_42 (dkn dmcX11_when (by decide +kernel))
theorem dX11_when_1 : decode cX11_when 1 = .ok (.getfield 116, 3) := dk_180 (a := 0) (b := 116) (dkn dmcX11_when (by decide +kernel)) rfl
theorem dX11_when_4 : decode cX11_when 4 = .ok (.ifCond .ne 6, 3) := dk_154 (a := 0) (b := 6) (dkn dmcX11_when (by decide +kernel)) rfl
theorem dX11_when_7 : decode cX11_when 7 = .ok (.bipush (-2), 2) := dk_16 (a := 254) (dkn dmcX11_when (by decide +kernel)) rfl
theorem dX11_when_9 : decode cX11_when 9 = .ok (.ireturn, 1) := dk_172 (dkn dmcX11_when (by decide +kernel))
theorem dX11_when_10 : decode cX11_when 10 = .ok (.iload_n 1, 1) := dk_27 (dkn dmcX11_when (by decide +kernel))
end MG_15_cdec1
section MG_15_cdec2
theorem dX11_when_11 : decode cX11_when 11 = .ok (.invokestatic 81, 3) := dk_184 (a := 0) (b := 81) (dkn dmcX11_when (by decide +kernel)) rfl
theorem dX11_when_14 : decode cX11_when 14 = .ok (.ifCond .eq 14, 3) := dk_153 (a := 0) (b := 14) (dkn dmcX11_when (by decide +kernel)) rfl
theorem dX11_when_17 : decode cX11_when 17 = .ok (.iload 4, 2) := dk_21 (dkn dmcX11_when (by decide +kernel))
theorem dX11_when_19 : decode cX11_when 19 = .ok (.ifCond .lt 9, 3) := dk_155 (a := 0) (b := 9) (dkn dmcX11_when (by decide +kernel)) rfl
theorem dX11_when_22 : decode cX11_when 22 = .ok (.iload 4, 2) := dk_21 (dkn dmcX11_when (by decide +kernel))
theorem dX11_when_24 : decode cX11_when 24 = .ok (.iconst 2, 1) := dk_5 (dkn dmcX11_when (by decide +kernel))
theorem dX11_when_25 : decode cX11_when 25 = .ok (.if_icmp .le 5, 3) := dk_164 (a := 0) (b := 5) (dkn dmcX11_when (by decide +kernel)) rfl
theorem dX11_when_28 : decode cX11_when 28 = .ok (.iconst (-1), 1) := dk_2 (dkn dmcX11_when (by decide +kernel))
theorem dX11_when_29 : decode cX11_when 29 = .ok (.ireturn, 1) := dk_172 (dkn dmcX11_when (by decide +kernel))
theorem dX11_when_30 : decode cX11_when 30 = .ok (.iload 4, 2) := dk_21 (dkn dmcX11_when (by decide +kernel))
theorem dX11_when_32 : decode cX11_when 32 = .ok (.ifCond .ne 22, 3) := dk_154 (a := 0) (b := 22) (dkn dmcX11_when (by decide +kernel)) rfl
theorem dX11_when_35 : decode cX11_when 35 = .ok (.aload_n 0, 1) := dk_42 (dkn dmcX11_when (by decide +kernel))
theorem dX11_when_36 : decode cX11_when 36 = .ok (.getfield 34, 3) := dk_180 (a := 0) (b := 34) (dkn dmcX11_when (by decide +kernel)) rfl
theorem dX11_when_39 : decode cX11_when 39 = .ok (.iload_n 1, 1) := dk_27 (dkn dmcX11_when (by decide +kernel))
theorem dX11_when_40 : decode cX11_when 40 = .ok (.iload_n 2, 1) := dk_28 (dkn dmcX11_when (by decide +kernel))
theorem dX11_when_41 : decode cX11_when 41 = .ok (.aload_n 0, 1) := dk_42 (dkn dmcX11_when (by decide +kernel))
theorem dX11_when_42 : decode cX11_when 42 = .ok (.getfield 16, 3) := dk_180 (a := 0) (b := 16) (dkn dmcX11_when (by decide +kernel)) rfl
theorem dX11_when_45 : decode cX11_when 45 = .ok (.getfield 84, 3) := dk_180 (a := 0) (b := 84) (dkn dmcX11_when (by decide +kernel)) rfl
theorem dX11_when_48 : decode cX11_when 48 = .ok (.iload_n 1, 1) := dk_27 (dkn dmcX11_when (by decide +kernel))
theorem dX11_when_49 : decode cX11_when 49 = .ok (.iaload, 1) := dk_46 (dkn dmcX11_when (by decide +kernel))
theorem dX11_when_50 : decode cX11_when 50 = .ok (.invokevirtual 243, 3) := dk_182 (a := 0) (b := 243) (dkn dmcX11_when (by decide +kernel)) rfl
theorem dX11_when_53 : decode cX11_when 53 = .ok (.ireturn, 1) := dk_172 (dkn dmcX11_when (by decide +kernel))
theorem dX11_when_54 : decode cX11_when 54 = .ok (.aload_n 0, 1) := dk_42 (dkn dmcX11_when (by decide +kernel))
theorem dX11_when_55 : decode cX11_when 55 = .ok (.getfield 34, 3) := dk_180 (a := 0) (b := 34) (dkn dmcX11_when (by decide +kernel)) rfl
theorem dX11_when_58 : decode cX11_when 58 = .ok (.iload_n 1, 1) := dk_27 (dkn dmcX11_when (by decide +kernel))
theorem dX11_when_59 : decode cX11_when 59 = .ok (.iload_n 2, 1) := dk_28 (dkn dmcX11_when (by decide +kernel))
theorem dX11_when_60 : decode cX11_when 60 = .ok (.aload_n 0, 1) := dk_42 (dkn dmcX11_when (by decide +kernel))
theorem dX11_when_61 : decode cX11_when 61 = .ok (.getfield 16, 3) := dk_180 (a := 0) (b := 16) (dkn dmcX11_when (by decide +kernel)) rfl
theorem dX11_when_64 : decode cX11_when 64 = .ok (.getfield 84, 3) := dk_180 (a := 0) (b := 84) (dkn dmcX11_when (by decide +kernel)) rfl
theorem dX11_when_67 : decode cX11_when 67 = .ok (.iload_n 1, 1) := dk_27 (dkn dmcX11_when (by decide +kernel))
theorem dX11_when_68 : decode cX11_when 68 = .ok (.iaload, 1) := dk_46 (dkn dmcX11_when (by decide +kernel))
theorem dX11_when_69 : decode cX11_when 69 = .ok (.iload_n 3, 1) := dk_29 (dkn dmcX11_when (by decide +kernel))
theorem dX11_when_70 : decode cX11_when 70 = .ok (.iload 4, 2) := dk_21 (dkn dmcX11_when (by decide +kernel))
theorem dX11_when_72 : decode cX11_when 72 = .ok (.iconst 1, 1) := dk_4 (dkn dmcX11_when (by decide +kernel))
theorem dX11_when_73 : decode cX11_when 73 = .ok (.if_icmp .ne 7, 3) := dk_160 (a := 0) (b := 7) (dkn dmcX11_when (by decide +kernel)) rfl
theorem dX11_when_76 : decode cX11_when 76 = .ok (.iconst 1, 1) := dk_4 (dkn dmcX11_when (by decide +kernel))
theorem dX11_when_77 : decode cX11_when 77 = .ok (.goto 4, 3) := dk_167 (a := 0) (b := 4) (dkn dmcX11_when (by decide +kernel)) rfl
theorem dX11_when_80 : decode cX11_when 80 = .ok (.iconst 0, 1) := dk_3 (dkn dmcX11_when (by decide +kernel))
theorem dX11_when_81 : decode cX11_when 81 = .ok (.invokevirtual 247, 3) := dk_182 (a := 0) (b := 247) (dkn dmcX11_when (by decide +kernel)) rfl
theorem dX11_when_84 : decode cX11_when 84 = .ok (.ireturn, 1) := dk_172 (dkn dmcX11_when (by decide +kernel))
def dncX11_ahead : Nat := 0xac030400a704070099fe00b61c1b2b00b42afb00b62b00b42aac020500a47800b42200b42a1c0e00a21c1b1300a1041bacfe1006009a7400b42a
theorem dmcX11_ahead : dkc dncX11_ahead 58 cX11_ahead.data.toList 0 = true := by decide +kernel
theorem dX11_ahead_0 : decode cX11_ahead 0 = .ok (.aload_n 0, 1) := dk_42 (dkn dmcX11_ahead (by decide +kernel))
theorem dX11_ahead_1 : decode cX11_ahead 1 = .ok (.getfield 116, 3) := dk_180 (a := 0) (b := 116) (dkn dmcX11_ahead (by decide +kernel)) rfl
theorem dX11_ahead_4 : decode cX11_ahead 4 = .ok (.ifCond .ne 6, 3) := dk_154 (a := 0) (b := 6) (dkn dmcX11_ahead (by decide +kernel)) rfl
theorem dX11_ahead_7 : decode cX11_ahead 7 = .ok (.bipush (-2), 2) := dk_16 (a := 254) (dkn dmcX11_ahead (by decide +kernel)) rfl
theorem dX11_ahead_9 : decode cX11_ahead 9 = .ok (.ireturn, 1) := dk_172 (dkn dmcX11_ahead (by decide +kernel))
theorem dX11_ahead_10 : decode cX11_ahead 10 = .ok (.iload_n 1, 1) := dk_27 (dkn dmcX11_ahead (by decide +kernel))
theorem dX11_ahead_11 : decode cX11_ahead 11 = .ok (.iconst 1, 1) := dk_4 (dkn dmcX11_ahead (by decide +kernel))
theorem dX11_ahead_12 : decode cX11_ahead 12 = .ok (.if_icmp .lt 19, 3) := dk_161 (a := 0) (b := 19) (dkn dmcX11_ahead (by decide +kernel)) rfl
theorem dX11_ahead_15 : decode cX11_ahead 15 = .ok (.iload_n 1, 1) := dk_27 (dkn dmcX11_ahead (by decide +kernel))
theorem dX11_ahead_16 : decode cX11_ahead 16 = .ok (.iload_n 2, 1) := dk_28 (dkn dmcX11_ahead (by decide +kernel))
theorem dX11_ahead_17 : decode cX11_ahead 17 = .ok (.if_icmp .ge 14, 3) := dk_162 (a := 0) (b := 14) (dkn dmcX11_ahead (by decide +kernel)) rfl
theorem dX11_ahead_20 : decode cX11_ahead 20 = .ok (.iload_n 2, 1) := dk_28 (dkn dmcX11_ahead (by decide +kernel))
theorem dX11_ahead_21 : decode cX11_ahead 21 = .ok (.aload_n 0, 1) := dk_42 (dkn dmcX11_ahead (by decide +kernel))
theorem dX11_ahead_22 : decode cX11_ahead 22 = .ok (.getfield 34, 3) := dk_180 (a := 0) (b := 34) (dkn dmcX11_ahead (by decide +kernel)) rfl
theorem dX11_ahead_25 : decode cX11_ahead 25 = .ok (.getfield 120, 3) := dk_180 (a := 0) (b := 120) (dkn dmcX11_ahead (by decide +kernel)) rfl
theorem dX11_ahead_28 : decode cX11_ahead 28 = .ok (.if_icmp .le 5, 3) := dk_164 (a := 0) (b := 5) (dkn dmcX11_ahead (by decide +kernel)) rfl
theorem dX11_ahead_31 : decode cX11_ahead 31 = .ok (.iconst (-1), 1) := dk_2 (dkn dmcX11_ahead (by decide +kernel))
theorem dX11_ahead_32 : decode cX11_ahead 32 = .ok (.ireturn, 1) := dk_172 (dkn dmcX11_ahead (by decide +kernel))
theorem dX11_ahead_33 : decode cX11_ahead 33 = .ok (.aload_n 0, 1) := dk_42 (dkn dmcX11_ahead (by decide +kernel))
theorem dX11_ahead_34 : decode cX11_ahead 34 = .ok (.getfield 43, 3) := dk_180 (a := 0) (b := 43) (dkn dmcX11_ahead (by decide +kernel)) rfl
theorem dX11_ahead_37 : decode cX11_ahead 37 = .ok (.invokevirtual 251, 3) := dk_182 (a := 0) (b := 251) (dkn dmcX11_ahead (by decide +kernel)) rfl
theorem dX11_ahead_40 : decode cX11_ahead 40 = .ok (.aload_n 0, 1) := dk_42 (dkn dmcX11_ahead (by decide +kernel))
theorem dX11_ahead_41 : decode cX11_ahead 41 = .ok (.getfield 43, 3) := dk_180 (a := 0) (b := 43) (dkn dmcX11_ahead (by decide +kernel)) rfl
theorem dX11_ahead_44 : decode cX11_ahead 44 = .ok (.iload_n 1, 1) := dk_27 (dkn dmcX11_ahead (by decide +kernel))
theorem dX11_ahead_45 : decode cX11_ahead 45 = .ok (.iload_n 2, 1) := dk_28 (dkn dmcX11_ahead (by decide +kernel))
theorem dX11_ahead_46 : decode cX11_ahead 46 = .ok (.invokevirtual 254, 3) := dk_182 (a := 0) (b := 254) (dkn dmcX11_ahead (by decide +kernel)) rfl
theorem dX11_ahead_49 : decode cX11_ahead 49 = .ok (.ifCond .eq 7, 3) := dk_153 (a := 0) (b := 7) (dkn dmcX11_ahead (by decide +kernel)) rfl
theorem dX11_ahead_52 : decode cX11_ahead 52 = .ok (.iconst 1, 1) := dk_4 (dkn dmcX11_ahead (by decide +kernel))
theorem dX11_ahead_53 : decode cX11_ahead 53 = .ok (.goto 4, 3) := dk_167 (a := 0) (b := 4) (dkn dmcX11_ahead (by decide +kernel)) rfl
theorem dX11_ahead_56 : decode cX11_ahead 56 = .ok (.iconst 0, 1) := dk_3 (dkn dmcX11_ahead (by decide +kernel))
theorem dX11_ahead_57 : decode cX11_ahead 57 = .ok (.ireturn, 1) := dk_172 (dkn dmcX11_ahead (by decide +kernel))
def dncX11_race : Nat := 0xac0a01b61d1b2b00b42a0c00a70701b61d2200b42a0e00a0061cac1d0500a0051c3e0401b61b2b00b42aac020500a10101b42b00b42a1b0e009b1bac0101b42b00b42a0b009a1cfb00b62b00b42aac020500a4061c08009b1cacfe1006009a7400b42a
theorem dmcX11_race : dkc dncX11_race 99 cX11_race.data.toList 0 = true := by decide +kernel
theorem dX11_race_0 : decode cX11_race 0 = .ok (.aload_n 0, 1) := dk_42 (dkn dmcX11_race (by decide +kernel))
theorem dX11_race_1 : decode cX11_race 1 = .ok (.getfield 116, 3) := dk_180 (a := 0) (b := 116) (dkn dmcX11_race (by decide +kernel)) rfl
theorem dX11_race_4 : decode cX11_race 4 = .ok (.ifCond .ne 6, 3) := dk_154 (a := 0) (b := 6) (dkn dmcX11_race (by decide +kernel)) rfl
theorem dX11_race_7 : decode cX11_race 7 = .ok (.bipush (-2), 2) := dk_16 (a := 254) (dkn dmcX11_race (by decide +kernel)) rfl
theorem dX11_race_9 : decode cX11_race 9 = .ok (.ireturn, 1) := dk_172 (dkn dmcX11_race (by decide +kernel))
theorem dX11_race_10 : decode cX11_race 10 = .ok (.iload_n 2, 1) := dk_28 (dkn dmcX11_race (by decide +kernel))
theorem dX11_race_11 : decode cX11_race 11 = .ok (.ifCond .lt 8, 3) := dk_155 (a := 0) (b := 8) (dkn dmcX11_race (by decide +kernel)) rfl
theorem dX11_race_14 : decode cX11_race 14 = .ok (.iload_n 2, 1) := dk_28 (dkn dmcX11_race (by decide +kernel))
theorem dX11_race_15 : decode cX11_race 15 = .ok (.iconst 3, 1) := dk_6 (dkn dmcX11_race (by decide +kernel))
theorem dX11_race_16 : decode cX11_race 16 = .ok (.if_icmp .le 5, 3) := dk_164 (a := 0) (b := 5) (dkn dmcX11_race (by decide +kernel)) rfl
theorem dX11_race_19 : decode cX11_race 19 = .ok (.iconst (-1), 1) := dk_2 (dkn dmcX11_race (by decide +kernel))
theorem dX11_race_20 : decode cX11_race 20 = .ok (.ireturn, 1) := dk_172 (dkn dmcX11_race (by decide +kernel))
theorem dX11_race_21 : decode cX11_race 21 = .ok (.aload_n 0, 1) := dk_42 (dkn dmcX11_race (by decide +kernel))
theorem dX11_race_22 : decode cX11_race 22 = .ok (.getfield 43, 3) := dk_180 (a := 0) (b := 43) (dkn dmcX11_race (by decide +kernel)) rfl
theorem dX11_race_25 : decode cX11_race 25 = .ok (.invokevirtual 251, 3) := dk_182 (a := 0) (b := 251) (dkn dmcX11_race (by decide +kernel)) rfl
theorem dX11_race_28 : decode cX11_race 28 = .ok (.iload_n 2, 1) := dk_28 (dkn dmcX11_race (by decide +kernel))
theorem dX11_race_29 : decode cX11_race 29 = .ok (.ifCond .ne 11, 3) := dk_154 (a := 0) (b := 11) (dkn dmcX11_race (by decide +kernel)) rfl
theorem dX11_race_32 : decode cX11_race 32 = .ok (.aload_n 0, 1) := dk_42 (dkn dmcX11_race (by decide +kernel))
theorem dX11_race_33 : decode cX11_race 33 = .ok (.getfield 43, 3) := dk_180 (a := 0) (b := 43) (dkn dmcX11_race (by decide +kernel)) rfl
theorem dX11_race_36 : decode cX11_race 36 = .ok (.getfield 257, 3) := dk_180 (a := 1) (b := 1) (dkn dmcX11_race (by decide +kernel)) rfl
theorem dX11_race_39 : decode cX11_race 39 = .ok (.ireturn, 1) := dk_172 (dkn dmcX11_race (by decide +kernel))
theorem dX11_race_40 : decode cX11_race 40 = .ok (.iload_n 1, 1) := dk_27 (dkn dmcX11_race (by decide +kernel))
theorem dX11_race_41 : decode cX11_race 41 = .ok (.ifCond .lt 14, 3) := dk_155 (a := 0) (b := 14) (dkn dmcX11_race (by decide +kernel)) rfl
theorem dX11_race_44 : decode cX11_race 44 = .ok (.iload_n 1, 1) := dk_27 (dkn dmcX11_race (by decide +kernel))
theorem dX11_race_45 : decode cX11_race 45 = .ok (.aload_n 0, 1) := dk_42 (dkn dmcX11_race (by decide +kernel))
theorem dX11_race_46 : decode cX11_race 46 = .ok (.getfield 43, 3) := dk_180 (a := 0) (b := 43) (dkn dmcX11_race (by decide +kernel)) rfl
theorem dX11_race_49 : decode cX11_race 49 = .ok (.getfield 257, 3) := dk_180 (a := 1) (b := 1) (dkn dmcX11_race (by decide +kernel)) rfl
theorem dX11_race_52 : decode cX11_race 52 = .ok (.if_icmp .lt 5, 3) := dk_161 (a := 0) (b := 5) (dkn dmcX11_race (by decide +kernel)) rfl
theorem dX11_race_55 : decode cX11_race 55 = .ok (.iconst (-1), 1) := dk_2 (dkn dmcX11_race (by decide +kernel))
theorem dX11_race_56 : decode cX11_race 56 = .ok (.ireturn, 1) := dk_172 (dkn dmcX11_race (by decide +kernel))
theorem dX11_race_57 : decode cX11_race 57 = .ok (.aload_n 0, 1) := dk_42 (dkn dmcX11_race (by decide +kernel))
theorem dX11_race_58 : decode cX11_race 58 = .ok (.getfield 43, 3) := dk_180 (a := 0) (b := 43) (dkn dmcX11_race (by decide +kernel)) rfl
theorem dX11_race_61 : decode cX11_race 61 = .ok (.iload_n 1, 1) := dk_27 (dkn dmcX11_race (by decide +kernel))
theorem dX11_race_62 : decode cX11_race 62 = .ok (.invokevirtual 260, 3) := dk_182 (a := 1) (b := 4) (dkn dmcX11_race (by decide +kernel)) rfl
theorem dX11_race_65 : decode cX11_race 65 = .ok (.istore_n 3, 1) := dk_62 (dkn dmcX11_race (by decide +kernel))
theorem dX11_race_66 : decode cX11_race 66 = .ok (.iload_n 2, 1) := dk_28 (dkn dmcX11_race (by decide +kernel))
theorem dX11_race_67 : decode cX11_race 67 = .ok (.iconst 2, 1) := dk_5 (dkn dmcX11_race (by decide +kernel))
theorem dX11_race_68 : decode cX11_race 68 = .ok (.if_icmp .ne 5, 3) := dk_160 (a := 0) (b := 5) (dkn dmcX11_race (by decide +kernel)) rfl
theorem dX11_race_71 : decode cX11_race 71 = .ok (.iload_n 3, 1) := dk_29 (dkn dmcX11_race (by decide +kernel))
theorem dX11_race_72 : decode cX11_race 72 = .ok (.ireturn, 1) := dk_172 (dkn dmcX11_race (by decide +kernel))
theorem dX11_race_73 : decode cX11_race 73 = .ok (.iload_n 2, 1) := dk_28 (dkn dmcX11_race (by decide +kernel))
theorem dX11_race_74 : decode cX11_race 74 = .ok (.iconst 3, 1) := dk_6 (dkn dmcX11_race (by decide +kernel))
theorem dX11_race_75 : decode cX11_race 75 = .ok (.if_icmp .ne 14, 3) := dk_160 (a := 0) (b := 14) (dkn dmcX11_race (by decide +kernel)) rfl
theorem dX11_race_78 : decode cX11_race 78 = .ok (.aload_n 0, 1) := dk_42 (dkn dmcX11_race (by decide +kernel))
theorem dX11_race_79 : decode cX11_race 79 = .ok (.getfield 34, 3) := dk_180 (a := 0) (b := 34) (dkn dmcX11_race (by decide +kernel)) rfl
theorem dX11_race_82 : decode cX11_race 82 = .ok (.iload_n 3, 1) := dk_29 (dkn dmcX11_race (by decide +kernel))
theorem dX11_race_83 : decode cX11_race 83 = .ok (.invokevirtual 263, 3) := dk_182 (a := 1) (b := 7) (dkn dmcX11_race (by decide +kernel)) rfl
theorem dX11_race_86 : decode cX11_race 86 = .ok (.goto 12, 3) := dk_167 (a := 0) (b := 12) (dkn dmcX11_race (by decide +kernel)) rfl
theorem dX11_race_89 : decode cX11_race 89 = .ok (.aload_n 0, 1) := dk_42 (dkn dmcX11_race (by decide +kernel))
theorem dX11_race_90 : decode cX11_race 90 = .ok (.getfield 43, 3) := dk_180 (a := 0) (b := 43) (dkn dmcX11_race (by decide +kernel)) rfl
theorem dX11_race_93 : decode cX11_race 93 = .ok (.iload_n 1, 1) := dk_27 (dkn dmcX11_race (by decide +kernel))
theorem dX11_race_94 : decode cX11_race 94 = .ok (.iload_n 3, 1) := dk_29 (dkn dmcX11_race (by decide +kernel))
theorem dX11_race_95 : decode cX11_race 95 = .ok (.invokevirtual 266, 3) := dk_182 (a := 1) (b := 10) (dkn dmcX11_race (by decide +kernel)) rfl
theorem dX11_race_98 : decode cX11_race 98 = .ok (.ireturn, 1) := dk_172 (dkn dmcX11_race (by decide +kernel))
def dncX11_differ : Nat := 0xac1101b61c00b42ac800b61c2a0d01b61b031c00b42a2a6900b65700b41000b42a1000b42a1c00b42aac0205009ab300b61c2a0b0099b300b61b2aacfe1006009a7400b42a
theorem dmcX11_differ : dkc dncX11_differ 69 cX11_differ.data.toList 0 = true := by decide +kernel
theorem dX11_differ_0 : decode cX11_differ 0 = .ok (.aload_n 0, 1) := dk_42 (dkn dmcX11_differ (by decide +kernel))
theorem dX11_differ_1 : decode cX11_differ 1 = .ok (.getfield 116, 3) := dk_180 (a := 0) (b := 116) (dkn dmcX11_differ (by decide +kernel)) rfl
theorem dX11_differ_4 : decode cX11_differ 4 = .ok (.ifCond .ne 6, 3) := dk_154 (a := 0) (b := 6) (dkn dmcX11_differ (by decide +kernel)) rfl
theorem dX11_differ_7 : decode cX11_differ 7 = .ok (.bipush (-2), 2) := dk_16 (a := 254) (dkn dmcX11_differ (by decide +kernel)) rfl
theorem dX11_differ_9 : decode cX11_differ 9 = .ok (.ireturn, 1) := dk_172 (dkn dmcX11_differ (by decide +kernel))
theorem dX11_differ_10 : decode cX11_differ 10 = .ok (.aload_n 0, 1) := dk_42 (dkn dmcX11_differ (by decide +kernel))
theorem dX11_differ_11 : decode cX11_differ 11 = .ok (.iload_n 1, 1) := dk_27 (dkn dmcX11_differ (by decide +kernel))
theorem dX11_differ_12 : decode cX11_differ 12 = .ok (.invokevirtual 179, 3) := dk_182 (a := 0) (b := 179) (dkn dmcX11_differ (by decide +kernel)) rfl
theorem dX11_differ_15 : decode cX11_differ 15 = .ok (.ifCond .eq 11, 3) := dk_153 (a := 0) (b := 11) (dkn dmcX11_differ (by decide +kernel)) rfl
theorem dX11_differ_18 : decode cX11_differ 18 = .ok (.aload_n 0, 1) := dk_42 (dkn dmcX11_differ (by decide +kernel))
theorem dX11_differ_19 : decode cX11_differ 19 = .ok (.iload_n 2, 1) := dk_28 (dkn dmcX11_differ (by decide +kernel))
theorem dX11_differ_20 : decode cX11_differ 20 = .ok (.invokevirtual 179, 3) := dk_182 (a := 0) (b := 179) (dkn dmcX11_differ (by decide +kernel)) rfl
theorem dX11_differ_23 : decode cX11_differ 23 = .ok (.ifCond .ne 5, 3) := dk_154 (a := 0) (b := 5) (dkn dmcX11_differ (by decide +kernel)) rfl
theorem dX11_differ_26 : decode cX11_differ 26 = .ok (.iconst (-1), 1) := dk_2 (dkn dmcX11_differ (by decide +kernel))
theorem dX11_differ_27 : decode cX11_differ 27 = .ok (.ireturn, 1) := dk_172 (dkn dmcX11_differ (by decide +kernel))
theorem dX11_differ_28 : decode cX11_differ 28 = .ok (.aload_n 0, 1) := dk_42 (dkn dmcX11_differ (by decide +kernel))
theorem dX11_differ_29 : decode cX11_differ 29 = .ok (.getfield 28, 3) := dk_180 (a := 0) (b := 28) (dkn dmcX11_differ (by decide +kernel)) rfl
theorem dX11_differ_32 : decode cX11_differ 32 = .ok (.aload_n 0, 1) := dk_42 (dkn dmcX11_differ (by decide +kernel))
theorem dX11_differ_33 : decode cX11_differ 33 = .ok (.getfield 16, 3) := dk_180 (a := 0) (b := 16) (dkn dmcX11_differ (by decide +kernel)) rfl
theorem dX11_differ_36 : decode cX11_differ 36 = .ok (.aload_n 0, 1) := dk_42 (dkn dmcX11_differ (by decide +kernel))
theorem dX11_differ_37 : decode cX11_differ 37 = .ok (.getfield 16, 3) := dk_180 (a := 0) (b := 16) (dkn dmcX11_differ (by decide +kernel)) rfl
theorem dX11_differ_40 : decode cX11_differ 40 = .ok (.getfield 87, 3) := dk_180 (a := 0) (b := 87) (dkn dmcX11_differ (by decide +kernel)) rfl
theorem dX11_differ_43 : decode cX11_differ 43 = .ok (.invokevirtual 105, 3) := dk_182 (a := 0) (b := 105) (dkn dmcX11_differ (by decide +kernel)) rfl
theorem dX11_differ_46 : decode cX11_differ 46 = .ok (.aload_n 0, 1) := dk_42 (dkn dmcX11_differ (by decide +kernel))
theorem dX11_differ_47 : decode cX11_differ 47 = .ok (.aload_n 0, 1) := dk_42 (dkn dmcX11_differ (by decide +kernel))
theorem dX11_differ_48 : decode cX11_differ 48 = .ok (.getfield 28, 3) := dk_180 (a := 0) (b := 28) (dkn dmcX11_differ (by decide +kernel)) rfl
theorem dX11_differ_51 : decode cX11_differ 51 = .ok (.iconst 0, 1) := dk_3 (dkn dmcX11_differ (by decide +kernel))
theorem dX11_differ_52 : decode cX11_differ 52 = .ok (.iload_n 1, 1) := dk_27 (dkn dmcX11_differ (by decide +kernel))
theorem dX11_differ_53 : decode cX11_differ 53 = .ok (.invokevirtual 269, 3) := dk_182 (a := 1) (b := 13) (dkn dmcX11_differ (by decide +kernel)) rfl
theorem dX11_differ_56 : decode cX11_differ 56 = .ok (.aload_n 0, 1) := dk_42 (dkn dmcX11_differ (by decide +kernel))
theorem dX11_differ_57 : decode cX11_differ 57 = .ok (.iload_n 2, 1) := dk_28 (dkn dmcX11_differ (by decide +kernel))
theorem dX11_differ_58 : decode cX11_differ 58 = .ok (.invokevirtual 200, 3) := dk_182 (a := 0) (b := 200) (dkn dmcX11_differ (by decide +kernel)) rfl
theorem dX11_differ_61 : decode cX11_differ 61 = .ok (.aload_n 0, 1) := dk_42 (dkn dmcX11_differ (by decide +kernel))
theorem dX11_differ_62 : decode cX11_differ 62 = .ok (.getfield 28, 3) := dk_180 (a := 0) (b := 28) (dkn dmcX11_differ (by decide +kernel)) rfl
theorem dX11_differ_65 : decode cX11_differ 65 = .ok (.invokevirtual 273, 3) := dk_182 (a := 1) (b := 17) (dkn dmcX11_differ (by decide +kernel)) rfl
theorem dX11_differ_68 : decode cX11_differ 68 = .ok (.ireturn, 1) := dk_172 (dkn dmcX11_differ (by decide +kernel))
def dncX11_find : Nat := 0xac1501b61c1b3400b42aac020500a464101c0900a1041c0e00a3051b13009b1b
theorem dmcX11_find : dkc dncX11_find 32 cX11_find.data.toList 0 = true := by decide +kernel
theorem dX11_find_0 : decode cX11_find 0 = .ok (.iload_n 1, 1) := dk_27 (dkn dmcX11_find (by decide +kernel))
theorem dX11_find_1 : decode cX11_find 1 = .ok (.ifCond .lt 19, 3) := dk_155 (a := 0) (b := 19) (dkn dmcX11_find (by decide +kernel)) rfl
theorem dX11_find_4 : decode cX11_find 4 = .ok (.iload_n 1, 1) := dk_27 (dkn dmcX11_find (by decide +kernel))
theorem dX11_find_5 : decode cX11_find 5 = .ok (.iconst 2, 1) := dk_5 (dkn dmcX11_find (by decide +kernel))
theorem dX11_find_6 : decode cX11_find 6 = .ok (.if_icmp .gt 14, 3) := dk_163 (a := 0) (b := 14) (dkn dmcX11_find (by decide +kernel)) rfl
theorem dX11_find_9 : decode cX11_find 9 = .ok (.iload_n 2, 1) := dk_28 (dkn dmcX11_find (by decide +kernel))
theorem dX11_find_10 : decode cX11_find 10 = .ok (.iconst 1, 1) := dk_4 (dkn dmcX11_find (by decide +kernel))
theorem dX11_find_11 : decode cX11_find 11 = .ok (.if_icmp .lt 9, 3) := dk_161 (a := 0) (b := 9) (dkn dmcX11_find (by decide +kernel)) rfl
theorem dX11_find_14 : decode cX11_find 14 = .ok (.iload_n 2, 1) := dk_28 (dkn dmcX11_find (by decide +kernel))
theorem dX11_find_15 : decode cX11_find 15 = .ok (.bipush 100, 2) := dk_16 (a := 100) (dkn dmcX11_find (by decide +kernel)) rfl
theorem dX11_find_17 : decode cX11_find 17 = .ok (.if_icmp .le 5, 3) := dk_164 (a := 0) (b := 5) (dkn dmcX11_find (by decide +kernel)) rfl
theorem dX11_find_20 : decode cX11_find 20 = .ok (.iconst (-1), 1) := dk_2 (dkn dmcX11_find (by decide +kernel))
theorem dX11_find_21 : decode cX11_find 21 = .ok (.ireturn, 1) := dk_172 (dkn dmcX11_find (by decide +kernel))
theorem dX11_find_22 : decode cX11_find 22 = .ok (.aload_n 0, 1) := dk_42 (dkn dmcX11_find (by decide +kernel))
theorem dX11_find_23 : decode cX11_find 23 = .ok (.getfield 52, 3) := dk_180 (a := 0) (b := 52) (dkn dmcX11_find (by decide +kernel)) rfl
theorem dX11_find_26 : decode cX11_find 26 = .ok (.iload_n 1, 1) := dk_27 (dkn dmcX11_find (by decide +kernel))
theorem dX11_find_27 : decode cX11_find 27 = .ok (.iload_n 2, 1) := dk_28 (dkn dmcX11_find (by decide +kernel))
theorem dX11_find_28 : decode cX11_find 28 = .ok (.invokevirtual 277, 3) := dk_182 (a := 1) (b := 21) (dkn dmcX11_find (by decide +kernel)) rfl
theorem dX11_find_31 : decode cX11_find 31 = .ok (.ireturn, 1) := dk_172 (dkn dmcX11_find (by decide +kernel))
def dncX11_found : Nat := 0xac2e1c2101b43400b42a0c00a72e1c2001b43400b42a0f00a00470051bacfe100600a11e01b43400b42a1c3d6c0564041bac1f01b43400b42a0b00a0081bac1e01b43400b42a0b009a1bacfe1006009a1b01b43400b42aac1801b43400b42a0b00a006101bac020500a406101b09009b1b
theorem dmcX11_found : dkc dncX11_found 113 cX11_found.data.toList 0 = true := by decide +kernel
theorem dX11_found_0 : decode cX11_found 0 = .ok (.iload_n 1, 1) := dk_27 (dkn dmcX11_found (by decide +kernel))
theorem dX11_found_1 : decode cX11_found 1 = .ok (.ifCond .lt 9, 3) := dk_155 (a := 0) (b := 9) (dkn dmcX11_found (by decide +kernel)) rfl
theorem dX11_found_4 : decode cX11_found 4 = .ok (.iload_n 1, 1) := dk_27 (dkn dmcX11_found (by decide +kernel))
theorem dX11_found_5 : decode cX11_found 5 = .ok (.bipush 6, 2) := dk_16 (a := 6) (dkn dmcX11_found (by decide +kernel)) rfl
theorem dX11_found_7 : decode cX11_found 7 = .ok (.if_icmp .le 5, 3) := dk_164 (a := 0) (b := 5) (dkn dmcX11_found (by decide +kernel)) rfl
theorem dX11_found_10 : decode cX11_found 10 = .ok (.iconst (-1), 1) := dk_2 (dkn dmcX11_found (by decide +kernel))
theorem dX11_found_11 : decode cX11_found 11 = .ok (.ireturn, 1) := dk_172 (dkn dmcX11_found (by decide +kernel))
theorem dX11_found_12 : decode cX11_found 12 = .ok (.iload_n 1, 1) := dk_27 (dkn dmcX11_found (by decide +kernel))
theorem dX11_found_13 : decode cX11_found 13 = .ok (.bipush 6, 2) := dk_16 (a := 6) (dkn dmcX11_found (by decide +kernel)) rfl
theorem dX11_found_15 : decode cX11_found 15 = .ok (.if_icmp .ne 11, 3) := dk_160 (a := 0) (b := 11) (dkn dmcX11_found (by decide +kernel)) rfl
theorem dX11_found_18 : decode cX11_found 18 = .ok (.aload_n 0, 1) := dk_42 (dkn dmcX11_found (by decide +kernel))
theorem dX11_found_19 : decode cX11_found 19 = .ok (.getfield 52, 3) := dk_180 (a := 0) (b := 52) (dkn dmcX11_found (by decide +kernel)) rfl
theorem dX11_found_22 : decode cX11_found 22 = .ok (.getfield 280, 3) := dk_180 (a := 1) (b := 24) (dkn dmcX11_found (by decide +kernel)) rfl
theorem dX11_found_25 : decode cX11_found 25 = .ok (.ireturn, 1) := dk_172 (dkn dmcX11_found (by decide +kernel))
theorem dX11_found_26 : decode cX11_found 26 = .ok (.aload_n 0, 1) := dk_42 (dkn dmcX11_found (by decide +kernel))
theorem dX11_found_27 : decode cX11_found 27 = .ok (.getfield 52, 3) := dk_180 (a := 0) (b := 52) (dkn dmcX11_found (by decide +kernel)) rfl
theorem dX11_found_30 : decode cX11_found 30 = .ok (.getfield 283, 3) := dk_180 (a := 1) (b := 27) (dkn dmcX11_found (by decide +kernel)) rfl
theorem dX11_found_33 : decode cX11_found 33 = .ok (.ifCond .ne 6, 3) := dk_154 (a := 0) (b := 6) (dkn dmcX11_found (by decide +kernel)) rfl
theorem dX11_found_36 : decode cX11_found 36 = .ok (.bipush (-2), 2) := dk_16 (a := 254) (dkn dmcX11_found (by decide +kernel)) rfl
theorem dX11_found_38 : decode cX11_found 38 = .ok (.ireturn, 1) := dk_172 (dkn dmcX11_found (by decide +kernel))
theorem dX11_found_39 : decode cX11_found 39 = .ok (.iload_n 1, 1) := dk_27 (dkn dmcX11_found (by decide +kernel))
theorem dX11_found_40 : decode cX11_found 40 = .ok (.ifCond .ne 11, 3) := dk_154 (a := 0) (b := 11) (dkn dmcX11_found (by decide +kernel)) rfl
theorem dX11_found_43 : decode cX11_found 43 = .ok (.aload_n 0, 1) := dk_42 (dkn dmcX11_found (by decide +kernel))
theorem dX11_found_44 : decode cX11_found 44 = .ok (.getfield 52, 3) := dk_180 (a := 0) (b := 52) (dkn dmcX11_found (by decide +kernel)) rfl
theorem dX11_found_47 : decode cX11_found 47 = .ok (.getfield 286, 3) := dk_180 (a := 1) (b := 30) (dkn dmcX11_found (by decide +kernel)) rfl
theorem dX11_found_50 : decode cX11_found 50 = .ok (.ireturn, 1) := dk_172 (dkn dmcX11_found (by decide +kernel))
theorem dX11_found_51 : decode cX11_found 51 = .ok (.iload_n 1, 1) := dk_27 (dkn dmcX11_found (by decide +kernel))
theorem dX11_found_52 : decode cX11_found 52 = .ok (.iconst 5, 1) := dk_8 (dkn dmcX11_found (by decide +kernel))
theorem dX11_found_53 : decode cX11_found 53 = .ok (.if_icmp .ne 11, 3) := dk_160 (a := 0) (b := 11) (dkn dmcX11_found (by decide +kernel)) rfl
theorem dX11_found_56 : decode cX11_found 56 = .ok (.aload_n 0, 1) := dk_42 (dkn dmcX11_found (by decide +kernel))
theorem dX11_found_57 : decode cX11_found 57 = .ok (.getfield 52, 3) := dk_180 (a := 0) (b := 52) (dkn dmcX11_found (by decide +kernel)) rfl
theorem dX11_found_60 : decode cX11_found 60 = .ok (.getfield 287, 3) := dk_180 (a := 1) (b := 31) (dkn dmcX11_found (by decide +kernel)) rfl
theorem dX11_found_63 : decode cX11_found 63 = .ok (.ireturn, 1) := dk_172 (dkn dmcX11_found (by decide +kernel))
theorem dX11_found_64 : decode cX11_found 64 = .ok (.iload_n 1, 1) := dk_27 (dkn dmcX11_found (by decide +kernel))
theorem dX11_found_65 : decode cX11_found 65 = .ok (.iconst 1, 1) := dk_4 (dkn dmcX11_found (by decide +kernel))
theorem dX11_found_66 : decode cX11_found 66 = .ok (.isub, 1) := dk_100 (dkn dmcX11_found (by decide +kernel))
theorem dX11_found_67 : decode cX11_found 67 = .ok (.iconst 2, 1) := dk_5 (dkn dmcX11_found (by decide +kernel))
theorem dX11_found_68 : decode cX11_found 68 = .ok (.idiv, 1) := by decide +kernel
theorem dX11_found_69 : decode cX11_found 69 = .ok (.istore_n 2, 1) := dk_61 (dkn dmcX11_found (by decide +kernel))
theorem dX11_found_70 : decode cX11_found 70 = .ok (.iload_n 2, 1) := dk_28 (dkn dmcX11_found (by decide +kernel))
theorem dX11_found_71 : decode cX11_found 71 = .ok (.aload_n 0, 1) := dk_42 (dkn dmcX11_found (by decide +kernel))
theorem dX11_found_72 : decode cX11_found 72 = .ok (.getfield 52, 3) := dk_180 (a := 0) (b := 52) (dkn dmcX11_found (by decide +kernel)) rfl
theorem dX11_found_75 : decode cX11_found 75 = .ok (.getfield 286, 3) := dk_180 (a := 1) (b := 30) (dkn dmcX11_found (by decide +kernel)) rfl
theorem dX11_found_78 : decode cX11_found 78 = .ok (.if_icmp .lt 6, 3) := dk_161 (a := 0) (b := 6) (dkn dmcX11_found (by decide +kernel)) rfl
theorem dX11_found_81 : decode cX11_found 81 = .ok (.bipush (-2), 2) := dk_16 (a := 254) (dkn dmcX11_found (by decide +kernel)) rfl
theorem dX11_found_83 : decode cX11_found 83 = .ok (.ireturn, 1) := dk_172 (dkn dmcX11_found (by decide +kernel))
theorem dX11_found_84 : decode cX11_found 84 = .ok (.iload_n 1, 1) := dk_27 (dkn dmcX11_found (by decide +kernel))
theorem dX11_found_85 : decode cX11_found 85 = .ok (.iconst 2, 1) := dk_5 (dkn dmcX11_found (by decide +kernel))
theorem dX11_found_86 : decode cX11_found 86 = .ok (.irem, 1) := dk_112 (dkn dmcX11_found (by decide +kernel))
theorem dX11_found_87 : decode cX11_found 87 = .ok (.iconst 1, 1) := dk_4 (dkn dmcX11_found (by decide +kernel))
theorem dX11_found_88 : decode cX11_found 88 = .ok (.if_icmp .ne 15, 3) := dk_160 (a := 0) (b := 15) (dkn dmcX11_found (by decide +kernel)) rfl
theorem dX11_found_91 : decode cX11_found 91 = .ok (.aload_n 0, 1) := dk_42 (dkn dmcX11_found (by decide +kernel))
theorem dX11_found_92 : decode cX11_found 92 = .ok (.getfield 52, 3) := dk_180 (a := 0) (b := 52) (dkn dmcX11_found (by decide +kernel)) rfl
theorem dX11_found_95 : decode cX11_found 95 = .ok (.getfield 288, 3) := dk_180 (a := 1) (b := 32) (dkn dmcX11_found (by decide +kernel)) rfl
theorem dX11_found_98 : decode cX11_found 98 = .ok (.iload_n 2, 1) := dk_28 (dkn dmcX11_found (by decide +kernel))
theorem dX11_found_99 : decode cX11_found 99 = .ok (.iaload, 1) := dk_46 (dkn dmcX11_found (by decide +kernel))
theorem dX11_found_100 : decode cX11_found 100 = .ok (.goto 12, 3) := dk_167 (a := 0) (b := 12) (dkn dmcX11_found (by decide +kernel)) rfl
theorem dX11_found_103 : decode cX11_found 103 = .ok (.aload_n 0, 1) := dk_42 (dkn dmcX11_found (by decide +kernel))
theorem dX11_found_104 : decode cX11_found 104 = .ok (.getfield 52, 3) := dk_180 (a := 0) (b := 52) (dkn dmcX11_found (by decide +kernel)) rfl
theorem dX11_found_107 : decode cX11_found 107 = .ok (.getfield 289, 3) := dk_180 (a := 1) (b := 33) (dkn dmcX11_found (by decide +kernel)) rfl
theorem dX11_found_110 : decode cX11_found 110 = .ok (.iload_n 2, 1) := dk_28 (dkn dmcX11_found (by decide +kernel))
theorem dX11_found_111 : decode cX11_found 111 = .ok (.iaload, 1) := dk_46 (dkn dmcX11_found (by decide +kernel))
theorem dX11_found_112 : decode cX11_found 112 = .ok (.ireturn, 1) := dk_172 (dkn dmcX11_found (by decide +kernel))
theorem dX11_isThread_0 : decode cX11_isThread 0 = .ok (.iload_n 0, 1) := dk_26 (by decide +kernel)
theorem dX11_isThread_1 : decode cX11_isThread 1 = .ok (.ifCond .lt 12, 3) := dk_155 (a := 0) (b := 12) (by decide +kernel) rfl
theorem dX11_isThread_4 : decode cX11_isThread 4 = .ok (.iload_n 0, 1) := dk_26 (by decide +kernel)
theorem dX11_isThread_5 : decode cX11_isThread 5 = .ok (.iconst 4, 1) := dk_7 (by decide +kernel)
theorem dX11_isThread_6 : decode cX11_isThread 6 = .ok (.if_icmp .ge 7, 3) := dk_162 (a := 0) (b := 7) (by decide +kernel) rfl
theorem dX11_isThread_9 : decode cX11_isThread 9 = .ok (.iconst 1, 1) := dk_4 (by decide +kernel)
theorem dX11_isThread_10 : decode cX11_isThread 10 = .ok (.goto 4, 3) := dk_167 (a := 0) (b := 4) (by decide +kernel) rfl
theorem dX11_isThread_13 : decode cX11_isThread 13 = .ok (.iconst 0, 1) := dk_3 (by decide +kernel)
theorem dX11_isThread_14 : decode cX11_isThread 14 = .ok (.ireturn, 1) := dk_172 (by decide +kernel)
theorem dX11_isCell_0 : decode cX11_isCell 0 = .ok (.iload_n 0, 1) := dk_26 (by decide +kernel)
theorem dX11_isCell_1 : decode cX11_isCell 1 = .ok (.ifCond .lt 13, 3) := dk_155 (a := 0) (b := 13) (by decide +kernel) rfl
theorem dX11_isCell_4 : decode cX11_isCell 4 = .ok (.iload_n 0, 1) := dk_26 (by decide +kernel)
theorem dX11_isCell_5 : decode cX11_isCell 5 = .ok (.bipush 12, 2) := dk_16 (a := 12) (by decide +kernel) rfl
theorem dX11_isCell_7 : decode cX11_isCell 7 = .ok (.if_icmp .ge 7, 3) := dk_162 (a := 0) (b := 7) (by decide +kernel) rfl
theorem dX11_isCell_10 : decode cX11_isCell 10 = .ok (.iconst 1, 1) := dk_4 (by decide +kernel)
theorem dX11_isCell_11 : decode cX11_isCell 11 = .ok (.goto 4, 3) := dk_167 (a := 0) (b := 4) (by decide +kernel) rfl
theorem dX11_isCell_14 : decode cX11_isCell 14 = .ok (.iconst 0, 1) := dk_3 (by decide +kernel)
theorem dX11_isCell_15 : decode cX11_isCell 15 = .ok (.ireturn, 1) := dk_172 (by decide +kernel)
theorem dX11_isShelf_0 : decode cX11_isShelf 0 = .ok (.iload_n 0, 1) := dk_26 (by decide +kernel)
theorem dX11_isShelf_1 : decode cX11_isShelf 1 = .ok (.ifCond .lt 13, 3) := dk_155 (a := 0) (b := 13) (by decide +kernel) rfl
theorem dX11_isShelf_4 : decode cX11_isShelf 4 = .ok (.iload_n 0, 1) := dk_26 (by decide +kernel)
theorem dX11_isShelf_5 : decode cX11_isShelf 5 = .ok (.bipush 8, 2) := dk_16 (a := 8) (by decide +kernel) rfl
theorem dX11_isShelf_7 : decode cX11_isShelf 7 = .ok (.if_icmp .ge 7, 3) := dk_162 (a := 0) (b := 7) (by decide +kernel) rfl
theorem dX11_isShelf_10 : decode cX11_isShelf 10 = .ok (.iconst 1, 1) := dk_4 (by decide +kernel)
theorem dX11_isShelf_11 : decode cX11_isShelf 11 = .ok (.goto 4, 3) := dk_167 (a := 0) (b := 4) (by decide +kernel) rfl
theorem dX11_isShelf_14 : decode cX11_isShelf 14 = .ok (.iconst 0, 1) := dk_3 (by decide +kernel)
theorem dX11_isShelf_15 : decode cX11_isShelf 15 = .ok (.ireturn, 1) := dk_172 (by decide +kernel)
theorem dX11_isMoment_0 : decode cX11_isMoment 0 = .ok (.iload_n 1, 1) := dk_27 (by decide +kernel)
theorem dX11_isMoment_1 : decode cX11_isMoment 1 = .ok (.ifCond .lt 18, 3) := dk_155 (a := 0) (b := 18) (by decide +kernel) rfl
theorem dX11_isMoment_4 : decode cX11_isMoment 4 = .ok (.iload_n 1, 1) := dk_27 (by decide +kernel)
theorem dX11_isMoment_5 : decode cX11_isMoment 5 = .ok (.aload_n 0, 1) := dk_42 (by decide +kernel)
theorem dX11_isMoment_6 : decode cX11_isMoment 6 = .ok (.getfield 34, 3) := dk_180 (a := 0) (b := 34) (by decide +kernel) rfl
theorem dX11_isMoment_9 : decode cX11_isMoment 9 = .ok (.getfield 120, 3) := dk_180 (a := 0) (b := 120) (by decide +kernel) rfl
theorem dX11_isMoment_12 : decode cX11_isMoment 12 = .ok (.if_icmp .gt 7, 3) := dk_163 (a := 0) (b := 7) (by decide +kernel) rfl
theorem dX11_isMoment_15 : decode cX11_isMoment 15 = .ok (.iconst 1, 1) := dk_4 (by decide +kernel)
theorem dX11_isMoment_16 : decode cX11_isMoment 16 = .ok (.goto 4, 3) := dk_167 (a := 0) (b := 4) (by decide +kernel) rfl
theorem dX11_isMoment_19 : decode cX11_isMoment 19 = .ok (.iconst 0, 1) := dk_3 (by decide +kernel)
theorem dX11_isMoment_20 : decode cX11_isMoment 20 = .ok (.ireturn, 1) := dk_172 (by decide +kernel)
theorem dX11_cellSlot_0 : decode cX11_cellSlot 0 = .ok (.iload_n 0, 1) := dk_26 (by decide +kernel)
theorem dX11_cellSlot_1 : decode cX11_cellSlot 1 = .ok (.invokestatic 81, 3) := dk_184 (a := 0) (b := 81) (by decide +kernel) rfl
theorem dX11_cellSlot_4 : decode cX11_cellSlot 4 = .ok (.ifCond .eq 7, 3) := dk_153 (a := 0) (b := 7) (by decide +kernel) rfl
theorem dX11_cellSlot_7 : decode cX11_cellSlot 7 = .ok (.iload_n 0, 1) := dk_26 (by decide +kernel)
theorem dX11_cellSlot_8 : decode cX11_cellSlot 8 = .ok (.goto 4, 3) := dk_167 (a := 0) (b := 4) (by decide +kernel) rfl
theorem dX11_cellSlot_11 : decode cX11_cellSlot 11 = .ok (.iconst (-1), 1) := dk_2 (by decide +kernel)
theorem dX11_cellSlot_12 : decode cX11_cellSlot 12 = .ok (.ireturn, 1) := dk_172 (by decide +kernel)
def dncX11_localSlot : Nat := 0xac601b6068071a0c10ac020500a1071b08009b1b0c00994200b81a
theorem dmcX11_localSlot : dkc dncX11_localSlot 27 cX11_localSlot.data.toList 0 = true := by decide +kernel
theorem dX11_localSlot_0 : decode cX11_localSlot 0 = .ok (.iload_n 0, 1) := dk_26 (dkn dmcX11_localSlot (by decide +kernel))
theorem dX11_localSlot_1 : decode cX11_localSlot 1 = .ok (.invokestatic 66, 3) := dk_184 (a := 0) (b := 66) (dkn dmcX11_localSlot (by decide +kernel)) rfl
theorem dX11_localSlot_4 : decode cX11_localSlot 4 = .ok (.ifCond .eq 12, 3) := dk_153 (a := 0) (b := 12) (dkn dmcX11_localSlot (by decide +kernel)) rfl
theorem dX11_localSlot_7 : decode cX11_localSlot 7 = .ok (.iload_n 1, 1) := dk_27 (dkn dmcX11_localSlot (by decide +kernel))
theorem dX11_localSlot_8 : decode cX11_localSlot 8 = .ok (.ifCond .lt 8, 3) := dk_155 (a := 0) (b := 8) (dkn dmcX11_localSlot (by decide +kernel)) rfl
theorem dX11_localSlot_11 : decode cX11_localSlot 11 = .ok (.iload_n 1, 1) := dk_27 (dkn dmcX11_localSlot (by decide +kernel))
theorem dX11_localSlot_12 : decode cX11_localSlot 12 = .ok (.iconst 4, 1) := dk_7 (dkn dmcX11_localSlot (by decide +kernel))
theorem dX11_localSlot_13 : decode cX11_localSlot 13 = .ok (.if_icmp .lt 5, 3) := dk_161 (a := 0) (b := 5) (dkn dmcX11_localSlot (by decide +kernel)) rfl
theorem dX11_localSlot_16 : decode cX11_localSlot 16 = .ok (.iconst (-1), 1) := dk_2 (dkn dmcX11_localSlot (by decide +kernel))
theorem dX11_localSlot_17 : decode cX11_localSlot 17 = .ok (.ireturn, 1) := dk_172 (dkn dmcX11_localSlot (by decide +kernel))
theorem dX11_localSlot_18 : decode cX11_localSlot 18 = .ok (.bipush 12, 2) := dk_16 (a := 12) (dkn dmcX11_localSlot (by decide +kernel)) rfl
theorem dX11_localSlot_20 : decode cX11_localSlot 20 = .ok (.iload_n 0, 1) := dk_26 (dkn dmcX11_localSlot (by decide +kernel))
theorem dX11_localSlot_21 : decode cX11_localSlot 21 = .ok (.iconst 4, 1) := dk_7 (dkn dmcX11_localSlot (by decide +kernel))
theorem dX11_localSlot_22 : decode cX11_localSlot 22 = .ok (.imul, 1) := dk_104 (dkn dmcX11_localSlot (by decide +kernel))
theorem dX11_localSlot_23 : decode cX11_localSlot 23 = .ok (.iadd, 1) := dk_96 (dkn dmcX11_localSlot (by decide +kernel))
theorem dX11_localSlot_24 : decode cX11_localSlot 24 = .ok (.iload_n 1, 1) := dk_27 (dkn dmcX11_localSlot (by decide +kernel))
theorem dX11_localSlot_25 : decode cX11_localSlot 25 = .ok (.iadd, 1) := dk_96 (dkn dmcX11_localSlot (by decide +kernel))
theorem dX11_localSlot_26 : decode cX11_localSlot 26 = .ok (.ireturn, 1) := dk_172 (dkn dmcX11_localSlot (by decide +kernel))
def dncX11_fits : Nat := 0xac030400a7040700a3641b1c1a0e00a31c1b13009b1a17009b1b
theorem dmcX11_fits : dkc dncX11_fits 26 cX11_fits.data.toList 0 = true := by decide +kernel
theorem dX11_fits_0 : decode cX11_fits 0 = .ok (.iload_n 1, 1) := dk_27 (dkn dmcX11_fits (by decide +kernel))
theorem dX11_fits_1 : decode cX11_fits 1 = .ok (.ifCond .lt 23, 3) := dk_155 (a := 0) (b := 23) (dkn dmcX11_fits (by decide +kernel)) rfl
theorem dX11_fits_4 : decode cX11_fits 4 = .ok (.iload_n 0, 1) := dk_26 (dkn dmcX11_fits (by decide +kernel))
theorem dX11_fits_5 : decode cX11_fits 5 = .ok (.ifCond .lt 19, 3) := dk_155 (a := 0) (b := 19) (dkn dmcX11_fits (by decide +kernel)) rfl
theorem dX11_fits_8 : decode cX11_fits 8 = .ok (.iload_n 1, 1) := dk_27 (dkn dmcX11_fits (by decide +kernel))
theorem dX11_fits_9 : decode cX11_fits 9 = .ok (.iload_n 2, 1) := dk_28 (dkn dmcX11_fits (by decide +kernel))
theorem dX11_fits_10 : decode cX11_fits 10 = .ok (.if_icmp .gt 14, 3) := dk_163 (a := 0) (b := 14) (dkn dmcX11_fits (by decide +kernel)) rfl
theorem dX11_fits_13 : decode cX11_fits 13 = .ok (.iload_n 0, 1) := dk_26 (dkn dmcX11_fits (by decide +kernel))
theorem dX11_fits_14 : decode cX11_fits 14 = .ok (.iload_n 2, 1) := dk_28 (dkn dmcX11_fits (by decide +kernel))
theorem dX11_fits_15 : decode cX11_fits 15 = .ok (.iload_n 1, 1) := dk_27 (dkn dmcX11_fits (by decide +kernel))
theorem dX11_fits_16 : decode cX11_fits 16 = .ok (.isub, 1) := dk_100 (dkn dmcX11_fits (by decide +kernel))
theorem dX11_fits_17 : decode cX11_fits 17 = .ok (.if_icmp .gt 7, 3) := dk_163 (a := 0) (b := 7) (dkn dmcX11_fits (by decide +kernel)) rfl
theorem dX11_fits_20 : decode cX11_fits 20 = .ok (.iconst 1, 1) := dk_4 (dkn dmcX11_fits (by decide +kernel))
theorem dX11_fits_21 : decode cX11_fits 21 = .ok (.goto 4, 3) := dk_167 (a := 0) (b := 4) (dkn dmcX11_fits (by decide +kernel)) rfl
theorem dX11_fits_24 : decode cX11_fits 24 = .ok (.iconst 0, 1) := dk_3 (dkn dmcX11_fits (by decide +kernel))
theorem dX11_fits_25 : decode cX11_fits 25 = .ok (.ireturn, 1) := dk_172 (dkn dmcX11_fits (by decide +kernel))
def dncX11_seenBehind : Nat := 0xb01800b42a7b00b51b2a0d01b61b7b00b42a1800b42a2a7b00b5032a6900b65700b41000b42a1000b42a1800b42a1a00a27b00b42a1b
theorem dmcX11_seenBehind : dkc dncX11_seenBehind 54 cX11_seenBehind.data.toList 0 = true := by decide +kernel
theorem dX11_seenBehind_0 : decode cX11_seenBehind 0 = .ok (.iload_n 1, 1) := dk_27 (dkn dmcX11_seenBehind (by decide +kernel))
theorem dX11_seenBehind_1 : decode cX11_seenBehind 1 = .ok (.aload_n 0, 1) := dk_42 (dkn dmcX11_seenBehind (by decide +kernel))
theorem dX11_seenBehind_2 : decode cX11_seenBehind 2 = .ok (.getfield 123, 3) := dk_180 (a := 0) (b := 123) (dkn dmcX11_seenBehind (by decide +kernel)) rfl
theorem dX11_seenBehind_5 : decode cX11_seenBehind 5 = .ok (.if_icmp .ge 26, 3) := dk_162 (a := 0) (b := 26) (dkn dmcX11_seenBehind (by decide +kernel)) rfl
theorem dX11_seenBehind_8 : decode cX11_seenBehind 8 = .ok (.aload_n 0, 1) := dk_42 (dkn dmcX11_seenBehind (by decide +kernel))
theorem dX11_seenBehind_9 : decode cX11_seenBehind 9 = .ok (.getfield 24, 3) := dk_180 (a := 0) (b := 24) (dkn dmcX11_seenBehind (by decide +kernel)) rfl
theorem dX11_seenBehind_12 : decode cX11_seenBehind 12 = .ok (.aload_n 0, 1) := dk_42 (dkn dmcX11_seenBehind (by decide +kernel))
theorem dX11_seenBehind_13 : decode cX11_seenBehind 13 = .ok (.getfield 16, 3) := dk_180 (a := 0) (b := 16) (dkn dmcX11_seenBehind (by decide +kernel)) rfl
theorem dX11_seenBehind_16 : decode cX11_seenBehind 16 = .ok (.aload_n 0, 1) := dk_42 (dkn dmcX11_seenBehind (by decide +kernel))
theorem dX11_seenBehind_17 : decode cX11_seenBehind 17 = .ok (.getfield 16, 3) := dk_180 (a := 0) (b := 16) (dkn dmcX11_seenBehind (by decide +kernel)) rfl
theorem dX11_seenBehind_20 : decode cX11_seenBehind 20 = .ok (.getfield 87, 3) := dk_180 (a := 0) (b := 87) (dkn dmcX11_seenBehind (by decide +kernel)) rfl
theorem dX11_seenBehind_23 : decode cX11_seenBehind 23 = .ok (.invokevirtual 105, 3) := dk_182 (a := 0) (b := 105) (dkn dmcX11_seenBehind (by decide +kernel)) rfl
theorem dX11_seenBehind_26 : decode cX11_seenBehind 26 = .ok (.aload_n 0, 1) := dk_42 (dkn dmcX11_seenBehind (by decide +kernel))
theorem dX11_seenBehind_27 : decode cX11_seenBehind 27 = .ok (.iconst 0, 1) := dk_3 (dkn dmcX11_seenBehind (by decide +kernel))
theorem dX11_seenBehind_28 : decode cX11_seenBehind 28 = .ok (.putfield 123, 3) := dk_181 (a := 0) (b := 123) (dkn dmcX11_seenBehind (by decide +kernel)) rfl
theorem dX11_seenBehind_31 : decode cX11_seenBehind 31 = .ok (.aload_n 0, 1) := dk_42 (dkn dmcX11_seenBehind (by decide +kernel))
theorem dX11_seenBehind_32 : decode cX11_seenBehind 32 = .ok (.aload_n 0, 1) := dk_42 (dkn dmcX11_seenBehind (by decide +kernel))
theorem dX11_seenBehind_33 : decode cX11_seenBehind 33 = .ok (.getfield 24, 3) := dk_180 (a := 0) (b := 24) (dkn dmcX11_seenBehind (by decide +kernel)) rfl
theorem dX11_seenBehind_36 : decode cX11_seenBehind 36 = .ok (.aload_n 0, 1) := dk_42 (dkn dmcX11_seenBehind (by decide +kernel))
theorem dX11_seenBehind_37 : decode cX11_seenBehind 37 = .ok (.getfield 123, 3) := dk_180 (a := 0) (b := 123) (dkn dmcX11_seenBehind (by decide +kernel)) rfl
theorem dX11_seenBehind_40 : decode cX11_seenBehind 40 = .ok (.iload_n 1, 1) := dk_27 (dkn dmcX11_seenBehind (by decide +kernel))
theorem dX11_seenBehind_41 : decode cX11_seenBehind 41 = .ok (.invokevirtual 269, 3) := dk_182 (a := 1) (b := 13) (dkn dmcX11_seenBehind (by decide +kernel)) rfl
theorem dX11_seenBehind_44 : decode cX11_seenBehind 44 = .ok (.aload_n 0, 1) := dk_42 (dkn dmcX11_seenBehind (by decide +kernel))
theorem dX11_seenBehind_45 : decode cX11_seenBehind 45 = .ok (.iload_n 1, 1) := dk_27 (dkn dmcX11_seenBehind (by decide +kernel))
theorem dX11_seenBehind_46 : decode cX11_seenBehind 46 = .ok (.putfield 123, 3) := dk_181 (a := 0) (b := 123) (dkn dmcX11_seenBehind (by decide +kernel)) rfl
theorem dX11_seenBehind_49 : decode cX11_seenBehind 49 = .ok (.aload_n 0, 1) := dk_42 (dkn dmcX11_seenBehind (by decide +kernel))
theorem dX11_seenBehind_50 : decode cX11_seenBehind 50 = .ok (.getfield 24, 3) := dk_180 (a := 0) (b := 24) (dkn dmcX11_seenBehind (by decide +kernel)) rfl
theorem dX11_seenBehind_53 : decode cX11_seenBehind 53 = .ok (.areturn, 1) := dk_176 (dkn dmcX11_seenBehind (by decide +kernel))
def dncX11_replay : Nat := 0xb1deffa7010484576301b62e600404159a00b42200b42a2b1a00a22c011104152200a21d041504361c
theorem dmcX11_replay : dkc dncX11_replay 41 cX11_replay.data.toList 0 = true := by decide +kernel
theorem dX11_replay_0 : decode cX11_replay 0 = .ok (.iload_n 2, 1) := dk_28 (dkn dmcX11_replay (by decide +kernel))
theorem dX11_replay_1 : decode cX11_replay 1 = .ok (.istore 4, 2) := dk_54 (dkn dmcX11_replay (by decide +kernel))
theorem dX11_replay_3 : decode cX11_replay 3 = .ok (.iload 4, 2) := dk_21 (dkn dmcX11_replay (by decide +kernel))
theorem dX11_replay_5 : decode cX11_replay 5 = .ok (.iload_n 3, 1) := dk_29 (dkn dmcX11_replay (by decide +kernel))
theorem dX11_replay_6 : decode cX11_replay 6 = .ok (.if_icmp .ge 34, 3) := dk_162 (a := 0) (b := 34) (dkn dmcX11_replay (by decide +kernel)) rfl
theorem dX11_replay_9 : decode cX11_replay 9 = .ok (.iload 4, 2) := dk_21 (dkn dmcX11_replay (by decide +kernel))
theorem dX11_replay_11 : decode cX11_replay 11 = .ok (.sipush 300, 3) := dk_17 (a := 1) (b := 44) (dkn dmcX11_replay (by decide +kernel)) rfl
theorem dX11_replay_14 : decode cX11_replay 14 = .ok (.if_icmp .ge 26, 3) := dk_162 (a := 0) (b := 26) (dkn dmcX11_replay (by decide +kernel)) rfl
theorem dX11_replay_17 : decode cX11_replay 17 = .ok (.aload_n 1, 1) := dk_43 (dkn dmcX11_replay (by decide +kernel))
theorem dX11_replay_18 : decode cX11_replay 18 = .ok (.aload_n 0, 1) := dk_42 (dkn dmcX11_replay (by decide +kernel))
theorem dX11_replay_19 : decode cX11_replay 19 = .ok (.getfield 34, 3) := dk_180 (a := 0) (b := 34) (dkn dmcX11_replay (by decide +kernel)) rfl
theorem dX11_replay_22 : decode cX11_replay 22 = .ok (.getfield 154, 3) := dk_180 (a := 0) (b := 154) (dkn dmcX11_replay (by decide +kernel)) rfl
theorem dX11_replay_25 : decode cX11_replay 25 = .ok (.iload 4, 2) := dk_21 (dkn dmcX11_replay (by decide +kernel))
theorem dX11_replay_27 : decode cX11_replay 27 = .ok (.iconst 1, 1) := dk_4 (dkn dmcX11_replay (by decide +kernel))
theorem dX11_replay_28 : decode cX11_replay 28 = .ok (.iadd, 1) := dk_96 (dkn dmcX11_replay (by decide +kernel))
theorem dX11_replay_29 : decode cX11_replay 29 = .ok (.iaload, 1) := dk_46 (dkn dmcX11_replay (by decide +kernel))
theorem dX11_replay_30 : decode cX11_replay 30 = .ok (.invokevirtual 355, 3) := dk_182 (a := 1) (b := 99) (dkn dmcX11_replay (by decide +kernel)) rfl
theorem dX11_replay_33 : decode cX11_replay 33 = .ok (.pop, 1) := dk_87 (dkn dmcX11_replay (by decide +kernel))
theorem dX11_replay_34 : decode cX11_replay 34 = .ok (.iinc 4 1, 3) := dk_132 (b := 1) (dkn dmcX11_replay (by decide +kernel)) rfl
theorem dX11_replay_37 : decode cX11_replay 37 = .ok (.goto (-34), 3) := dk_167 (a := 255) (b := 222) (dkn dmcX11_replay (by decide +kernel)) rfl
theorem dX11_replay_40 : decode cX11_replay 40 = .ok (.return_, 1) := dk_177 (dkn dmcX11_replay (by decide +kernel))
def dncX11_goByRecord : Nat := 0xac070400a70307009c6601b6031c00b42a7fffa7b000b56004b000b4592aac06b000b56004b000b4592a0f00990515ac050500a007100515ac040500a002051505366301b61c1c00b42aac0305009c1c3d6601b61c1c00b42a0c00a40415b000b42a0103843d2e1d9700b42200b42a1000a0b000b42a2e1d9400b42200b42a2000a22c01111d2700a21b1d7d00a22c0111b000b42ab000b5032a0436020400a72e64041b9400b42200b42a1100a32c01111b18009e1b3e033d03
theorem dmcX11_goByRecord : dkc dncX11_goByRecord 186 cX11_goByRecord.data.toList 0 = true := by decide +kernel
theorem dX11_goByRecord_0 : decode cX11_goByRecord 0 = .ok (.iconst 0, 1) := dk_3 (dkn dmcX11_goByRecord (by decide +kernel))
theorem dX11_goByRecord_1 : decode cX11_goByRecord 1 = .ok (.istore_n 2, 1) := dk_61 (dkn dmcX11_goByRecord (by decide +kernel))
theorem dX11_goByRecord_2 : decode cX11_goByRecord 2 = .ok (.iconst 0, 1) := dk_3 (dkn dmcX11_goByRecord (by decide +kernel))
theorem dX11_goByRecord_3 : decode cX11_goByRecord 3 = .ok (.istore_n 3, 1) := dk_62 (dkn dmcX11_goByRecord (by decide +kernel))
theorem dX11_goByRecord_4 : decode cX11_goByRecord 4 = .ok (.iload_n 1, 1) := dk_27 (dkn dmcX11_goByRecord (by decide +kernel))
theorem dX11_goByRecord_5 : decode cX11_goByRecord 5 = .ok (.ifCond .le 24, 3) := dk_158 (a := 0) (b := 24) (dkn dmcX11_goByRecord (by decide +kernel)) rfl
theorem dX11_goByRecord_8 : decode cX11_goByRecord 8 = .ok (.iload_n 1, 1) := dk_27 (dkn dmcX11_goByRecord (by decide +kernel))
theorem dX11_goByRecord_9 : decode cX11_goByRecord 9 = .ok (.sipush 300, 3) := dk_17 (a := 1) (b := 44) (dkn dmcX11_goByRecord (by decide +kernel)) rfl
theorem dX11_goByRecord_12 : decode cX11_goByRecord 12 = .ok (.if_icmp .gt 17, 3) := dk_163 (a := 0) (b := 17) (dkn dmcX11_goByRecord (by decide +kernel)) rfl
theorem dX11_goByRecord_15 : decode cX11_goByRecord 15 = .ok (.aload_n 0, 1) := dk_42 (dkn dmcX11_goByRecord (by decide +kernel))
theorem dX11_goByRecord_16 : decode cX11_goByRecord 16 = .ok (.getfield 34, 3) := dk_180 (a := 0) (b := 34) (dkn dmcX11_goByRecord (by decide +kernel)) rfl
theorem dX11_goByRecord_19 : decode cX11_goByRecord 19 = .ok (.getfield 148, 3) := dk_180 (a := 0) (b := 148) (dkn dmcX11_goByRecord (by decide +kernel)) rfl
theorem dX11_goByRecord_22 : decode cX11_goByRecord 22 = .ok (.iload_n 1, 1) := dk_27 (dkn dmcX11_goByRecord (by decide +kernel))
theorem dX11_goByRecord_23 : decode cX11_goByRecord 23 = .ok (.iconst 1, 1) := dk_4 (dkn dmcX11_goByRecord (by decide +kernel))
theorem dX11_goByRecord_24 : decode cX11_goByRecord 24 = .ok (.isub, 1) := dk_100 (dkn dmcX11_goByRecord (by decide +kernel))
theorem dX11_goByRecord_25 : decode cX11_goByRecord 25 = .ok (.iaload, 1) := dk_46 (dkn dmcX11_goByRecord (by decide +kernel))
theorem dX11_goByRecord_26 : decode cX11_goByRecord 26 = .ok (.goto 4, 3) := dk_167 (a := 0) (b := 4) (dkn dmcX11_goByRecord (by decide +kernel)) rfl
theorem dX11_goByRecord_29 : decode cX11_goByRecord 29 = .ok (.iconst (-1), 1) := dk_2 (dkn dmcX11_goByRecord (by decide +kernel))
theorem dX11_goByRecord_30 : decode cX11_goByRecord 30 = .ok (.istore 4, 2) := dk_54 (dkn dmcX11_goByRecord (by decide +kernel))
theorem dX11_goByRecord_32 : decode cX11_goByRecord 32 = .ok (.aload_n 0, 1) := dk_42 (dkn dmcX11_goByRecord (by decide +kernel))
theorem dX11_goByRecord_33 : decode cX11_goByRecord 33 = .ok (.iconst 0, 1) := dk_3 (dkn dmcX11_goByRecord (by decide +kernel))
theorem dX11_goByRecord_34 : decode cX11_goByRecord 34 = .ok (.putfield 176, 3) := dk_181 (a := 0) (b := 176) (dkn dmcX11_goByRecord (by decide +kernel)) rfl
theorem dX11_goByRecord_37 : decode cX11_goByRecord 37 = .ok (.aload_n 0, 1) := dk_42 (dkn dmcX11_goByRecord (by decide +kernel))
theorem dX11_goByRecord_38 : decode cX11_goByRecord 38 = .ok (.getfield 176, 3) := dk_180 (a := 0) (b := 176) (dkn dmcX11_goByRecord (by decide +kernel)) rfl
theorem dX11_goByRecord_41 : decode cX11_goByRecord 41 = .ok (.sipush 300, 3) := dk_17 (a := 1) (b := 44) (dkn dmcX11_goByRecord (by decide +kernel)) rfl
theorem dX11_goByRecord_44 : decode cX11_goByRecord 44 = .ok (.if_icmp .ge 125, 3) := dk_162 (a := 0) (b := 125) (dkn dmcX11_goByRecord (by decide +kernel)) rfl
theorem dX11_goByRecord_47 : decode cX11_goByRecord 47 = .ok (.iload_n 3, 1) := dk_29 (dkn dmcX11_goByRecord (by decide +kernel))
theorem dX11_goByRecord_48 : decode cX11_goByRecord 48 = .ok (.iload_n 1, 1) := dk_27 (dkn dmcX11_goByRecord (by decide +kernel))
theorem dX11_goByRecord_49 : decode cX11_goByRecord 49 = .ok (.if_icmp .ge 39, 3) := dk_162 (a := 0) (b := 39) (dkn dmcX11_goByRecord (by decide +kernel)) rfl
theorem dX11_goByRecord_52 : decode cX11_goByRecord 52 = .ok (.iload_n 3, 1) := dk_29 (dkn dmcX11_goByRecord (by decide +kernel))
theorem dX11_goByRecord_53 : decode cX11_goByRecord 53 = .ok (.sipush 300, 3) := dk_17 (a := 1) (b := 44) (dkn dmcX11_goByRecord (by decide +kernel)) rfl
theorem dX11_goByRecord_56 : decode cX11_goByRecord 56 = .ok (.if_icmp .ge 32, 3) := dk_162 (a := 0) (b := 32) (dkn dmcX11_goByRecord (by decide +kernel)) rfl
theorem dX11_goByRecord_59 : decode cX11_goByRecord 59 = .ok (.aload_n 0, 1) := dk_42 (dkn dmcX11_goByRecord (by decide +kernel))
theorem dX11_goByRecord_60 : decode cX11_goByRecord 60 = .ok (.getfield 34, 3) := dk_180 (a := 0) (b := 34) (dkn dmcX11_goByRecord (by decide +kernel)) rfl
theorem dX11_goByRecord_63 : decode cX11_goByRecord 63 = .ok (.getfield 148, 3) := dk_180 (a := 0) (b := 148) (dkn dmcX11_goByRecord (by decide +kernel)) rfl
theorem dX11_goByRecord_66 : decode cX11_goByRecord 66 = .ok (.iload_n 3, 1) := dk_29 (dkn dmcX11_goByRecord (by decide +kernel))
theorem dX11_goByRecord_67 : decode cX11_goByRecord 67 = .ok (.iaload, 1) := dk_46 (dkn dmcX11_goByRecord (by decide +kernel))
theorem dX11_goByRecord_68 : decode cX11_goByRecord 68 = .ok (.aload_n 0, 1) := dk_42 (dkn dmcX11_goByRecord (by decide +kernel))
theorem dX11_goByRecord_69 : decode cX11_goByRecord 69 = .ok (.getfield 176, 3) := dk_180 (a := 0) (b := 176) (dkn dmcX11_goByRecord (by decide +kernel)) rfl
theorem dX11_goByRecord_72 : decode cX11_goByRecord 72 = .ok (.if_icmp .ne 16, 3) := dk_160 (a := 0) (b := 16) (dkn dmcX11_goByRecord (by decide +kernel)) rfl
theorem dX11_goByRecord_75 : decode cX11_goByRecord 75 = .ok (.aload_n 0, 1) := dk_42 (dkn dmcX11_goByRecord (by decide +kernel))
theorem dX11_goByRecord_76 : decode cX11_goByRecord 76 = .ok (.getfield 34, 3) := dk_180 (a := 0) (b := 34) (dkn dmcX11_goByRecord (by decide +kernel)) rfl
theorem dX11_goByRecord_79 : decode cX11_goByRecord 79 = .ok (.getfield 151, 3) := dk_180 (a := 0) (b := 151) (dkn dmcX11_goByRecord (by decide +kernel)) rfl
theorem dX11_goByRecord_82 : decode cX11_goByRecord 82 = .ok (.iload_n 3, 1) := dk_29 (dkn dmcX11_goByRecord (by decide +kernel))
theorem dX11_goByRecord_83 : decode cX11_goByRecord 83 = .ok (.iaload, 1) := dk_46 (dkn dmcX11_goByRecord (by decide +kernel))
theorem dX11_goByRecord_84 : decode cX11_goByRecord 84 = .ok (.istore_n 2, 1) := dk_61 (dkn dmcX11_goByRecord (by decide +kernel))
theorem dX11_goByRecord_85 : decode cX11_goByRecord 85 = .ok (.iinc 3 1, 3) := dk_132 (b := 1) (dkn dmcX11_goByRecord (by decide +kernel)) rfl
theorem dX11_goByRecord_88 : decode cX11_goByRecord 88 = .ok (.aload_n 0, 1) := dk_42 (dkn dmcX11_goByRecord (by decide +kernel))
theorem dX11_goByRecord_89 : decode cX11_goByRecord 89 = .ok (.getfield 176, 3) := dk_180 (a := 0) (b := 176) (dkn dmcX11_goByRecord (by decide +kernel)) rfl
theorem dX11_goByRecord_92 : decode cX11_goByRecord 92 = .ok (.iload 4, 2) := dk_21 (dkn dmcX11_goByRecord (by decide +kernel))
theorem dX11_goByRecord_94 : decode cX11_goByRecord 94 = .ok (.if_icmp .le 12, 3) := dk_164 (a := 0) (b := 12) (dkn dmcX11_goByRecord (by decide +kernel)) rfl
theorem dX11_goByRecord_97 : decode cX11_goByRecord 97 = .ok (.aload_n 0, 1) := dk_42 (dkn dmcX11_goByRecord (by decide +kernel))
theorem dX11_goByRecord_98 : decode cX11_goByRecord 98 = .ok (.getfield 28, 3) := dk_180 (a := 0) (b := 28) (dkn dmcX11_goByRecord (by decide +kernel)) rfl
theorem dX11_goByRecord_101 : decode cX11_goByRecord 101 = .ok (.iload_n 2, 1) := dk_28 (dkn dmcX11_goByRecord (by decide +kernel))
theorem dX11_goByRecord_102 : decode cX11_goByRecord 102 = .ok (.invokevirtual 358, 3) := dk_182 (a := 1) (b := 102) (dkn dmcX11_goByRecord (by decide +kernel)) rfl
theorem dX11_goByRecord_105 : decode cX11_goByRecord 105 = .ok (.istore_n 2, 1) := dk_61 (dkn dmcX11_goByRecord (by decide +kernel))
theorem dX11_goByRecord_106 : decode cX11_goByRecord 106 = .ok (.iload_n 2, 1) := dk_28 (dkn dmcX11_goByRecord (by decide +kernel))
theorem dX11_goByRecord_107 : decode cX11_goByRecord 107 = .ok (.ifCond .ge 5, 3) := dk_156 (a := 0) (b := 5) (dkn dmcX11_goByRecord (by decide +kernel)) rfl
theorem dX11_goByRecord_110 : decode cX11_goByRecord 110 = .ok (.iconst 0, 1) := dk_3 (dkn dmcX11_goByRecord (by decide +kernel))
theorem dX11_goByRecord_111 : decode cX11_goByRecord 111 = .ok (.ireturn, 1) := dk_172 (dkn dmcX11_goByRecord (by decide +kernel))
theorem dX11_goByRecord_112 : decode cX11_goByRecord 112 = .ok (.aload_n 0, 1) := dk_42 (dkn dmcX11_goByRecord (by decide +kernel))
theorem dX11_goByRecord_113 : decode cX11_goByRecord 113 = .ok (.getfield 28, 3) := dk_180 (a := 0) (b := 28) (dkn dmcX11_goByRecord (by decide +kernel)) rfl
theorem dX11_goByRecord_116 : decode cX11_goByRecord 116 = .ok (.iload_n 2, 1) := dk_28 (dkn dmcX11_goByRecord (by decide +kernel))
theorem dX11_goByRecord_117 : decode cX11_goByRecord 117 = .ok (.invokevirtual 355, 3) := dk_182 (a := 1) (b := 99) (dkn dmcX11_goByRecord (by decide +kernel)) rfl
theorem dX11_goByRecord_120 : decode cX11_goByRecord 120 = .ok (.istore 5, 2) := dk_54 (dkn dmcX11_goByRecord (by decide +kernel))
theorem dX11_goByRecord_122 : decode cX11_goByRecord 122 = .ok (.iload 5, 2) := dk_21 (dkn dmcX11_goByRecord (by decide +kernel))
theorem dX11_goByRecord_124 : decode cX11_goByRecord 124 = .ok (.iconst (-1), 1) := dk_2 (dkn dmcX11_goByRecord (by decide +kernel))
theorem dX11_goByRecord_125 : decode cX11_goByRecord 125 = .ok (.if_icmp .ne 5, 3) := dk_160 (a := 0) (b := 5) (dkn dmcX11_goByRecord (by decide +kernel)) rfl
theorem dX11_goByRecord_128 : decode cX11_goByRecord 128 = .ok (.iconst 1, 1) := dk_4 (dkn dmcX11_goByRecord (by decide +kernel))
theorem dX11_goByRecord_129 : decode cX11_goByRecord 129 = .ok (.ireturn, 1) := dk_172 (dkn dmcX11_goByRecord (by decide +kernel))
theorem dX11_goByRecord_130 : decode cX11_goByRecord 130 = .ok (.iload 5, 2) := dk_21 (dkn dmcX11_goByRecord (by decide +kernel))
theorem dX11_goByRecord_132 : decode cX11_goByRecord 132 = .ok (.bipush 7, 2) := dk_16 (a := 7) (dkn dmcX11_goByRecord (by decide +kernel)) rfl
theorem dX11_goByRecord_134 : decode cX11_goByRecord 134 = .ok (.if_icmp .ne 5, 3) := dk_160 (a := 0) (b := 5) (dkn dmcX11_goByRecord (by decide +kernel)) rfl
theorem dX11_goByRecord_137 : decode cX11_goByRecord 137 = .ok (.iconst 2, 1) := dk_5 (dkn dmcX11_goByRecord (by decide +kernel))
theorem dX11_goByRecord_138 : decode cX11_goByRecord 138 = .ok (.ireturn, 1) := dk_172 (dkn dmcX11_goByRecord (by decide +kernel))
theorem dX11_goByRecord_139 : decode cX11_goByRecord 139 = .ok (.iload 5, 2) := dk_21 (dkn dmcX11_goByRecord (by decide +kernel))
theorem dX11_goByRecord_141 : decode cX11_goByRecord 141 = .ok (.ifCond .eq 15, 3) := dk_153 (a := 0) (b := 15) (dkn dmcX11_goByRecord (by decide +kernel)) rfl
theorem dX11_goByRecord_144 : decode cX11_goByRecord 144 = .ok (.aload_n 0, 1) := dk_42 (dkn dmcX11_goByRecord (by decide +kernel))
theorem dX11_goByRecord_145 : decode cX11_goByRecord 145 = .ok (.dup, 1) := dk_89 (dkn dmcX11_goByRecord (by decide +kernel))
theorem dX11_goByRecord_146 : decode cX11_goByRecord 146 = .ok (.getfield 176, 3) := dk_180 (a := 0) (b := 176) (dkn dmcX11_goByRecord (by decide +kernel)) rfl
theorem dX11_goByRecord_149 : decode cX11_goByRecord 149 = .ok (.iconst 1, 1) := dk_4 (dkn dmcX11_goByRecord (by decide +kernel))
theorem dX11_goByRecord_150 : decode cX11_goByRecord 150 = .ok (.iadd, 1) := dk_96 (dkn dmcX11_goByRecord (by decide +kernel))
theorem dX11_goByRecord_151 : decode cX11_goByRecord 151 = .ok (.putfield 176, 3) := dk_181 (a := 0) (b := 176) (dkn dmcX11_goByRecord (by decide +kernel)) rfl
theorem dX11_goByRecord_154 : decode cX11_goByRecord 154 = .ok (.iconst 3, 1) := dk_6 (dkn dmcX11_goByRecord (by decide +kernel))
theorem dX11_goByRecord_155 : decode cX11_goByRecord 155 = .ok (.ireturn, 1) := dk_172 (dkn dmcX11_goByRecord (by decide +kernel))
theorem dX11_goByRecord_156 : decode cX11_goByRecord 156 = .ok (.aload_n 0, 1) := dk_42 (dkn dmcX11_goByRecord (by decide +kernel))
theorem dX11_goByRecord_157 : decode cX11_goByRecord 157 = .ok (.dup, 1) := dk_89 (dkn dmcX11_goByRecord (by decide +kernel))
theorem dX11_goByRecord_158 : decode cX11_goByRecord 158 = .ok (.getfield 176, 3) := dk_180 (a := 0) (b := 176) (dkn dmcX11_goByRecord (by decide +kernel)) rfl
theorem dX11_goByRecord_161 : decode cX11_goByRecord 161 = .ok (.iconst 1, 1) := dk_4 (dkn dmcX11_goByRecord (by decide +kernel))
theorem dX11_goByRecord_162 : decode cX11_goByRecord 162 = .ok (.iadd, 1) := dk_96 (dkn dmcX11_goByRecord (by decide +kernel))
theorem dX11_goByRecord_163 : decode cX11_goByRecord 163 = .ok (.putfield 176, 3) := dk_181 (a := 0) (b := 176) (dkn dmcX11_goByRecord (by decide +kernel)) rfl
theorem dX11_goByRecord_166 : decode cX11_goByRecord 166 = .ok (.goto (-129), 3) := dk_167 (a := 255) (b := 127) (dkn dmcX11_goByRecord (by decide +kernel)) rfl
theorem dX11_goByRecord_169 : decode cX11_goByRecord 169 = .ok (.aload_n 0, 1) := dk_42 (dkn dmcX11_goByRecord (by decide +kernel))
theorem dX11_goByRecord_170 : decode cX11_goByRecord 170 = .ok (.getfield 28, 3) := dk_180 (a := 0) (b := 28) (dkn dmcX11_goByRecord (by decide +kernel)) rfl
theorem dX11_goByRecord_173 : decode cX11_goByRecord 173 = .ok (.iconst 0, 1) := dk_3 (dkn dmcX11_goByRecord (by decide +kernel))
theorem dX11_goByRecord_174 : decode cX11_goByRecord 174 = .ok (.invokevirtual 358, 3) := dk_182 (a := 1) (b := 102) (dkn dmcX11_goByRecord (by decide +kernel)) rfl
theorem dX11_goByRecord_177 : decode cX11_goByRecord 177 = .ok (.ifCond .ge 7, 3) := dk_156 (a := 0) (b := 7) (dkn dmcX11_goByRecord (by decide +kernel)) rfl
theorem dX11_goByRecord_180 : decode cX11_goByRecord 180 = .ok (.iconst 0, 1) := dk_3 (dkn dmcX11_goByRecord (by decide +kernel))
theorem dX11_goByRecord_181 : decode cX11_goByRecord 181 = .ok (.goto 4, 3) := dk_167 (a := 0) (b := 4) (dkn dmcX11_goByRecord (by decide +kernel)) rfl
theorem dX11_goByRecord_184 : decode cX11_goByRecord 184 = .ok (.iconst 4, 1) := dk_7 (dkn dmcX11_goByRecord (by decide +kernel))
theorem dX11_goByRecord_185 : decode cX11_goByRecord 185 = .ok (.ireturn, 1) := dk_172 (dkn dmcX11_goByRecord (by decide +kernel))
theorem dJ9_floorMod_7cf53_0 : decode cJ9_floorMod_7cf53 0 = .ok (.iload_n 0, 1) := dk_26 (by decide +kernel)
theorem dJ9_floorMod_7cf53_1 : decode cJ9_floorMod_7cf53 1 = .ok (.iload_n 1, 1) := dk_27 (by decide +kernel)
theorem dJ9_floorMod_7cf53_2 : decode cJ9_floorMod_7cf53 2 = .ok (.irem, 1) := dk_112 (by decide +kernel)
theorem dJ9_floorMod_7cf53_3 : decode cJ9_floorMod_7cf53 3 = .ok (.istore_n 2, 1) := dk_61 (by decide +kernel)
theorem dJ9_floorMod_7cf53_4 : decode cJ9_floorMod_7cf53 4 = .ok (.iload_n 0, 1) := dk_26 (by decide +kernel)
theorem dJ9_floorMod_7cf53_5 : decode cJ9_floorMod_7cf53 5 = .ok (.iload_n 1, 1) := dk_27 (by decide +kernel)
theorem dJ9_floorMod_7cf53_6 : decode cJ9_floorMod_7cf53 6 = .ok (.ixor, 1) := by decide +kernel
theorem dJ9_floorMod_7cf53_7 : decode cJ9_floorMod_7cf53 7 = .ok (.ifCond .ge 11, 3) := dk_156 (a := 0) (b := 11) (by decide +kernel) rfl
theorem dJ9_floorMod_7cf53_10 : decode cJ9_floorMod_7cf53 10 = .ok (.iload_n 2, 1) := dk_28 (by decide +kernel)
theorem dJ9_floorMod_7cf53_11 : decode cJ9_floorMod_7cf53 11 = .ok (.ifCond .eq 7, 3) := dk_153 (a := 0) (b := 7) (by decide +kernel) rfl
theorem dJ9_floorMod_7cf53_14 : decode cJ9_floorMod_7cf53 14 = .ok (.iload_n 2, 1) := dk_28 (by decide +kernel)
theorem dJ9_floorMod_7cf53_15 : decode cJ9_floorMod_7cf53 15 = .ok (.iload_n 1, 1) := dk_27 (by decide +kernel)
theorem dJ9_floorMod_7cf53_16 : decode cJ9_floorMod_7cf53 16 = .ok (.iadd, 1) := dk_96 (by decide +kernel)
theorem dJ9_floorMod_7cf53_17 : decode cJ9_floorMod_7cf53 17 = .ok (.ireturn, 1) := dk_172 (by decide +kernel)
theorem dJ9_floorMod_7cf53_18 : decode cJ9_floorMod_7cf53 18 = .ok (.iload_n 2, 1) := dk_28 (by decide +kernel)
theorem dJ9_floorMod_7cf53_19 : decode cJ9_floorMod_7cf53 19 = .ok (.ireturn, 1) := dk_172 (by decide +kernel)
theorem dJ7_fill_53178_0 : decode cJ7_fill_53178 0 = .ok (.iconst 0, 1) := dk_3 (by decide +kernel)
theorem dJ7_fill_53178_1 : decode cJ7_fill_53178 1 = .ok (.istore_n 2, 1) := dk_61 (by decide +kernel)
theorem dJ7_fill_53178_2 : decode cJ7_fill_53178 2 = .ok (.aload_n 0, 1) := dk_42 (by decide +kernel)
theorem dJ7_fill_53178_3 : decode cJ7_fill_53178 3 = .ok (.arraylength, 1) := dk_190 (by decide +kernel)
theorem dJ7_fill_53178_4 : decode cJ7_fill_53178 4 = .ok (.istore_n 3, 1) := dk_62 (by decide +kernel)
theorem dJ7_fill_53178_5 : decode cJ7_fill_53178 5 = .ok (.iload_n 2, 1) := dk_28 (by decide +kernel)
theorem dJ7_fill_53178_6 : decode cJ7_fill_53178 6 = .ok (.iload_n 3, 1) := dk_29 (by decide +kernel)
theorem dJ7_fill_53178_7 : decode cJ7_fill_53178 7 = .ok (.if_icmp .ge 13, 3) := dk_162 (a := 0) (b := 13) (by decide +kernel) rfl
theorem dJ7_fill_53178_10 : decode cJ7_fill_53178 10 = .ok (.aload_n 0, 1) := dk_42 (by decide +kernel)
theorem dJ7_fill_53178_11 : decode cJ7_fill_53178 11 = .ok (.iload_n 2, 1) := dk_28 (by decide +kernel)
theorem dJ7_fill_53178_12 : decode cJ7_fill_53178 12 = .ok (.iload_n 1, 1) := dk_27 (by decide +kernel)
theorem dJ7_fill_53178_13 : decode cJ7_fill_53178 13 = .ok (.iastore, 1) := dk_79 (by decide +kernel)
theorem dJ7_fill_53178_14 : decode cJ7_fill_53178 14 = .ok (.iinc 2 1, 3) := dk_132 (b := 1) (by decide +kernel) rfl
theorem dJ7_fill_53178_17 : decode cJ7_fill_53178 17 = .ok (.goto (-12), 3) := dk_167 (a := 255) (b := 244) (by decide +kernel) rfl
theorem dJ7_fill_53178_20 : decode cJ7_fill_53178 20 = .ok (.return_, 1) := dk_177 (by decide +kernel)
end MG_15_cdec2
section MG_15_z
/-! A method of a class some of whose methods are run by entries: this one isn't. -/
theorem met_ofF {l : Launch} {y : MethodName} {ws ws' : List Cond} {rm : Room} {Pc : Array Value → State → Prop} {Qc : Array Value → State → Outcome → State → Prop} {mc ms : Nat} {free : Addr → Prop} {cc : ByteArray} {maxL : Nat} {ret : Option FieldType}
    (hy : plainFor y = true) (hw : ws = Cond.code y cc maxL ret :: ws')
    (body : ∀ p e s m args below meth c s₁, BodyLoose p l y (headSpec ws rm) cc maxL ret e s m args below meth c s₁ → c.maxLocals = maxL → Pc args s →
      W p l e (headSpec ws rm).room s m args below meth c s.heap [] 0 0 (MQ below Qc args s mc ms free) (entryFrame m args maxL)) : Met l y ws rm Pc Qc mc ms free := by
  refine MetFree.of_bodySF (code := cc) (maxLocals := maxL) (ret := ret) hy ?_ ?_
  · intro args s m h hn
    obtain ⟨meth, c, h1, h2, h3, h4, h5, h6, -, -⟩ := Cond.code_spec hn (atoms_spec (ws := ws) h _ (by rw [hw]; exact List.mem_cons_self))
    exact ⟨meth, c, h1, h2, h3, h4, h5, h6⟩
  · intro p e s m args below meth c s₁ B hml hP _
    have hh0 : s₁.heap = s.heap := by rw [B.state]; rfl
    obtain ⟨t, a1, o, b1, b2, b3⟩ := body p e s m args below meth c s₁ B hml hP s₁ hh0 (Stand.of_body B)
    exact ⟨t, o, a1, b1, b2, ⟨b3.1, b3.2⟩⟩
theorem met_iF {l : Launch} {y : MethodName} {cc : ByteArray} {maxL : Nat} {ty : FieldType} {rm : Room} {Y : fj_Y} {ad : Nat → Nat} {n : Nat} {S : ph_S} {h : ph_H} {av : List Value} {post : Int32 → ph_S → ph_H → Prop} (hy : plainFor y = true) (hav : (lg_sl av).length ≤ maxL)
    (hn : ∀ r S' h', post r S' h' → narrow ty (.int r) = .int r)
    (body : ∀ X : fj_X, FC X Y l cc maxL y.cls rm 0 0 (some ty) → (∀ r S' h', post r S' h' → ∀ pc lv, decode cc pc = .ok (.ireturn, 1) → FJ X Y ad n S' h' pc lv [.int r]) → FJ X Y ad n S h 0 (lv_args 0 av) []) : MI l y cc maxL (some ty) rm Y ad n S h av post := by
  intro sz
  refine met_ofF (cc := cc) (maxL := maxL) (ret := some ty) hy rfl ?_
  intro p e s m args below meth c s₁ B hml hv
  obtain ⟨rfl, hsz, hP, hK, hD0⟩ := hv
  subst hsz
  have hts := atoms_spec (ws := Cond.code y cc maxL (some ty) :: TW) B.pre
  obtain ⟨G, cA⟩ := Y
  have hD := hD0.self (sz := s.heap.size)
  have hl := lv_entry av (n := maxL) hav
  rw [lg_entry_eq]
  refine body ((p, l, e, rm), (s, m, av.toArray, below, meth, c), (0, 0, _), (maxL, va_A (ph_w n cA ad S h) s.heap.size)) ⟨B.exec, B.bytes, hml, findClass_of_methodNamed B.named, fun w hw => hts w (List.mem_cons_of_mem _ hw), hK, B.notSynchronized, rfl, rfl, rfl, rfl, B.returns, rfl, Nat.zero_le _, Nat.zero_le _, fun q hq => Or.inr hq⟩ ?_ s.heap [] _ hP hD va_S.rf hl
  intro r S' h' hp pc lv hd H locs ls hP' hD' hS' hl'
  refine W.widen (k := rm.cells) (n := rm.slots) (Nat.zero_le _) (Nat.zero_le _) ?_
  exact W.zret (v := r) B.exec B.bytes B.returns (hn r S' h' hp) (fun t ht hW => ⟨⟨r, (S', h'), rfl, hp, by rw [ht]; exact hP', va_K.moved hW.alike hK, hD'⟩, hS'.F ht⟩) hS'.2.2 hd
theorem RETi_u {X : fj_X} {Y : fj_Y} {ad : Nat → Nat} {n : Nat} {S : ph_S} {cc : ByteArray} {v : Int32} {h : ph_H} (r : RETi X Y ad n S cc (v, h)) (pc : Nat) (lv : List (Nat × Value)) (d : decode cc pc = .ok (.ireturn, 1)) : FJ X Y ad n S h pc lv [.int v] := r pc lv d
theorem RETz_u {X : fj_X} {Y : fj_Y} {ad : Nat → Nat} {n : Nat} {S : ph_S} {cc : ByteArray} {v : Int32} {h : ph_H} (r : RETz X Y ad n S cc (v, h)) (b : bo v) (pc : Nat) (lv : List (Nat × Value)) (d : decode cc pc = .ok (.ireturn, 1)) : FJ X Y ad n S h pc lv [.int v] := r b pc lv d
end MG_15_z
