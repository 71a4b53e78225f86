theorem dX3_begin_0 : decode cX3_begin 0 = .ok (.aload_n 0, 1) := dk_42 (by decide +kernel)
theorem dX3_begin_1 : decode cX3_begin 1 = .ok (.aload_n 1, 1) := dk_43 (by decide +kernel)
theorem dX3_begin_2 : decode cX3_begin 2 = .ok (.putfield 39, 3) := dk_181 (a := 0) (b := 39) (by decide +kernel) rfl
theorem dX3_begin_5 : decode cX3_begin 5 = .ok (.aload_n 0, 1) := dk_42 (by decide +kernel)
theorem dX3_begin_6 : decode cX3_begin 6 = .ok (.getfield 9, 3) := dk_180 (a := 0) (b := 9) (by decide +kernel) rfl
theorem dX3_begin_9 : decode cX3_begin 9 = .ok (.iconst 0, 1) := dk_3 (by decide +kernel)
theorem dX3_begin_10 : decode cX3_begin 10 = .ok (.invokestatic 43, 3) := dk_184 (a := 0) (b := 43) (by decide +kernel) rfl
theorem dX3_begin_13 : decode cX3_begin 13 = .ok (.aload_n 0, 1) := dk_42 (by decide +kernel)
theorem dX3_begin_14 : decode cX3_begin 14 = .ok (.getfield 15, 3) := dk_180 (a := 0) (b := 15) (by decide +kernel) rfl
theorem dX3_begin_17 : decode cX3_begin 17 = .ok (.iconst 0, 1) := dk_3 (by decide +kernel)
theorem dX3_begin_18 : decode cX3_begin 18 = .ok (.invokestatic 43, 3) := dk_184 (a := 0) (b := 43) (by decide +kernel) rfl
theorem dX3_begin_21 : decode cX3_begin 21 = .ok (.aload_n 1, 1) := dk_43 (by decide +kernel)
theorem dX3_begin_22 : decode cX3_begin 22 = .ok (.getfield 49, 3) := dk_180 (a := 0) (b := 49) (by decide +kernel) rfl
theorem dX3_begin_25 : decode cX3_begin 25 = .ok (.iconst 0, 1) := dk_3 (by decide +kernel)
theorem dX3_begin_26 : decode cX3_begin 26 = .ok (.aload_n 0, 1) := dk_42 (by decide +kernel)
theorem dX3_begin_27 : decode cX3_begin 27 = .ok (.getfield 15, 3) := dk_180 (a := 0) (b := 15) (by decide +kernel) rfl
theorem dX3_begin_30 : decode cX3_begin 30 = .ok (.iconst 0, 1) := dk_3 (by decide +kernel)
theorem dX3_begin_31 : decode cX3_begin 31 = .ok (.bipush 12, 2) := dk_16 (a := 12) (by decide +kernel) rfl
theorem dX3_begin_33 : decode cX3_begin 33 = .ok (.invokestatic 54, 3) := dk_184 (a := 0) (b := 54) (by decide +kernel) rfl
theorem dX3_begin_36 : decode cX3_begin 36 = .ok (.aload_n 0, 1) := dk_42 (by decide +kernel)
theorem dX3_begin_37 : decode cX3_begin 37 = .ok (.getfield 18, 3) := dk_180 (a := 0) (b := 18) (by decide +kernel) rfl
theorem dX3_begin_40 : decode cX3_begin 40 = .ok (.iconst 0, 1) := dk_3 (by decide +kernel)
theorem dX3_begin_41 : decode cX3_begin 41 = .ok (.invokestatic 43, 3) := dk_184 (a := 0) (b := 43) (by decide +kernel) rfl
theorem dX3_begin_44 : decode cX3_begin 44 = .ok (.aload_n 0, 1) := dk_42 (by decide +kernel)
theorem dX3_begin_45 : decode cX3_begin 45 = .ok (.getfield 21, 3) := dk_180 (a := 0) (b := 21) (by decide +kernel) rfl
theorem dX3_begin_48 : decode cX3_begin 48 = .ok (.iconst 0, 1) := dk_3 (by decide +kernel)
theorem dX3_begin_49 : decode cX3_begin 49 = .ok (.invokestatic 43, 3) := dk_184 (a := 0) (b := 43) (by decide +kernel) rfl
theorem dX3_begin_52 : decode cX3_begin 52 = .ok (.aload_n 0, 1) := dk_42 (by decide +kernel)
theorem dX3_begin_53 : decode cX3_begin 53 = .ok (.getfield 21, 3) := dk_180 (a := 0) (b := 21) (by decide +kernel) rfl
theorem dX3_begin_56 : decode cX3_begin 56 = .ok (.iconst 0, 1) := dk_3 (by decide +kernel)
theorem dX3_begin_57 : decode cX3_begin 57 = .ok (.iconst 1, 1) := dk_4 (by decide +kernel)
theorem dX3_begin_58 : decode cX3_begin 58 = .ok (.iastore, 1) := dk_79 (by decide +kernel)
theorem dX3_begin_59 : decode cX3_begin 59 = .ok (.aload_n 0, 1) := dk_42 (by decide +kernel)
theorem dX3_begin_60 : decode cX3_begin 60 = .ok (.iconst 0, 1) := dk_3 (by decide +kernel)
theorem dX3_begin_61 : decode cX3_begin 61 = .ok (.putfield 60, 3) := dk_181 (a := 0) (b := 60) (by decide +kernel) rfl
theorem dX3_begin_64 : decode cX3_begin 64 = .ok (.aload_n 0, 1) := dk_42 (by decide +kernel)
theorem dX3_begin_65 : decode cX3_begin 65 = .ok (.iload_n 2, 1) := dk_28 (by decide +kernel)
theorem dX3_begin_66 : decode cX3_begin 66 = .ok (.putfield 64, 3) := dk_181 (a := 0) (b := 64) (by decide +kernel) rfl
theorem dX3_begin_69 : decode cX3_begin 69 = .ok (.aload_n 0, 1) := dk_42 (by decide +kernel)
theorem dX3_begin_70 : decode cX3_begin 70 = .ok (.iconst 0, 1) := dk_3 (by decide +kernel)
theorem dX3_begin_71 : decode cX3_begin 71 = .ok (.putfield 67, 3) := dk_181 (a := 0) (b := 67) (by decide +kernel) rfl
theorem dX3_begin_74 : decode cX3_begin 74 = .ok (.return_, 1) := dk_177 (by decide +kernel)
theorem dX3_hasEnded_0 : decode cX3_hasEnded 0 = .ok (.aload_n 0, 1) := dk_42 (by decide +kernel)
theorem dX3_hasEnded_1 : decode cX3_hasEnded 1 = .ok (.getfield 39, 3) := dk_180 (a := 0) (b := 39) (by decide +kernel) rfl
theorem dX3_hasEnded_4 : decode cX3_hasEnded 4 = .ok (.iload_n 1, 1) := dk_27 (by decide +kernel)
theorem dX3_hasEnded_5 : decode cX3_hasEnded 5 = .ok (.aload_n 0, 1) := dk_42 (by decide +kernel)
theorem dX3_hasEnded_6 : decode cX3_hasEnded 6 = .ok (.getfield 18, 3) := dk_180 (a := 0) (b := 18) (by decide +kernel) rfl
theorem dX3_hasEnded_9 : decode cX3_hasEnded 9 = .ok (.iload_n 1, 1) := dk_27 (by decide +kernel)
theorem dX3_hasEnded_10 : decode cX3_hasEnded 10 = .ok (.iaload, 1) := dk_46 (by decide +kernel)
theorem dX3_hasEnded_11 : decode cX3_hasEnded 11 = .ok (.invokevirtual 70, 3) := dk_182 (a := 0) (b := 70) (by decide +kernel) rfl
theorem dX3_hasEnded_14 : decode cX3_hasEnded 14 = .ok (.ifCond .ne 7, 3) := dk_154 (a := 0) (b := 7) (by decide +kernel) rfl
theorem dX3_hasEnded_17 : decode cX3_hasEnded 17 = .ok (.iconst 1, 1) := dk_4 (by decide +kernel)
theorem dX3_hasEnded_18 : decode cX3_hasEnded 18 = .ok (.goto 4, 3) := dk_167 (a := 0) (b := 4) (by decide +kernel) rfl
theorem dX3_hasEnded_21 : decode cX3_hasEnded 21 = .ok (.iconst 0, 1) := dk_3 (by decide +kernel)
theorem dX3_hasEnded_22 : decode cX3_hasEnded 22 = .ok (.ireturn, 1) := dk_172 (by decide +kernel)
theorem dX3_nextInstruction_0 : decode cX3_nextInstruction 0 = .ok (.aload_n 0, 1) := dk_42 (by decide +kernel)
theorem dX3_nextInstruction_1 : decode cX3_nextInstruction 1 = .ok (.iload_n 1, 1) := dk_27 (by decide +kernel)
theorem dX3_nextInstruction_2 : decode cX3_nextInstruction 2 = .ok (.invokevirtual 74, 3) := dk_182 (a := 0) (b := 74) (by decide +kernel) rfl
theorem dX3_nextInstruction_5 : decode cX3_nextInstruction 5 = .ok (.ifCond .eq 8, 3) := dk_153 (a := 0) (b := 8) (by decide +kernel) rfl
theorem dX3_nextInstruction_8 : decode cX3_nextInstruction 8 = .ok (.bipush 24, 2) := dk_16 (a := 24) (by decide +kernel) rfl
theorem dX3_nextInstruction_10 : decode cX3_nextInstruction 10 = .ok (.goto 9, 3) := dk_167 (a := 0) (b := 9) (by decide +kernel) rfl
theorem dX3_nextInstruction_13 : decode cX3_nextInstruction 13 = .ok (.aload_n 0, 1) := dk_42 (by decide +kernel)
theorem dX3_nextInstruction_14 : decode cX3_nextInstruction 14 = .ok (.getfield 18, 3) := dk_180 (a := 0) (b := 18) (by decide +kernel) rfl
theorem dX3_nextInstruction_17 : decode cX3_nextInstruction 17 = .ok (.iload_n 1, 1) := dk_27 (by decide +kernel)
theorem dX3_nextInstruction_18 : decode cX3_nextInstruction 18 = .ok (.iaload, 1) := dk_46 (by decide +kernel)
theorem dX3_nextInstruction_19 : decode cX3_nextInstruction 19 = .ok (.ireturn, 1) := dk_172 (by decide +kernel)
theorem dX3_canGo_0 : decode cX3_canGo 0 = .ok (.aload_n 0, 1) := dk_42 (by decide +kernel)
theorem dX3_canGo_1 : decode cX3_canGo 1 = .ok (.getfield 21, 3) := dk_180 (a := 0) (b := 21) (by decide +kernel) rfl
theorem dX3_canGo_4 : decode cX3_canGo 4 = .ok (.iload_n 1, 1) := dk_27 (by decide +kernel)
theorem dX3_canGo_5 : decode cX3_canGo 5 = .ok (.iaload, 1) := dk_46 (by decide +kernel)
theorem dX3_canGo_6 : decode cX3_canGo 6 = .ok (.ifCond .eq 21, 3) := dk_153 (a := 0) (b := 21) (by decide +kernel) rfl
theorem dX3_canGo_9 : decode cX3_canGo 9 = .ok (.aload_n 0, 1) := dk_42 (by decide +kernel)
theorem dX3_canGo_10 : decode cX3_canGo 10 = .ok (.getfield 21, 3) := dk_180 (a := 0) (b := 21) (by decide +kernel) rfl
theorem dX3_canGo_13 : decode cX3_canGo 13 = .ok (.iload_n 1, 1) := dk_27 (by decide +kernel)
theorem dX3_canGo_14 : decode cX3_canGo 14 = .ok (.iaload, 1) := dk_46 (by decide +kernel)
theorem dX3_canGo_15 : decode cX3_canGo 15 = .ok (.iconst 2, 1) := dk_5 (by decide +kernel)
theorem dX3_canGo_16 : decode cX3_canGo 16 = .ok (.if_icmp .eq 11, 3) := dk_159 (a := 0) (b := 11) (by decide +kernel) rfl
theorem dX3_canGo_19 : decode cX3_canGo 19 = .ok (.aload_n 0, 1) := dk_42 (by decide +kernel)
theorem dX3_canGo_20 : decode cX3_canGo 20 = .ok (.iload_n 1, 1) := dk_27 (by decide +kernel)
theorem dX3_canGo_21 : decode cX3_canGo 21 = .ok (.invokevirtual 74, 3) := dk_182 (a := 0) (b := 74) (by decide +kernel) rfl
theorem dX3_canGo_24 : decode cX3_canGo 24 = .ok (.ifCond .eq 5, 3) := dk_153 (a := 0) (b := 5) (by decide +kernel) rfl
theorem dX3_canGo_27 : decode cX3_canGo 27 = .ok (.iconst 0, 1) := dk_3 (by decide +kernel)
theorem dX3_canGo_28 : decode cX3_canGo 28 = .ok (.ireturn, 1) := dk_172 (by decide +kernel)
theorem dX3_canGo_29 : decode cX3_canGo 29 = .ok (.aload_n 0, 1) := dk_42 (by decide +kernel)
theorem dX3_canGo_30 : decode cX3_canGo 30 = .ok (.getfield 21, 3) := dk_180 (a := 0) (b := 21) (by decide +kernel) rfl
theorem dX3_canGo_33 : decode cX3_canGo 33 = .ok (.iload_n 1, 1) := dk_27 (by decide +kernel)
theorem dX3_canGo_34 : decode cX3_canGo 34 = .ok (.iaload, 1) := dk_46 (by decide +kernel)
theorem dX3_canGo_35 : decode cX3_canGo 35 = .ok (.iconst 3, 1) := dk_6 (by decide +kernel)
theorem dX3_canGo_36 : decode cX3_canGo 36 = .ok (.if_icmp .ne 25, 3) := dk_160 (a := 0) (b := 25) (by decide +kernel) rfl
theorem dX3_canGo_39 : decode cX3_canGo 39 = .ok (.aload_n 0, 1) := dk_42 (by decide +kernel)
theorem dX3_canGo_40 : decode cX3_canGo 40 = .ok (.getfield 33, 3) := dk_180 (a := 0) (b := 33) (by decide +kernel) rfl
theorem dX3_canGo_43 : decode cX3_canGo 43 = .ok (.aload_n 0, 1) := dk_42 (by decide +kernel)
theorem dX3_canGo_44 : decode cX3_canGo 44 = .ok (.getfield 24, 3) := dk_180 (a := 0) (b := 24) (by decide +kernel) rfl
theorem dX3_canGo_47 : decode cX3_canGo 47 = .ok (.iload_n 1, 1) := dk_27 (by decide +kernel)
theorem dX3_canGo_48 : decode cX3_canGo 48 = .ok (.iaload, 1) := dk_46 (by decide +kernel)
theorem dX3_canGo_49 : decode cX3_canGo 49 = .ok (.iaload, 1) := dk_46 (by decide +kernel)
theorem dX3_canGo_50 : decode cX3_canGo 50 = .ok (.bipush (-2), 2) := dk_16 (a := 254) (by decide +kernel) rfl
theorem dX3_canGo_52 : decode cX3_canGo 52 = .ok (.if_icmp .ne 7, 3) := dk_160 (a := 0) (b := 7) (by decide +kernel) rfl
theorem dX3_canGo_55 : decode cX3_canGo 55 = .ok (.iconst 1, 1) := dk_4 (by decide +kernel)
theorem dX3_canGo_56 : decode cX3_canGo 56 = .ok (.goto 4, 3) := dk_167 (a := 0) (b := 4) (by decide +kernel) rfl
theorem dX3_canGo_59 : decode cX3_canGo 59 = .ok (.iconst 0, 1) := dk_3 (by decide +kernel)
theorem dX3_canGo_60 : decode cX3_canGo 60 = .ok (.ireturn, 1) := dk_172 (by decide +kernel)
theorem dX3_canGo_61 : decode cX3_canGo 61 = .ok (.aload_n 0, 1) := dk_42 (by decide +kernel)
theorem dX3_canGo_62 : decode cX3_canGo 62 = .ok (.getfield 39, 3) := dk_180 (a := 0) (b := 39) (by decide +kernel) rfl
theorem dX3_canGo_65 : decode cX3_canGo 65 = .ok (.iload_n 1, 1) := dk_27 (by decide +kernel)
theorem dX3_canGo_66 : decode cX3_canGo 66 = .ok (.aload_n 0, 1) := dk_42 (by decide +kernel)
theorem dX3_canGo_67 : decode cX3_canGo 67 = .ok (.getfield 18, 3) := dk_180 (a := 0) (b := 18) (by decide +kernel) rfl
theorem dX3_canGo_70 : decode cX3_canGo 70 = .ok (.iload_n 1, 1) := dk_27 (by decide +kernel)
theorem dX3_canGo_71 : decode cX3_canGo 71 = .ok (.iaload, 1) := dk_46 (by decide +kernel)
theorem dX3_canGo_72 : decode cX3_canGo 72 = .ok (.invokevirtual 78, 3) := dk_182 (a := 0) (b := 78) (by decide +kernel) rfl
theorem dX3_canGo_75 : decode cX3_canGo 75 = .ok (.istore_n 2, 1) := dk_61 (by decide +kernel)
theorem dX3_canGo_76 : decode cX3_canGo 76 = .ok (.aload_n 0, 1) := dk_42 (by decide +kernel)
theorem dX3_canGo_77 : decode cX3_canGo 77 = .ok (.getfield 39, 3) := dk_180 (a := 0) (b := 39) (by decide +kernel) rfl
theorem dX3_canGo_80 : decode cX3_canGo 80 = .ok (.getfield 82, 3) := dk_180 (a := 0) (b := 82) (by decide +kernel) rfl
theorem dX3_canGo_83 : decode cX3_canGo 83 = .ok (.iload_n 2, 1) := dk_28 (by decide +kernel)
theorem dX3_canGo_84 : decode cX3_canGo 84 = .ok (.iaload, 1) := dk_46 (by decide +kernel)
theorem dX3_canGo_85 : decode cX3_canGo 85 = .ok (.bipush 12, 2) := dk_16 (a := 12) (by decide +kernel) rfl
theorem dX3_canGo_87 : decode cX3_canGo 87 = .ok (.if_icmp .eq 5, 3) := dk_159 (a := 0) (b := 5) (by decide +kernel) rfl
theorem dX3_canGo_90 : decode cX3_canGo 90 = .ok (.iconst 1, 1) := dk_4 (by decide +kernel)
theorem dX3_canGo_91 : decode cX3_canGo 91 = .ok (.ireturn, 1) := dk_172 (by decide +kernel)
theorem dX3_canGo_92 : decode cX3_canGo 92 = .ok (.aload_n 0, 1) := dk_42 (by decide +kernel)
theorem dX3_canGo_93 : decode cX3_canGo 93 = .ok (.iload_n 1, 1) := dk_27 (by decide +kernel)
theorem dX3_canGo_94 : decode cX3_canGo 94 = .ok (.aload_n 0, 1) := dk_42 (by decide +kernel)
theorem dX3_canGo_95 : decode cX3_canGo 95 = .ok (.getfield 39, 3) := dk_180 (a := 0) (b := 39) (by decide +kernel) rfl
theorem dX3_canGo_98 : decode cX3_canGo 98 = .ok (.getfield 82, 3) := dk_180 (a := 0) (b := 82) (by decide +kernel) rfl
theorem dX3_canGo_101 : decode cX3_canGo 101 = .ok (.iload_n 2, 1) := dk_28 (by decide +kernel)
theorem dX3_canGo_102 : decode cX3_canGo 102 = .ok (.iconst 1, 1) := dk_4 (by decide +kernel)
theorem dX3_canGo_103 : decode cX3_canGo 103 = .ok (.iadd, 1) := dk_96 (by decide +kernel)
theorem dX3_canGo_104 : decode cX3_canGo 104 = .ok (.iaload, 1) := dk_46 (by decide +kernel)
theorem dX3_canGo_105 : decode cX3_canGo 105 = .ok (.invokestatic 85, 3) := dk_184 (a := 0) (b := 85) (by decide +kernel) rfl
theorem dX3_canGo_108 : decode cX3_canGo 108 = .ok (.invokevirtual 88, 3) := dk_182 (a := 0) (b := 88) (by decide +kernel) rfl
theorem dX3_canGo_111 : decode cX3_canGo 111 = .ok (.istore_n 3, 1) := dk_62 (by decide +kernel)
theorem dX3_canGo_112 : decode cX3_canGo 112 = .ok (.iload_n 3, 1) := dk_29 (by decide +kernel)
theorem dX3_canGo_113 : decode cX3_canGo 113 = .ok (.ifCond .lt 24, 3) := dk_155 (a := 0) (b := 24) (by decide +kernel) rfl
theorem dX3_canGo_116 : decode cX3_canGo 116 = .ok (.aload_n 0, 1) := dk_42 (by decide +kernel)
theorem dX3_canGo_117 : decode cX3_canGo 117 = .ok (.getfield 33, 3) := dk_180 (a := 0) (b := 33) (by decide +kernel) rfl
theorem dX3_canGo_120 : decode cX3_canGo 120 = .ok (.iload_n 3, 1) := dk_29 (by decide +kernel)
theorem dX3_canGo_121 : decode cX3_canGo 121 = .ok (.iaload, 1) := dk_46 (by decide +kernel)
theorem dX3_canGo_122 : decode cX3_canGo 122 = .ok (.bipush (-2), 2) := dk_16 (a := 254) (by decide +kernel) rfl
theorem dX3_canGo_124 : decode cX3_canGo 124 = .ok (.if_icmp .eq 13, 3) := dk_159 (a := 0) (b := 13) (by decide +kernel) rfl
theorem dX3_canGo_127 : decode cX3_canGo 127 = .ok (.aload_n 0, 1) := dk_42 (by decide +kernel)
theorem dX3_canGo_128 : decode cX3_canGo 128 = .ok (.getfield 33, 3) := dk_180 (a := 0) (b := 33) (by decide +kernel) rfl
theorem dX3_canGo_131 : decode cX3_canGo 131 = .ok (.iload_n 3, 1) := dk_29 (by decide +kernel)
theorem dX3_canGo_132 : decode cX3_canGo 132 = .ok (.iaload, 1) := dk_46 (by decide +kernel)
theorem dX3_canGo_133 : decode cX3_canGo 133 = .ok (.iload_n 1, 1) := dk_27 (by decide +kernel)
theorem dX3_canGo_134 : decode cX3_canGo 134 = .ok (.if_icmp .ne 7, 3) := dk_160 (a := 0) (b := 7) (by decide +kernel) rfl
theorem dX3_canGo_137 : decode cX3_canGo 137 = .ok (.iconst 1, 1) := dk_4 (by decide +kernel)
theorem dX3_canGo_138 : decode cX3_canGo 138 = .ok (.goto 4, 3) := dk_167 (a := 0) (b := 4) (by decide +kernel) rfl
theorem dX3_canGo_141 : decode cX3_canGo 141 = .ok (.iconst 0, 1) := dk_3 (by decide +kernel)
theorem dX3_canGo_142 : decode cX3_canGo 142 = .ok (.ireturn, 1) := dk_172 (by decide +kernel)
theorem dX3_whoGoes_0 : decode cX3_whoGoes 0 = .ok (.iload_n 1, 1) := dk_27 (by decide +kernel)
theorem dX3_whoGoes_1 : decode cX3_whoGoes 1 = .ok (.ifCond .lt 18, 3) := dk_155 (a := 0) (b := 18) (by decide +kernel) rfl
theorem dX3_whoGoes_4 : decode cX3_whoGoes 4 = .ok (.iload_n 1, 1) := dk_27 (by decide +kernel)
theorem dX3_whoGoes_5 : decode cX3_whoGoes 5 = .ok (.iconst 4, 1) := dk_7 (by decide +kernel)
theorem dX3_whoGoes_6 : decode cX3_whoGoes 6 = .ok (.if_icmp .ge 13, 3) := dk_162 (a := 0) (b := 13) (by decide +kernel) rfl
theorem dX3_whoGoes_9 : decode cX3_whoGoes 9 = .ok (.aload_n 0, 1) := dk_42 (by decide +kernel)
theorem dX3_whoGoes_10 : decode cX3_whoGoes 10 = .ok (.iload_n 1, 1) := dk_27 (by decide +kernel)
theorem dX3_whoGoes_11 : decode cX3_whoGoes 11 = .ok (.invokevirtual 92, 3) := dk_182 (a := 0) (b := 92) (by decide +kernel) rfl
theorem dX3_whoGoes_14 : decode cX3_whoGoes 14 = .ok (.ifCond .eq 5, 3) := dk_153 (a := 0) (b := 5) (by decide +kernel) rfl
theorem dX3_whoGoes_17 : decode cX3_whoGoes 17 = .ok (.iload_n 1, 1) := dk_27 (by decide +kernel)
theorem dX3_whoGoes_18 : decode cX3_whoGoes 18 = .ok (.ireturn, 1) := dk_172 (by decide +kernel)
theorem dX3_whoGoes_19 : decode cX3_whoGoes 19 = .ok (.iconst 0, 1) := dk_3 (by decide +kernel)
theorem dX3_whoGoes_20 : decode cX3_whoGoes 20 = .ok (.istore_n 2, 1) := dk_61 (by decide +kernel)
theorem dX3_whoGoes_21 : decode cX3_whoGoes 21 = .ok (.iload_n 2, 1) := dk_28 (by decide +kernel)
theorem dX3_whoGoes_22 : decode cX3_whoGoes 22 = .ok (.iconst 4, 1) := dk_7 (by decide +kernel)
theorem dX3_whoGoes_23 : decode cX3_whoGoes 23 = .ok (.if_icmp .ge 19, 3) := dk_162 (a := 0) (b := 19) (by decide +kernel) rfl
theorem dX3_whoGoes_26 : decode cX3_whoGoes 26 = .ok (.aload_n 0, 1) := dk_42 (by decide +kernel)
theorem dX3_whoGoes_27 : decode cX3_whoGoes 27 = .ok (.iload_n 2, 1) := dk_28 (by decide +kernel)
theorem dX3_whoGoes_28 : decode cX3_whoGoes 28 = .ok (.invokevirtual 92, 3) := dk_182 (a := 0) (b := 92) (by decide +kernel) rfl
theorem dX3_whoGoes_31 : decode cX3_whoGoes 31 = .ok (.ifCond .eq 5, 3) := dk_153 (a := 0) (b := 5) (by decide +kernel) rfl
theorem dX3_whoGoes_34 : decode cX3_whoGoes 34 = .ok (.iload_n 2, 1) := dk_28 (by decide +kernel)
theorem dX3_whoGoes_35 : decode cX3_whoGoes 35 = .ok (.ireturn, 1) := dk_172 (by decide +kernel)
theorem dX3_whoGoes_36 : decode cX3_whoGoes 36 = .ok (.iinc 2 1, 3) := dk_132 (b := 1) (by decide +kernel) rfl
theorem dX3_whoGoes_39 : decode cX3_whoGoes 39 = .ok (.goto (-18), 3) := dk_167 (a := 255) (b := 238) (by decide +kernel) rfl
theorem dX3_whoGoes_42 : decode cX3_whoGoes 42 = .ok (.iconst (-1), 1) := dk_2 (by decide +kernel)
theorem dX3_whoGoes_43 : decode cX3_whoGoes 43 = .ok (.ireturn, 1) := dk_172 (by decide +kernel)
theorem dX3_rivalsOf_0 : decode cX3_rivalsOf 0 = .ok (.iconst 0, 1) := dk_3 (by decide +kernel)
theorem dX3_rivalsOf_1 : decode cX3_rivalsOf 1 = .ok (.istore_n 2, 1) := dk_61 (by decide +kernel)
theorem dX3_rivalsOf_2 : decode cX3_rivalsOf 2 = .ok (.iconst 0, 1) := dk_3 (by decide +kernel)
theorem dX3_rivalsOf_3 : decode cX3_rivalsOf 3 = .ok (.istore_n 3, 1) := dk_62 (by decide +kernel)
theorem dX3_rivalsOf_4 : decode cX3_rivalsOf 4 = .ok (.iload_n 3, 1) := dk_29 (by decide +kernel)
theorem dX3_rivalsOf_5 : decode cX3_rivalsOf 5 = .ok (.iconst 4, 1) := dk_7 (by decide +kernel)
theorem dX3_rivalsOf_6 : decode cX3_rivalsOf 6 = .ok (.if_icmp .ge 28, 3) := dk_162 (a := 0) (b := 28) (by decide +kernel) rfl
theorem dX3_rivalsOf_9 : decode cX3_rivalsOf 9 = .ok (.iload_n 3, 1) := dk_29 (by decide +kernel)
theorem dX3_rivalsOf_10 : decode cX3_rivalsOf 10 = .ok (.iload_n 1, 1) := dk_27 (by decide +kernel)
theorem dX3_rivalsOf_11 : decode cX3_rivalsOf 11 = .ok (.if_icmp .eq 17, 3) := dk_159 (a := 0) (b := 17) (by decide +kernel) rfl
theorem dX3_rivalsOf_14 : decode cX3_rivalsOf 14 = .ok (.aload_n 0, 1) := dk_42 (by decide +kernel)
theorem dX3_rivalsOf_15 : decode cX3_rivalsOf 15 = .ok (.iload_n 3, 1) := dk_29 (by decide +kernel)
theorem dX3_rivalsOf_16 : decode cX3_rivalsOf 16 = .ok (.invokevirtual 92, 3) := dk_182 (a := 0) (b := 92) (by decide +kernel) rfl
theorem dX3_rivalsOf_19 : decode cX3_rivalsOf 19 = .ok (.ifCond .eq 9, 3) := dk_153 (a := 0) (b := 9) (by decide +kernel) rfl
theorem dX3_rivalsOf_22 : decode cX3_rivalsOf 22 = .ok (.iload_n 2, 1) := dk_28 (by decide +kernel)
theorem dX3_rivalsOf_23 : decode cX3_rivalsOf 23 = .ok (.iconst 1, 1) := dk_4 (by decide +kernel)
theorem dX3_rivalsOf_24 : decode cX3_rivalsOf 24 = .ok (.iload_n 3, 1) := dk_29 (by decide +kernel)
theorem dX3_rivalsOf_25 : decode cX3_rivalsOf 25 = .ok (.ishl, 1) := by decide +kernel
theorem dX3_rivalsOf_26 : decode cX3_rivalsOf 26 = .ok (.ior, 1) := by decide +kernel
theorem dX3_rivalsOf_27 : decode cX3_rivalsOf 27 = .ok (.istore_n 2, 1) := dk_61 (by decide +kernel)
theorem dX3_rivalsOf_28 : decode cX3_rivalsOf 28 = .ok (.iinc 3 1, 3) := dk_132 (b := 1) (by decide +kernel) rfl
theorem dX3_rivalsOf_31 : decode cX3_rivalsOf 31 = .ok (.goto (-27), 3) := dk_167 (a := 255) (b := 229) (by decide +kernel) rfl
theorem dX3_rivalsOf_34 : decode cX3_rivalsOf 34 = .ok (.iload_n 2, 1) := dk_28 (by decide +kernel)
theorem dX3_rivalsOf_35 : decode cX3_rivalsOf 35 = .ok (.ireturn, 1) := dk_172 (by decide +kernel)
theorem dX3_allStartedHaveEnded_0 : decode cX3_allStartedHaveEnded 0 = .ok (.iconst 0, 1) := dk_3 (by decide +kernel)
theorem dX3_allStartedHaveEnded_1 : decode cX3_allStartedHaveEnded 1 = .ok (.istore_n 1, 1) := dk_60 (by decide +kernel)
theorem dX3_allStartedHaveEnded_2 : decode cX3_allStartedHaveEnded 2 = .ok (.iload_n 1, 1) := dk_27 (by decide +kernel)
theorem dX3_allStartedHaveEnded_3 : decode cX3_allStartedHaveEnded 3 = .ok (.iconst 4, 1) := dk_7 (by decide +kernel)
theorem dX3_allStartedHaveEnded_4 : decode cX3_allStartedHaveEnded 4 = .ok (.if_icmp .ge 28, 3) := dk_162 (a := 0) (b := 28) (by decide +kernel) rfl
theorem dX3_allStartedHaveEnded_7 : decode cX3_allStartedHaveEnded 7 = .ok (.aload_n 0, 1) := dk_42 (by decide +kernel)
theorem dX3_allStartedHaveEnded_8 : decode cX3_allStartedHaveEnded 8 = .ok (.getfield 21, 3) := dk_180 (a := 0) (b := 21) (by decide +kernel) rfl
theorem dX3_allStartedHaveEnded_11 : decode cX3_allStartedHaveEnded 11 = .ok (.iload_n 1, 1) := dk_27 (by decide +kernel)
theorem dX3_allStartedHaveEnded_12 : decode cX3_allStartedHaveEnded 12 = .ok (.iaload, 1) := dk_46 (by decide +kernel)
theorem dX3_allStartedHaveEnded_13 : decode cX3_allStartedHaveEnded 13 = .ok (.ifCond .eq 13, 3) := dk_153 (a := 0) (b := 13) (by decide +kernel) rfl
theorem dX3_allStartedHaveEnded_16 : decode cX3_allStartedHaveEnded 16 = .ok (.aload_n 0, 1) := dk_42 (by decide +kernel)
theorem dX3_allStartedHaveEnded_17 : decode cX3_allStartedHaveEnded 17 = .ok (.iload_n 1, 1) := dk_27 (by decide +kernel)
theorem dX3_allStartedHaveEnded_18 : decode cX3_allStartedHaveEnded 18 = .ok (.invokevirtual 74, 3) := dk_182 (a := 0) (b := 74) (by decide +kernel) rfl
theorem dX3_allStartedHaveEnded_21 : decode cX3_allStartedHaveEnded 21 = .ok (.ifCond .ne 5, 3) := dk_154 (a := 0) (b := 5) (by decide +kernel) rfl
theorem dX3_allStartedHaveEnded_24 : decode cX3_allStartedHaveEnded 24 = .ok (.iconst 0, 1) := dk_3 (by decide +kernel)
theorem dX3_allStartedHaveEnded_25 : decode cX3_allStartedHaveEnded 25 = .ok (.ireturn, 1) := dk_172 (by decide +kernel)
theorem dX3_allStartedHaveEnded_26 : decode cX3_allStartedHaveEnded 26 = .ok (.iinc 1 1, 3) := dk_132 (b := 1) (by decide +kernel) rfl
theorem dX3_allStartedHaveEnded_29 : decode cX3_allStartedHaveEnded 29 = .ok (.goto (-27), 3) := dk_167 (a := 255) (b := 229) (by decide +kernel) rfl
theorem dX3_allStartedHaveEnded_32 : decode cX3_allStartedHaveEnded 32 = .ok (.iconst 1, 1) := dk_4 (by decide +kernel)
theorem dX3_allStartedHaveEnded_33 : decode cX3_allStartedHaveEnded 33 = .ok (.ireturn, 1) := dk_172 (by decide +kernel)
theorem dX3_standing_0 : decode cX3_standing 0 = .ok (.aload_n 0, 1) := dk_42 (by decide +kernel)
theorem dX3_standing_1 : decode cX3_standing 1 = .ok (.getfield 21, 3) := dk_180 (a := 0) (b := 21) (by decide +kernel) rfl
theorem dX3_standing_4 : decode cX3_standing 4 = .ok (.iload_n 1, 1) := dk_27 (by decide +kernel)
theorem dX3_standing_5 : decode cX3_standing 5 = .ok (.iaload, 1) := dk_46 (by decide +kernel)
theorem dX3_standing_6 : decode cX3_standing 6 = .ok (.ifCond .ne 5, 3) := dk_154 (a := 0) (b := 5) (by decide +kernel) rfl
theorem dX3_standing_9 : decode cX3_standing 9 = .ok (.iconst 0, 1) := dk_3 (by decide +kernel)
theorem dX3_standing_10 : decode cX3_standing 10 = .ok (.ireturn, 1) := dk_172 (by decide +kernel)
theorem dX3_standing_11 : decode cX3_standing 11 = .ok (.aload_n 0, 1) := dk_42 (by decide +kernel)
theorem dX3_standing_12 : decode cX3_standing 12 = .ok (.getfield 21, 3) := dk_180 (a := 0) (b := 21) (by decide +kernel) rfl
theorem dX3_standing_15 : decode cX3_standing 15 = .ok (.iload_n 1, 1) := dk_27 (by decide +kernel)
theorem dX3_standing_16 : decode cX3_standing 16 = .ok (.iaload, 1) := dk_46 (by decide +kernel)
theorem dX3_standing_17 : decode cX3_standing 17 = .ok (.iconst 2, 1) := dk_5 (by decide +kernel)
theorem dX3_standing_18 : decode cX3_standing 18 = .ok (.if_icmp .ne 5, 3) := dk_160 (a := 0) (b := 5) (by decide +kernel) rfl
theorem dX3_standing_21 : decode cX3_standing 21 = .ok (.iconst 3, 1) := dk_6 (by decide +kernel)
theorem dX3_standing_22 : decode cX3_standing 22 = .ok (.ireturn, 1) := dk_172 (by decide +kernel)
theorem dX3_standing_23 : decode cX3_standing 23 = .ok (.aload_n 0, 1) := dk_42 (by decide +kernel)
theorem dX3_standing_24 : decode cX3_standing 24 = .ok (.iload_n 1, 1) := dk_27 (by decide +kernel)
theorem dX3_standing_25 : decode cX3_standing 25 = .ok (.invokevirtual 74, 3) := dk_182 (a := 0) (b := 74) (by decide +kernel) rfl
theorem dX3_standing_28 : decode cX3_standing 28 = .ok (.ifCond .eq 5, 3) := dk_153 (a := 0) (b := 5) (by decide +kernel) rfl
theorem dX3_standing_31 : decode cX3_standing 31 = .ok (.iconst 4, 1) := dk_7 (by decide +kernel)
theorem dX3_standing_32 : decode cX3_standing 32 = .ok (.ireturn, 1) := dk_172 (by decide +kernel)
theorem dX3_standing_33 : decode cX3_standing 33 = .ok (.aload_n 0, 1) := dk_42 (by decide +kernel)
theorem dX3_standing_34 : decode cX3_standing 34 = .ok (.iload_n 1, 1) := dk_27 (by decide +kernel)
theorem dX3_standing_35 : decode cX3_standing 35 = .ok (.invokevirtual 92, 3) := dk_182 (a := 0) (b := 92) (by decide +kernel) rfl
theorem dX3_standing_38 : decode cX3_standing 38 = .ok (.ifCond .eq 7, 3) := dk_153 (a := 0) (b := 7) (by decide +kernel) rfl
theorem dX3_standing_41 : decode cX3_standing 41 = .ok (.iconst 1, 1) := dk_4 (by decide +kernel)
theorem dX3_standing_42 : decode cX3_standing 42 = .ok (.goto 4, 3) := dk_167 (a := 0) (b := 4) (by decide +kernel) rfl
theorem dX3_standing_45 : decode cX3_standing 45 = .ok (.iconst 2, 1) := dk_5 (by decide +kernel)
theorem dX3_standing_46 : decode cX3_standing 46 = .ok (.ireturn, 1) := dk_172 (by decide +kernel)
theorem dX3_hasThing_0 : decode cX3_hasThing 0 = .ok (.iload_n 1, 1) := dk_27 (by decide +kernel)
theorem dX3_hasThing_1 : decode cX3_hasThing 1 = .ok (.ifCond .lt 15, 3) := dk_155 (a := 0) (b := 15) (by decide +kernel) rfl
theorem dX3_hasThing_4 : decode cX3_hasThing 4 = .ok (.iload_n 1, 1) := dk_27 (by decide +kernel)
theorem dX3_hasThing_5 : decode cX3_hasThing 5 = .ok (.aload_n 0, 1) := dk_42 (by decide +kernel)
theorem dX3_hasThing_6 : decode cX3_hasThing 6 = .ok (.getfield 60, 3) := dk_180 (a := 0) (b := 60) (by decide +kernel) rfl
theorem dX3_hasThing_9 : decode cX3_hasThing 9 = .ok (.if_icmp .ge 7, 3) := dk_162 (a := 0) (b := 7) (by decide +kernel) rfl
theorem dX3_hasThing_12 : decode cX3_hasThing 12 = .ok (.iconst 1, 1) := dk_4 (by decide +kernel)
theorem dX3_hasThing_13 : decode cX3_hasThing 13 = .ok (.goto 4, 3) := dk_167 (a := 0) (b := 4) (by decide +kernel) rfl
theorem dX3_hasThing_16 : decode cX3_hasThing 16 = .ok (.iconst 0, 1) := dk_3 (by decide +kernel)
theorem dX3_hasThing_17 : decode cX3_hasThing 17 = .ok (.ireturn, 1) := dk_172 (by decide +kernel)
theorem dX3_hasRowPlace_0 : decode cX3_hasRowPlace 0 = .ok (.iload_n 1, 1) := dk_27 (by decide +kernel)
theorem dX3_hasRowPlace_1 : decode cX3_hasRowPlace 1 = .ok (.ifCond .lt 39, 3) := dk_155 (a := 0) (b := 39) (by decide +kernel) rfl
theorem dX3_hasRowPlace_4 : decode cX3_hasRowPlace 4 = .ok (.iload_n 1, 1) := dk_27 (by decide +kernel)
theorem dX3_hasRowPlace_5 : decode cX3_hasRowPlace 5 = .ok (.aload_n 0, 1) := dk_42 (by decide +kernel)
theorem dX3_hasRowPlace_6 : decode cX3_hasRowPlace 6 = .ok (.getfield 60, 3) := dk_180 (a := 0) (b := 60) (by decide +kernel) rfl
theorem dX3_hasRowPlace_9 : decode cX3_hasRowPlace 9 = .ok (.if_icmp .ge 31, 3) := dk_162 (a := 0) (b := 31) (by decide +kernel) rfl
theorem dX3_hasRowPlace_12 : decode cX3_hasRowPlace 12 = .ok (.aload_n 0, 1) := dk_42 (by decide +kernel)
theorem dX3_hasRowPlace_13 : decode cX3_hasRowPlace 13 = .ok (.getfield 27, 3) := dk_180 (a := 0) (b := 27) (by decide +kernel) rfl
theorem dX3_hasRowPlace_16 : decode cX3_hasRowPlace 16 = .ok (.iload_n 1, 1) := dk_27 (by decide +kernel)
theorem dX3_hasRowPlace_17 : decode cX3_hasRowPlace 17 = .ok (.iaload, 1) := dk_46 (by decide +kernel)
theorem dX3_hasRowPlace_18 : decode cX3_hasRowPlace 18 = .ok (.iconst 1, 1) := dk_4 (by decide +kernel)
theorem dX3_hasRowPlace_19 : decode cX3_hasRowPlace 19 = .ok (.if_icmp .ne 21, 3) := dk_160 (a := 0) (b := 21) (by decide +kernel) rfl
theorem dX3_hasRowPlace_22 : decode cX3_hasRowPlace 22 = .ok (.iload_n 2, 1) := dk_28 (by decide +kernel)
theorem dX3_hasRowPlace_23 : decode cX3_hasRowPlace 23 = .ok (.ifCond .lt 17, 3) := dk_155 (a := 0) (b := 17) (by decide +kernel) rfl
theorem dX3_hasRowPlace_26 : decode cX3_hasRowPlace 26 = .ok (.iload_n 2, 1) := dk_28 (by decide +kernel)
theorem dX3_hasRowPlace_27 : decode cX3_hasRowPlace 27 = .ok (.aload_n 0, 1) := dk_42 (by decide +kernel)
theorem dX3_hasRowPlace_28 : decode cX3_hasRowPlace 28 = .ok (.getfield 30, 3) := dk_180 (a := 0) (b := 30) (by decide +kernel) rfl
theorem dX3_hasRowPlace_31 : decode cX3_hasRowPlace 31 = .ok (.iload_n 1, 1) := dk_27 (by decide +kernel)
theorem dX3_hasRowPlace_32 : decode cX3_hasRowPlace 32 = .ok (.iaload, 1) := dk_46 (by decide +kernel)
theorem dX3_hasRowPlace_33 : decode cX3_hasRowPlace 33 = .ok (.if_icmp .ge 7, 3) := dk_162 (a := 0) (b := 7) (by decide +kernel) rfl
theorem dX3_hasRowPlace_36 : decode cX3_hasRowPlace 36 = .ok (.iconst 1, 1) := dk_4 (by decide +kernel)
theorem dX3_hasRowPlace_37 : decode cX3_hasRowPlace 37 = .ok (.goto 4, 3) := dk_167 (a := 0) (b := 4) (by decide +kernel) rfl
theorem dX3_hasRowPlace_40 : decode cX3_hasRowPlace 40 = .ok (.iconst 0, 1) := dk_3 (by decide +kernel)
theorem dX3_hasRowPlace_41 : decode cX3_hasRowPlace 41 = .ok (.ireturn, 1) := dk_172 (by decide +kernel)
theorem dX3_differences_0 : decode cX3_differences 0 = .ok (.iconst 0, 1) := dk_3 (by decide +kernel)
theorem dX3_differences_1 : decode cX3_differences 1 = .ok (.istore_n 2, 1) := dk_61 (by decide +kernel)
theorem dX3_differences_2 : decode cX3_differences 2 = .ok (.iconst 0, 1) := dk_3 (by decide +kernel)
theorem dX3_differences_3 : decode cX3_differences 3 = .ok (.istore_n 3, 1) := dk_62 (by decide +kernel)
theorem dX3_differences_4 : decode cX3_differences 4 = .ok (.iload_n 3, 1) := dk_29 (by decide +kernel)
theorem dX3_differences_5 : decode cX3_differences 5 = .ok (.bipush 28, 2) := dk_16 (a := 28) (by decide +kernel) rfl
theorem dX3_differences_7 : decode cX3_differences 7 = .ok (.if_icmp .ge 42, 3) := dk_162 (a := 0) (b := 42) (by decide +kernel) rfl
theorem dX3_differences_10 : decode cX3_differences 10 = .ok (.aload_n 0, 1) := dk_42 (by decide +kernel)
theorem dX3_differences_11 : decode cX3_differences 11 = .ok (.getfield 9, 3) := dk_180 (a := 0) (b := 9) (by decide +kernel) rfl
theorem dX3_differences_14 : decode cX3_differences 14 = .ok (.iload_n 3, 1) := dk_29 (by decide +kernel)
theorem dX3_differences_15 : decode cX3_differences 15 = .ok (.iaload, 1) := dk_46 (by decide +kernel)
theorem dX3_differences_16 : decode cX3_differences 16 = .ok (.aload_n 1, 1) := dk_43 (by decide +kernel)
theorem dX3_differences_17 : decode cX3_differences 17 = .ok (.getfield 9, 3) := dk_180 (a := 0) (b := 9) (by decide +kernel) rfl
theorem dX3_differences_20 : decode cX3_differences 20 = .ok (.iload_n 3, 1) := dk_29 (by decide +kernel)
theorem dX3_differences_21 : decode cX3_differences 21 = .ok (.iaload, 1) := dk_46 (by decide +kernel)
theorem dX3_differences_22 : decode cX3_differences 22 = .ok (.if_icmp .ne 18, 3) := dk_160 (a := 0) (b := 18) (by decide +kernel) rfl
theorem dX3_differences_25 : decode cX3_differences 25 = .ok (.aload_n 0, 1) := dk_42 (by decide +kernel)
theorem dX3_differences_26 : decode cX3_differences 26 = .ok (.getfield 15, 3) := dk_180 (a := 0) (b := 15) (by decide +kernel) rfl
theorem dX3_differences_29 : decode cX3_differences 29 = .ok (.iload_n 3, 1) := dk_29 (by decide +kernel)
theorem dX3_differences_30 : decode cX3_differences 30 = .ok (.iaload, 1) := dk_46 (by decide +kernel)
theorem dX3_differences_31 : decode cX3_differences 31 = .ok (.aload_n 1, 1) := dk_43 (by decide +kernel)
theorem dX3_differences_32 : decode cX3_differences 32 = .ok (.getfield 15, 3) := dk_180 (a := 0) (b := 15) (by decide +kernel) rfl
theorem dX3_differences_35 : decode cX3_differences 35 = .ok (.iload_n 3, 1) := dk_29 (by decide +kernel)
theorem dX3_differences_36 : decode cX3_differences 36 = .ok (.iaload, 1) := dk_46 (by decide +kernel)
theorem dX3_differences_37 : decode cX3_differences 37 = .ok (.if_icmp .eq 6, 3) := dk_159 (a := 0) (b := 6) (by decide +kernel) rfl
theorem dX3_differences_40 : decode cX3_differences 40 = .ok (.iinc 2 1, 3) := dk_132 (b := 1) (by decide +kernel) rfl
theorem dX3_differences_43 : decode cX3_differences 43 = .ok (.iinc 3 1, 3) := dk_132 (b := 1) (by decide +kernel) rfl
theorem dX3_differences_46 : decode cX3_differences 46 = .ok (.goto (-42), 3) := dk_167 (a := 255) (b := 214) (by decide +kernel) rfl
theorem dX3_differences_49 : decode cX3_differences 49 = .ok (.iconst 0, 1) := dk_3 (by decide +kernel)
theorem dX3_differences_50 : decode cX3_differences 50 = .ok (.istore_n 3, 1) := dk_62 (by decide +kernel)
theorem dX3_differences_51 : decode cX3_differences 51 = .ok (.iload_n 3, 1) := dk_29 (by decide +kernel)
theorem dX3_differences_52 : decode cX3_differences 52 = .ok (.iconst 4, 1) := dk_7 (by decide +kernel)
theorem dX3_differences_53 : decode cX3_differences 53 = .ok (.if_icmp .ge 25, 3) := dk_162 (a := 0) (b := 25) (by decide +kernel) rfl
theorem dX3_differences_56 : decode cX3_differences 56 = .ok (.aload_n 0, 1) := dk_42 (by decide +kernel)
theorem dX3_differences_57 : decode cX3_differences 57 = .ok (.iload_n 3, 1) := dk_29 (by decide +kernel)
theorem dX3_differences_58 : decode cX3_differences 58 = .ok (.invokevirtual 111, 3) := dk_182 (a := 0) (b := 111) (by decide +kernel) rfl
theorem dX3_differences_61 : decode cX3_differences 61 = .ok (.aload_n 1, 1) := dk_43 (by decide +kernel)
theorem dX3_differences_62 : decode cX3_differences 62 = .ok (.iload_n 3, 1) := dk_29 (by decide +kernel)
theorem dX3_differences_63 : decode cX3_differences 63 = .ok (.invokevirtual 111, 3) := dk_182 (a := 0) (b := 111) (by decide +kernel) rfl
theorem dX3_differences_66 : decode cX3_differences 66 = .ok (.if_icmp .eq 6, 3) := dk_159 (a := 0) (b := 6) (by decide +kernel) rfl
theorem dX3_differences_69 : decode cX3_differences 69 = .ok (.iinc 2 1, 3) := dk_132 (b := 1) (by decide +kernel) rfl
theorem dX3_differences_72 : decode cX3_differences 72 = .ok (.iinc 3 1, 3) := dk_132 (b := 1) (by decide +kernel) rfl
theorem dX3_differences_75 : decode cX3_differences 75 = .ok (.goto (-24), 3) := dk_167 (a := 255) (b := 232) (by decide +kernel) rfl
theorem dX3_differences_78 : decode cX3_differences 78 = .ok (.iload_n 2, 1) := dk_28 (by decide +kernel)
theorem dX3_differences_79 : decode cX3_differences 79 = .ok (.ireturn, 1) := dk_172 (by decide +kernel)
theorem dX3_go_0 : decode cX3_go 0 = .ok (.aload_n 0, 1) := dk_42 (by decide +kernel)
theorem dX3_go_1 : decode cX3_go 1 = .ok (.iload_n 1, 1) := dk_27 (by decide +kernel)
theorem dX3_go_2 : decode cX3_go 2 = .ok (.invokevirtual 92, 3) := dk_182 (a := 0) (b := 92) (by decide +kernel) rfl
theorem dX3_go_5 : decode cX3_go 5 = .ok (.ifCond .ne 5, 3) := dk_154 (a := 0) (b := 5) (by decide +kernel) rfl
theorem dX3_go_8 : decode cX3_go 8 = .ok (.iconst (-1), 1) := dk_2 (by decide +kernel)
theorem dX3_go_9 : decode cX3_go 9 = .ok (.ireturn, 1) := dk_172 (by decide +kernel)
theorem dX3_go_10 : decode cX3_go 10 = .ok (.aload_n 0, 1) := dk_42 (by decide +kernel)
theorem dX3_go_11 : decode cX3_go 11 = .ok (.bipush (-2), 2) := dk_16 (a := 254) (by decide +kernel) rfl
theorem dX3_go_13 : decode cX3_go 13 = .ok (.putfield 114, 3) := dk_181 (a := 0) (b := 114) (by decide +kernel) rfl
theorem dX3_go_16 : decode cX3_go 16 = .ok (.aload_n 0, 1) := dk_42 (by decide +kernel)
theorem dX3_go_17 : decode cX3_go 17 = .ok (.bipush (-2), 2) := dk_16 (a := 254) (by decide +kernel) rfl
theorem dX3_go_19 : decode cX3_go 19 = .ok (.putfield 117, 3) := dk_181 (a := 0) (b := 117) (by decide +kernel) rfl
theorem dX3_go_22 : decode cX3_go 22 = .ok (.aload_n 0, 1) := dk_42 (by decide +kernel)
theorem dX3_go_23 : decode cX3_go 23 = .ok (.iconst 0, 1) := dk_3 (by decide +kernel)
theorem dX3_go_24 : decode cX3_go 24 = .ok (.putfield 120, 3) := dk_181 (a := 0) (b := 120) (by decide +kernel) rfl
theorem dX3_go_27 : decode cX3_go 27 = .ok (.aload_n 0, 1) := dk_42 (by decide +kernel)
theorem dX3_go_28 : decode cX3_go 28 = .ok (.iconst 0, 1) := dk_3 (by decide +kernel)
theorem dX3_go_29 : decode cX3_go 29 = .ok (.putfield 123, 3) := dk_181 (a := 0) (b := 123) (by decide +kernel) rfl
theorem dX3_go_32 : decode cX3_go 32 = .ok (.aload_n 0, 1) := dk_42 (by decide +kernel)
theorem dX3_go_33 : decode cX3_go 33 = .ok (.aload_n 0, 1) := dk_42 (by decide +kernel)
theorem dX3_go_34 : decode cX3_go 34 = .ok (.getfield 18, 3) := dk_180 (a := 0) (b := 18) (by decide +kernel) rfl
theorem dX3_go_37 : decode cX3_go 37 = .ok (.iload_n 1, 1) := dk_27 (by decide +kernel)
theorem dX3_go_38 : decode cX3_go 38 = .ok (.iaload, 1) := dk_46 (by decide +kernel)
theorem dX3_go_39 : decode cX3_go 39 = .ok (.iconst 1, 1) := dk_4 (by decide +kernel)
theorem dX3_go_40 : decode cX3_go 40 = .ok (.iadd, 1) := dk_96 (by decide +kernel)
theorem dX3_go_41 : decode cX3_go 41 = .ok (.putfield 126, 3) := dk_181 (a := 0) (b := 126) (by decide +kernel) rfl
theorem dX3_go_44 : decode cX3_go 44 = .ok (.aload_n 0, 1) := dk_42 (by decide +kernel)
theorem dX3_go_45 : decode cX3_go 45 = .ok (.getfield 21, 3) := dk_180 (a := 0) (b := 21) (by decide +kernel) rfl
theorem dX3_go_48 : decode cX3_go 48 = .ok (.iload_n 1, 1) := dk_27 (by decide +kernel)
theorem dX3_go_49 : decode cX3_go 49 = .ok (.iaload, 1) := dk_46 (by decide +kernel)
theorem dX3_go_50 : decode cX3_go 50 = .ok (.iconst 3, 1) := dk_6 (by decide +kernel)
theorem dX3_go_51 : decode cX3_go 51 = .ok (.if_icmp .ne 11, 3) := dk_160 (a := 0) (b := 11) (by decide +kernel) rfl
theorem dX3_go_54 : decode cX3_go 54 = .ok (.aload_n 0, 1) := dk_42 (by decide +kernel)
theorem dX3_go_55 : decode cX3_go 55 = .ok (.iload_n 1, 1) := dk_27 (by decide +kernel)
theorem dX3_go_56 : decode cX3_go 56 = .ok (.invokevirtual 129, 3) := dk_182 (a := 0) (b := 129) (by decide +kernel) rfl
theorem dX3_go_59 : decode cX3_go 59 = .ok (.goto 8, 3) := dk_167 (a := 0) (b := 8) (by decide +kernel) rfl
theorem dX3_go_62 : decode cX3_go 62 = .ok (.aload_n 0, 1) := dk_42 (by decide +kernel)
theorem dX3_go_63 : decode cX3_go 63 = .ok (.iload_n 1, 1) := dk_27 (by decide +kernel)
theorem dX3_go_64 : decode cX3_go 64 = .ok (.invokevirtual 132, 3) := dk_182 (a := 0) (b := 132) (by decide +kernel) rfl
theorem dX3_go_67 : decode cX3_go 67 = .ok (.istore_n 2, 1) := dk_61 (by decide +kernel)
theorem dX3_go_68 : decode cX3_go 68 = .ok (.iload_n 2, 1) := dk_28 (by decide +kernel)
theorem dX3_go_69 : decode cX3_go 69 = .ok (.ifCond .ne 13, 3) := dk_154 (a := 0) (b := 13) (by decide +kernel) rfl
theorem dX3_go_72 : decode cX3_go 72 = .ok (.aload_n 0, 1) := dk_42 (by decide +kernel)
theorem dX3_go_73 : decode cX3_go 73 = .ok (.getfield 18, 3) := dk_180 (a := 0) (b := 18) (by decide +kernel) rfl
theorem dX3_go_76 : decode cX3_go 76 = .ok (.iload_n 1, 1) := dk_27 (by decide +kernel)
theorem dX3_go_77 : decode cX3_go 77 = .ok (.aload_n 0, 1) := dk_42 (by decide +kernel)
theorem dX3_go_78 : decode cX3_go 78 = .ok (.getfield 126, 3) := dk_180 (a := 0) (b := 126) (by decide +kernel) rfl
theorem dX3_go_81 : decode cX3_go 81 = .ok (.iastore, 1) := dk_79 (by decide +kernel)
theorem dX3_go_82 : decode cX3_go 82 = .ok (.iload_n 2, 1) := dk_28 (by decide +kernel)
theorem dX3_go_83 : decode cX3_go 83 = .ok (.ireturn, 1) := dk_172 (by decide +kernel)
theorem dX3_perform_0 : decode cX3_perform 0 = .ok (.aload_n 0, 1) := dk_42 (by decide +kernel)
theorem dX3_perform_1 : decode cX3_perform 1 = .ok (.getfield 39, 3) := dk_180 (a := 0) (b := 39) (by decide +kernel) rfl
theorem dX3_perform_4 : decode cX3_perform 4 = .ok (.iload_n 1, 1) := dk_27 (by decide +kernel)
theorem dX3_perform_5 : decode cX3_perform 5 = .ok (.aload_n 0, 1) := dk_42 (by decide +kernel)
theorem dX3_perform_6 : decode cX3_perform 6 = .ok (.getfield 18, 3) := dk_180 (a := 0) (b := 18) (by decide +kernel) rfl
theorem dX3_perform_9 : decode cX3_perform 9 = .ok (.iload_n 1, 1) := dk_27 (by decide +kernel)
theorem dX3_perform_10 : decode cX3_perform 10 = .ok (.iaload, 1) := dk_46 (by decide +kernel)
theorem dX3_perform_11 : decode cX3_perform 11 = .ok (.invokevirtual 78, 3) := dk_182 (a := 0) (b := 78) (by decide +kernel) rfl
theorem dX3_perform_14 : decode cX3_perform 14 = .ok (.istore_n 2, 1) := dk_61 (by decide +kernel)
theorem dX3_perform_15 : decode cX3_perform 15 = .ok (.aload_n 0, 1) := dk_42 (by decide +kernel)
theorem dX3_perform_16 : decode cX3_perform 16 = .ok (.getfield 39, 3) := dk_180 (a := 0) (b := 39) (by decide +kernel) rfl
theorem dX3_perform_19 : decode cX3_perform 19 = .ok (.getfield 82, 3) := dk_180 (a := 0) (b := 82) (by decide +kernel) rfl
theorem dX3_perform_22 : decode cX3_perform 22 = .ok (.iload_n 2, 1) := dk_28 (by decide +kernel)
theorem dX3_perform_23 : decode cX3_perform 23 = .ok (.iconst 1, 1) := dk_4 (by decide +kernel)
theorem dX3_perform_24 : decode cX3_perform 24 = .ok (.iadd, 1) := dk_96 (by decide +kernel)
theorem dX3_perform_25 : decode cX3_perform 25 = .ok (.iaload, 1) := dk_46 (by decide +kernel)
theorem dX3_perform_26 : decode cX3_perform 26 = .ok (.istore_n 3, 1) := dk_62 (by decide +kernel)
theorem dX3_perform_27 : decode cX3_perform 27 = .ok (.aload_n 0, 1) := dk_42 (by decide +kernel)
theorem dX3_perform_28 : decode cX3_perform 28 = .ok (.getfield 39, 3) := dk_180 (a := 0) (b := 39) (by decide +kernel) rfl
theorem dX3_perform_31 : decode cX3_perform 31 = .ok (.getfield 82, 3) := dk_180 (a := 0) (b := 82) (by decide +kernel) rfl
theorem dX3_perform_34 : decode cX3_perform 34 = .ok (.iload_n 2, 1) := dk_28 (by decide +kernel)
theorem dX3_perform_35 : decode cX3_perform 35 = .ok (.iconst 2, 1) := dk_5 (by decide +kernel)
theorem dX3_perform_36 : decode cX3_perform 36 = .ok (.iadd, 1) := dk_96 (by decide +kernel)
theorem dX3_perform_37 : decode cX3_perform 37 = .ok (.iaload, 1) := dk_46 (by decide +kernel)
theorem dX3_perform_38 : decode cX3_perform 38 = .ok (.istore 4, 2) := dk_54 (by decide +kernel)
theorem dX3_perform_40 : decode cX3_perform 40 = .ok (.iload_n 1, 1) := dk_27 (by decide +kernel)
theorem dX3_perform_41 : decode cX3_perform 41 = .ok (.iload_n 3, 1) := dk_29 (by decide +kernel)
theorem dX3_perform_42 : decode cX3_perform 42 = .ok (.invokestatic 85, 3) := dk_184 (a := 0) (b := 85) (by decide +kernel) rfl
theorem dX3_perform_45 : decode cX3_perform 45 = .ok (.istore 5, 2) := dk_54 (by decide +kernel)
theorem dX3_perform_47 : decode cX3_perform 47 = .ok (.iload_n 1, 1) := dk_27 (by decide +kernel)
theorem dX3_perform_48 : decode cX3_perform 48 = .ok (.iload 4, 2) := dk_21 (by decide +kernel)
theorem dX3_perform_50 : decode cX3_perform 50 = .ok (.invokestatic 85, 3) := dk_184 (a := 0) (b := 85) (by decide +kernel) rfl
theorem dX3_perform_53 : decode cX3_perform 53 = .ok (.istore 6, 2) := dk_54 (by decide +kernel)
theorem dX3_perform_55 : decode cX3_perform 55 = .ok (.iload_n 1, 1) := dk_27 (by decide +kernel)
theorem dX3_perform_56 : decode cX3_perform 56 = .ok (.aload_n 0, 1) := dk_42 (by decide +kernel)
theorem dX3_perform_57 : decode cX3_perform 57 = .ok (.getfield 39, 3) := dk_180 (a := 0) (b := 39) (by decide +kernel) rfl
theorem dX3_perform_60 : decode cX3_perform 60 = .ok (.getfield 82, 3) := dk_180 (a := 0) (b := 82) (by decide +kernel) rfl
theorem dX3_perform_63 : decode cX3_perform 63 = .ok (.iload_n 2, 1) := dk_28 (by decide +kernel)
theorem dX3_perform_64 : decode cX3_perform 64 = .ok (.iconst 3, 1) := dk_6 (by decide +kernel)
theorem dX3_perform_65 : decode cX3_perform 65 = .ok (.iadd, 1) := dk_96 (by decide +kernel)
theorem dX3_perform_66 : decode cX3_perform 66 = .ok (.iaload, 1) := dk_46 (by decide +kernel)
theorem dX3_perform_67 : decode cX3_perform 67 = .ok (.invokestatic 85, 3) := dk_184 (a := 0) (b := 85) (by decide +kernel) rfl
theorem dX3_perform_70 : decode cX3_perform 70 = .ok (.istore 7, 2) := dk_54 (by decide +kernel)
theorem dX3_perform_72 : decode cX3_perform 72 = .ok (.aload_n 0, 1) := dk_42 (by decide +kernel)
theorem dX3_perform_73 : decode cX3_perform 73 = .ok (.getfield 39, 3) := dk_180 (a := 0) (b := 39) (by decide +kernel) rfl
theorem dX3_perform_76 : decode cX3_perform 76 = .ok (.getfield 82, 3) := dk_180 (a := 0) (b := 82) (by decide +kernel) rfl
theorem dX3_perform_79 : decode cX3_perform 79 = .ok (.iload_n 2, 1) := dk_28 (by decide +kernel)
theorem dX3_perform_80 : decode cX3_perform 80 = .ok (.iaload, 1) := dk_46 (by decide +kernel)
theorem dX3_perform_81 : decode cX3_perform 81 = .ok (.tableswitch 271 0 18 #[91, 101, 115, 128, 128, 128, 146, 152, 161, 170, 181, 192, 211, 219, 227, 235, 243, 250, 260], 91) := by decide +kernel
theorem dX3_perform_172 : decode cX3_perform 172 = .ok (.aload_n 0, 1) := dk_42 (by decide +kernel)
theorem dX3_perform_173 : decode cX3_perform 173 = .ok (.iload 5, 2) := dk_21 (by decide +kernel)
theorem dX3_perform_175 : decode cX3_perform 175 = .ok (.iconst 0, 1) := dk_3 (by decide +kernel)
theorem dX3_perform_176 : decode cX3_perform 176 = .ok (.iload 4, 2) := dk_21 (by decide +kernel)
theorem dX3_perform_178 : decode cX3_perform 178 = .ok (.invokevirtual 135, 3) := dk_182 (a := 0) (b := 135) (by decide +kernel) rfl
theorem dX3_perform_181 : decode cX3_perform 181 = .ok (.ireturn, 1) := dk_172 (by decide +kernel)
theorem dX3_perform_182 : decode cX3_perform 182 = .ok (.aload_n 0, 1) := dk_42 (by decide +kernel)
theorem dX3_perform_183 : decode cX3_perform 183 = .ok (.iload 5, 2) := dk_21 (by decide +kernel)
theorem dX3_perform_185 : decode cX3_perform 185 = .ok (.iload 4, 2) := dk_21 (by decide +kernel)
theorem dX3_perform_187 : decode cX3_perform 187 = .ok (.bipush 12, 2) := dk_16 (a := 12) (by decide +kernel) rfl
theorem dX3_perform_189 : decode cX3_perform 189 = .ok (.invokestatic 139, 3) := dk_184 (a := 0) (b := 139) (by decide +kernel) rfl
theorem dX3_perform_192 : decode cX3_perform 192 = .ok (.invokevirtual 144, 3) := dk_182 (a := 0) (b := 144) (by decide +kernel) rfl
theorem dX3_perform_195 : decode cX3_perform 195 = .ok (.ireturn, 1) := dk_172 (by decide +kernel)
theorem dX3_perform_196 : decode cX3_perform 196 = .ok (.aload_n 0, 1) := dk_42 (by decide +kernel)
theorem dX3_perform_197 : decode cX3_perform 197 = .ok (.iload_n 3, 1) := dk_29 (by decide +kernel)
theorem dX3_perform_198 : decode cX3_perform 198 = .ok (.bipush 12, 2) := dk_16 (a := 12) (by decide +kernel) rfl
theorem dX3_perform_200 : decode cX3_perform 200 = .ok (.invokestatic 139, 3) := dk_184 (a := 0) (b := 139) (by decide +kernel) rfl
theorem dX3_perform_203 : decode cX3_perform 203 = .ok (.iload 6, 2) := dk_21 (by decide +kernel)
theorem dX3_perform_205 : decode cX3_perform 205 = .ok (.invokevirtual 147, 3) := dk_182 (a := 0) (b := 147) (by decide +kernel) rfl
theorem dX3_perform_208 : decode cX3_perform 208 = .ok (.ireturn, 1) := dk_172 (by decide +kernel)
theorem dX3_perform_209 : decode cX3_perform 209 = .ok (.aload_n 0, 1) := dk_42 (by decide +kernel)
theorem dX3_perform_210 : decode cX3_perform 210 = .ok (.aload_n 0, 1) := dk_42 (by decide +kernel)
theorem dX3_perform_211 : decode cX3_perform 211 = .ok (.getfield 39, 3) := dk_180 (a := 0) (b := 39) (by decide +kernel) rfl
theorem dX3_perform_214 : decode cX3_perform 214 = .ok (.getfield 82, 3) := dk_180 (a := 0) (b := 82) (by decide +kernel) rfl
theorem dX3_perform_217 : decode cX3_perform 217 = .ok (.iload_n 2, 1) := dk_28 (by decide +kernel)
theorem dX3_perform_218 : decode cX3_perform 218 = .ok (.iaload, 1) := dk_46 (by decide +kernel)
theorem dX3_perform_219 : decode cX3_perform 219 = .ok (.iload 5, 2) := dk_21 (by decide +kernel)
theorem dX3_perform_221 : decode cX3_perform 221 = .ok (.iload 6, 2) := dk_21 (by decide +kernel)
theorem dX3_perform_223 : decode cX3_perform 223 = .ok (.invokevirtual 150, 3) := dk_182 (a := 0) (b := 150) (by decide +kernel) rfl
theorem dX3_perform_226 : decode cX3_perform 226 = .ok (.ireturn, 1) := dk_172 (by decide +kernel)
theorem dX3_perform_227 : decode cX3_perform 227 = .ok (.aload_n 0, 1) := dk_42 (by decide +kernel)
theorem dX3_perform_228 : decode cX3_perform 228 = .ok (.iload_n 3, 1) := dk_29 (by decide +kernel)
theorem dX3_perform_229 : decode cX3_perform 229 = .ok (.invokevirtual 153, 3) := dk_182 (a := 0) (b := 153) (by decide +kernel) rfl
theorem dX3_perform_232 : decode cX3_perform 232 = .ok (.ireturn, 1) := dk_172 (by decide +kernel)
theorem dX3_perform_233 : decode cX3_perform 233 = .ok (.aload_n 0, 1) := dk_42 (by decide +kernel)
theorem dX3_perform_234 : decode cX3_perform 234 = .ok (.iload 5, 2) := dk_21 (by decide +kernel)
theorem dX3_perform_236 : decode cX3_perform 236 = .ok (.iload 4, 2) := dk_21 (by decide +kernel)
theorem dX3_perform_238 : decode cX3_perform 238 = .ok (.invokevirtual 156, 3) := dk_182 (a := 0) (b := 156) (by decide +kernel) rfl
theorem dX3_perform_241 : decode cX3_perform 241 = .ok (.ireturn, 1) := dk_172 (by decide +kernel)
theorem dX3_perform_242 : decode cX3_perform 242 = .ok (.aload_n 0, 1) := dk_42 (by decide +kernel)
theorem dX3_perform_243 : decode cX3_perform 243 = .ok (.iload 5, 2) := dk_21 (by decide +kernel)
theorem dX3_perform_245 : decode cX3_perform 245 = .ok (.iload 6, 2) := dk_21 (by decide +kernel)
theorem dX3_perform_247 : decode cX3_perform 247 = .ok (.invokevirtual 159, 3) := dk_182 (a := 0) (b := 159) (by decide +kernel) rfl
theorem dX3_perform_250 : decode cX3_perform 250 = .ok (.ireturn, 1) := dk_172 (by decide +kernel)
theorem dX3_perform_251 : decode cX3_perform 251 = .ok (.aload_n 0, 1) := dk_42 (by decide +kernel)
theorem dX3_perform_252 : decode cX3_perform 252 = .ok (.iload 5, 2) := dk_21 (by decide +kernel)
theorem dX3_perform_254 : decode cX3_perform 254 = .ok (.iload 6, 2) := dk_21 (by decide +kernel)
theorem dX3_perform_256 : decode cX3_perform 256 = .ok (.iload 7, 2) := dk_21 (by decide +kernel)
theorem dX3_perform_258 : decode cX3_perform 258 = .ok (.invokevirtual 162, 3) := dk_182 (a := 0) (b := 162) (by decide +kernel) rfl
theorem dX3_perform_261 : decode cX3_perform 261 = .ok (.ireturn, 1) := dk_172 (by decide +kernel)
theorem dX3_perform_262 : decode cX3_perform 262 = .ok (.aload_n 0, 1) := dk_42 (by decide +kernel)
theorem dX3_perform_263 : decode cX3_perform 263 = .ok (.iload 5, 2) := dk_21 (by decide +kernel)
theorem dX3_perform_265 : decode cX3_perform 265 = .ok (.iload 6, 2) := dk_21 (by decide +kernel)
theorem dX3_perform_267 : decode cX3_perform 267 = .ok (.iload 7, 2) := dk_21 (by decide +kernel)
theorem dX3_perform_269 : decode cX3_perform 269 = .ok (.invokevirtual 165, 3) := dk_182 (a := 0) (b := 165) (by decide +kernel) rfl
theorem dX3_perform_272 : decode cX3_perform 272 = .ok (.ireturn, 1) := dk_172 (by decide +kernel)
theorem dX3_perform_273 : decode cX3_perform 273 = .ok (.aload_n 0, 1) := dk_42 (by decide +kernel)
theorem dX3_perform_274 : decode cX3_perform 274 = .ok (.iload 5, 2) := dk_21 (by decide +kernel)
theorem dX3_perform_276 : decode cX3_perform 276 = .ok (.iload 4, 2) := dk_21 (by decide +kernel)
theorem dX3_perform_278 : decode cX3_perform 278 = .ok (.iconst 1, 1) := dk_4 (by decide +kernel)
theorem dX3_perform_279 : decode cX3_perform 279 = .ok (.iand, 1) := dk_126 (by decide +kernel)
theorem dX3_perform_280 : decode cX3_perform 280 = .ok (.ifCond .eq 7, 3) := dk_153 (a := 0) (b := 7) (by decide +kernel) rfl
theorem dX3_perform_283 : decode cX3_perform 283 = .ok (.iconst 1, 1) := dk_4 (by decide +kernel)
theorem dX3_perform_284 : decode cX3_perform 284 = .ok (.goto 4, 3) := dk_167 (a := 0) (b := 4) (by decide +kernel) rfl
theorem dX3_perform_287 : decode cX3_perform 287 = .ok (.iconst 0, 1) := dk_3 (by decide +kernel)
theorem dX3_perform_288 : decode cX3_perform 288 = .ok (.invokevirtual 168, 3) := dk_182 (a := 0) (b := 168) (by decide +kernel) rfl
theorem dX3_perform_291 : decode cX3_perform 291 = .ok (.ireturn, 1) := dk_172 (by decide +kernel)
theorem dX3_perform_292 : decode cX3_perform 292 = .ok (.aload_n 0, 1) := dk_42 (by decide +kernel)
theorem dX3_perform_293 : decode cX3_perform 293 = .ok (.iload_n 1, 1) := dk_27 (by decide +kernel)
theorem dX3_perform_294 : decode cX3_perform 294 = .ok (.iload 5, 2) := dk_21 (by decide +kernel)
theorem dX3_perform_296 : decode cX3_perform 296 = .ok (.invokevirtual 172, 3) := dk_182 (a := 0) (b := 172) (by decide +kernel) rfl
theorem dX3_perform_299 : decode cX3_perform 299 = .ok (.ireturn, 1) := dk_172 (by decide +kernel)
theorem dX3_perform_300 : decode cX3_perform 300 = .ok (.aload_n 0, 1) := dk_42 (by decide +kernel)
theorem dX3_perform_301 : decode cX3_perform 301 = .ok (.iload_n 1, 1) := dk_27 (by decide +kernel)
theorem dX3_perform_302 : decode cX3_perform 302 = .ok (.iload 5, 2) := dk_21 (by decide +kernel)
theorem dX3_perform_304 : decode cX3_perform 304 = .ok (.invokevirtual 175, 3) := dk_182 (a := 0) (b := 175) (by decide +kernel) rfl
theorem dX3_perform_307 : decode cX3_perform 307 = .ok (.ireturn, 1) := dk_172 (by decide +kernel)
theorem dX3_perform_308 : decode cX3_perform 308 = .ok (.aload_n 0, 1) := dk_42 (by decide +kernel)
theorem dX3_perform_309 : decode cX3_perform 309 = .ok (.iload_n 1, 1) := dk_27 (by decide +kernel)
theorem dX3_perform_310 : decode cX3_perform 310 = .ok (.iload 5, 2) := dk_21 (by decide +kernel)
theorem dX3_perform_312 : decode cX3_perform 312 = .ok (.invokevirtual 178, 3) := dk_182 (a := 0) (b := 178) (by decide +kernel) rfl
theorem dX3_perform_315 : decode cX3_perform 315 = .ok (.ireturn, 1) := dk_172 (by decide +kernel)
theorem dX3_perform_316 : decode cX3_perform 316 = .ok (.aload_n 0, 1) := dk_42 (by decide +kernel)
theorem dX3_perform_317 : decode cX3_perform 317 = .ok (.iload_n 1, 1) := dk_27 (by decide +kernel)
theorem dX3_perform_318 : decode cX3_perform 318 = .ok (.iload 5, 2) := dk_21 (by decide +kernel)
theorem dX3_perform_320 : decode cX3_perform 320 = .ok (.invokevirtual 181, 3) := dk_182 (a := 0) (b := 181) (by decide +kernel) rfl
theorem dX3_perform_323 : decode cX3_perform 323 = .ok (.ireturn, 1) := dk_172 (by decide +kernel)
theorem dX3_perform_324 : decode cX3_perform 324 = .ok (.aload_n 0, 1) := dk_42 (by decide +kernel)
theorem dX3_perform_325 : decode cX3_perform 325 = .ok (.iload 5, 2) := dk_21 (by decide +kernel)
theorem dX3_perform_327 : decode cX3_perform 327 = .ok (.invokevirtual 184, 3) := dk_182 (a := 0) (b := 184) (by decide +kernel) rfl
theorem dX3_perform_330 : decode cX3_perform 330 = .ok (.ireturn, 1) := dk_172 (by decide +kernel)
theorem dX3_perform_331 : decode cX3_perform 331 = .ok (.aload_n 0, 1) := dk_42 (by decide +kernel)
theorem dX3_perform_332 : decode cX3_perform 332 = .ok (.iload_n 3, 1) := dk_29 (by decide +kernel)
theorem dX3_perform_333 : decode cX3_perform 333 = .ok (.iconst 4, 1) := dk_7 (by decide +kernel)
theorem dX3_perform_334 : decode cX3_perform 334 = .ok (.invokestatic 139, 3) := dk_184 (a := 0) (b := 139) (by decide +kernel) rfl
theorem dX3_perform_337 : decode cX3_perform 337 = .ok (.invokevirtual 187, 3) := dk_182 (a := 0) (b := 187) (by decide +kernel) rfl
theorem dX3_perform_340 : decode cX3_perform 340 = .ok (.ireturn, 1) := dk_172 (by decide +kernel)
theorem dX3_perform_341 : decode cX3_perform 341 = .ok (.bipush 10, 2) := dk_16 (a := 10) (by decide +kernel) rfl
theorem dX3_perform_343 : decode cX3_perform 343 = .ok (.iload 4, 2) := dk_21 (by decide +kernel)
theorem dX3_perform_345 : decode cX3_perform 345 = .ok (.bipush 10, 2) := dk_16 (a := 10) (by decide +kernel) rfl
theorem dX3_perform_347 : decode cX3_perform 347 = .ok (.invokestatic 139, 3) := dk_184 (a := 0) (b := 139) (by decide +kernel) rfl
theorem dX3_perform_350 : decode cX3_perform 350 = .ok (.iadd, 1) := dk_96 (by decide +kernel)
theorem dX3_perform_351 : decode cX3_perform 351 = .ok (.ireturn, 1) := dk_172 (by decide +kernel)
theorem dX3_perform_352 : decode cX3_perform 352 = .ok (.aload_n 0, 1) := dk_42 (by decide +kernel)
theorem dX3_perform_353 : decode cX3_perform 353 = .ok (.bipush 24, 2) := dk_16 (a := 24) (by decide +kernel) rfl
theorem dX3_perform_355 : decode cX3_perform 355 = .ok (.invokevirtual 153, 3) := dk_182 (a := 0) (b := 153) (by decide +kernel) rfl
theorem dX3_perform_358 : decode cX3_perform 358 = .ok (.ireturn, 1) := dk_172 (by decide +kernel)
theorem dX3_slotOf_0 : decode cX3_slotOf 0 = .ok (.bipush 12, 2) := dk_16 (a := 12) (by decide +kernel) rfl
theorem dX3_slotOf_2 : decode cX3_slotOf 2 = .ok (.iload_n 0, 1) := dk_26 (by decide +kernel)
theorem dX3_slotOf_3 : decode cX3_slotOf 3 = .ok (.iconst 4, 1) := dk_7 (by decide +kernel)
theorem dX3_slotOf_4 : decode cX3_slotOf 4 = .ok (.imul, 1) := dk_104 (by decide +kernel)
theorem dX3_slotOf_5 : decode cX3_slotOf 5 = .ok (.iadd, 1) := dk_96 (by decide +kernel)
theorem dX3_slotOf_6 : decode cX3_slotOf 6 = .ok (.iload_n 1, 1) := dk_27 (by decide +kernel)
theorem dX3_slotOf_7 : decode cX3_slotOf 7 = .ok (.iconst 4, 1) := dk_7 (by decide +kernel)
theorem dX3_slotOf_8 : decode cX3_slotOf 8 = .ok (.invokestatic 139, 3) := dk_184 (a := 0) (b := 139) (by decide +kernel) rfl
theorem dX3_slotOf_11 : decode cX3_slotOf 11 = .ok (.iadd, 1) := dk_96 (by decide +kernel)
theorem dX3_slotOf_12 : decode cX3_slotOf 12 = .ok (.ireturn, 1) := dk_172 (by decide +kernel)
theorem dX3_bothNumbers_0 : decode cX3_bothNumbers 0 = .ok (.aload_n 0, 1) := dk_42 (by decide +kernel)
theorem dX3_bothNumbers_1 : decode cX3_bothNumbers 1 = .ok (.getfield 9, 3) := dk_180 (a := 0) (b := 9) (by decide +kernel) rfl
theorem dX3_bothNumbers_4 : decode cX3_bothNumbers 4 = .ok (.iload_n 1, 1) := dk_27 (by decide +kernel)
theorem dX3_bothNumbers_5 : decode cX3_bothNumbers 5 = .ok (.iaload, 1) := dk_46 (by decide +kernel)
theorem dX3_bothNumbers_6 : decode cX3_bothNumbers 6 = .ok (.ifCond .ne 16, 3) := dk_154 (a := 0) (b := 16) (by decide +kernel) rfl
theorem dX3_bothNumbers_9 : decode cX3_bothNumbers 9 = .ok (.aload_n 0, 1) := dk_42 (by decide +kernel)
theorem dX3_bothNumbers_10 : decode cX3_bothNumbers 10 = .ok (.getfield 9, 3) := dk_180 (a := 0) (b := 9) (by decide +kernel) rfl
theorem dX3_bothNumbers_13 : decode cX3_bothNumbers 13 = .ok (.iload_n 2, 1) := dk_28 (by decide +kernel)
theorem dX3_bothNumbers_14 : decode cX3_bothNumbers 14 = .ok (.iaload, 1) := dk_46 (by decide +kernel)
theorem dX3_bothNumbers_15 : decode cX3_bothNumbers 15 = .ok (.ifCond .ne 7, 3) := dk_154 (a := 0) (b := 7) (by decide +kernel) rfl
theorem dX3_bothNumbers_18 : decode cX3_bothNumbers 18 = .ok (.iconst 1, 1) := dk_4 (by decide +kernel)
theorem dX3_bothNumbers_19 : decode cX3_bothNumbers 19 = .ok (.goto 4, 3) := dk_167 (a := 0) (b := 4) (by decide +kernel) rfl
theorem dX3_bothNumbers_22 : decode cX3_bothNumbers 22 = .ok (.iconst 0, 1) := dk_3 (by decide +kernel)
theorem dX3_bothNumbers_23 : decode cX3_bothNumbers 23 = .ok (.ireturn, 1) := dk_172 (by decide +kernel)
theorem dX3_lockIn_0 : decode cX3_lockIn 0 = .ok (.aload_n 0, 1) := dk_42 (by decide +kernel)
theorem dX3_lockIn_1 : decode cX3_lockIn 1 = .ok (.getfield 9, 3) := dk_180 (a := 0) (b := 9) (by decide +kernel) rfl
theorem dX3_lockIn_4 : decode cX3_lockIn 4 = .ok (.iload_n 1, 1) := dk_27 (by decide +kernel)
theorem dX3_lockIn_5 : decode cX3_lockIn 5 = .ok (.iaload, 1) := dk_46 (by decide +kernel)
theorem dX3_lockIn_6 : decode cX3_lockIn 6 = .ok (.iconst 2, 1) := dk_5 (by decide +kernel)
theorem dX3_lockIn_7 : decode cX3_lockIn 7 = .ok (.if_icmp .eq 13, 3) := dk_159 (a := 0) (b := 13) (by decide +kernel) rfl
theorem dX3_lockIn_10 : decode cX3_lockIn 10 = .ok (.aload_n 0, 1) := dk_42 (by decide +kernel)
theorem dX3_lockIn_11 : decode cX3_lockIn 11 = .ok (.getfield 9, 3) := dk_180 (a := 0) (b := 9) (by decide +kernel) rfl
theorem dX3_lockIn_14 : decode cX3_lockIn 14 = .ok (.iload_n 1, 1) := dk_27 (by decide +kernel)
theorem dX3_lockIn_15 : decode cX3_lockIn 15 = .ok (.iaload, 1) := dk_46 (by decide +kernel)
theorem dX3_lockIn_16 : decode cX3_lockIn 16 = .ok (.iconst 3, 1) := dk_6 (by decide +kernel)
theorem dX3_lockIn_17 : decode cX3_lockIn 17 = .ok (.if_icmp .ne 12, 3) := dk_160 (a := 0) (b := 12) (by decide +kernel) rfl
theorem dX3_lockIn_20 : decode cX3_lockIn 20 = .ok (.aload_n 0, 1) := dk_42 (by decide +kernel)
theorem dX3_lockIn_21 : decode cX3_lockIn 21 = .ok (.getfield 15, 3) := dk_180 (a := 0) (b := 15) (by decide +kernel) rfl
theorem dX3_lockIn_24 : decode cX3_lockIn 24 = .ok (.iload_n 1, 1) := dk_27 (by decide +kernel)
theorem dX3_lockIn_25 : decode cX3_lockIn 25 = .ok (.iaload, 1) := dk_46 (by decide +kernel)
theorem dX3_lockIn_26 : decode cX3_lockIn 26 = .ok (.goto 4, 3) := dk_167 (a := 0) (b := 4) (by decide +kernel) rfl
theorem dX3_lockIn_29 : decode cX3_lockIn 29 = .ok (.iconst (-1), 1) := dk_2 (by decide +kernel)
theorem dX3_lockIn_30 : decode cX3_lockIn 30 = .ok (.ireturn, 1) := dk_172 (by decide +kernel)
theorem dX3_gateIn_0 : decode cX3_gateIn 0 = .ok (.aload_n 0, 1) := dk_42 (by decide +kernel)
theorem dX3_gateIn_1 : decode cX3_gateIn 1 = .ok (.getfield 9, 3) := dk_180 (a := 0) (b := 9) (by decide +kernel) rfl
theorem dX3_gateIn_4 : decode cX3_gateIn 4 = .ok (.iload_n 1, 1) := dk_27 (by decide +kernel)
theorem dX3_gateIn_5 : decode cX3_gateIn 5 = .ok (.iaload, 1) := dk_46 (by decide +kernel)
theorem dX3_gateIn_6 : decode cX3_gateIn 6 = .ok (.iconst 3, 1) := dk_6 (by decide +kernel)
theorem dX3_gateIn_7 : decode cX3_gateIn 7 = .ok (.if_icmp .ne 12, 3) := dk_160 (a := 0) (b := 12) (by decide +kernel) rfl
theorem dX3_gateIn_10 : decode cX3_gateIn 10 = .ok (.aload_n 0, 1) := dk_42 (by decide +kernel)
theorem dX3_gateIn_11 : decode cX3_gateIn 11 = .ok (.getfield 15, 3) := dk_180 (a := 0) (b := 15) (by decide +kernel) rfl
theorem dX3_gateIn_14 : decode cX3_gateIn 14 = .ok (.iload_n 1, 1) := dk_27 (by decide +kernel)
theorem dX3_gateIn_15 : decode cX3_gateIn 15 = .ok (.iaload, 1) := dk_46 (by decide +kernel)
theorem dX3_gateIn_16 : decode cX3_gateIn 16 = .ok (.goto 4, 3) := dk_167 (a := 0) (b := 4) (by decide +kernel) rfl
theorem dX3_gateIn_19 : decode cX3_gateIn 19 = .ok (.iconst (-1), 1) := dk_2 (by decide +kernel)
theorem dX3_gateIn_20 : decode cX3_gateIn 20 = .ok (.ireturn, 1) := dk_172 (by decide +kernel)
theorem dX3_hold_0 : decode cX3_hold 0 = .ok (.aload_n 0, 1) := dk_42 (by decide +kernel)
theorem dX3_hold_1 : decode cX3_hold 1 = .ok (.getfield 9, 3) := dk_180 (a := 0) (b := 9) (by decide +kernel) rfl
theorem dX3_hold_4 : decode cX3_hold 4 = .ok (.iload_n 1, 1) := dk_27 (by decide +kernel)
theorem dX3_hold_5 : decode cX3_hold 5 = .ok (.iload_n 2, 1) := dk_28 (by decide +kernel)
theorem dX3_hold_6 : decode cX3_hold 6 = .ok (.iastore, 1) := dk_79 (by decide +kernel)
theorem dX3_hold_7 : decode cX3_hold 7 = .ok (.aload_n 0, 1) := dk_42 (by decide +kernel)
theorem dX3_hold_8 : decode cX3_hold 8 = .ok (.getfield 15, 3) := dk_180 (a := 0) (b := 15) (by decide +kernel) rfl
theorem dX3_hold_11 : decode cX3_hold 11 = .ok (.iload_n 1, 1) := dk_27 (by decide +kernel)
theorem dX3_hold_12 : decode cX3_hold 12 = .ok (.iload_n 3, 1) := dk_29 (by decide +kernel)
theorem dX3_hold_13 : decode cX3_hold 13 = .ok (.iastore, 1) := dk_79 (by decide +kernel)
theorem dX3_hold_14 : decode cX3_hold 14 = .ok (.iconst 0, 1) := dk_3 (by decide +kernel)
theorem dX3_hold_15 : decode cX3_hold 15 = .ok (.ireturn, 1) := dk_172 (by decide +kernel)
theorem dX3_getCell_0 : decode cX3_getCell 0 = .ok (.aload_n 0, 1) := dk_42 (by decide +kernel)
theorem dX3_getCell_1 : decode cX3_getCell 1 = .ok (.iload_n 2, 1) := dk_28 (by decide +kernel)
theorem dX3_getCell_2 : decode cX3_getCell 2 = .ok (.putfield 114, 3) := dk_181 (a := 0) (b := 114) (by decide +kernel) rfl
theorem dX3_getCell_5 : decode cX3_getCell 5 = .ok (.aload_n 0, 1) := dk_42 (by decide +kernel)
theorem dX3_getCell_6 : decode cX3_getCell 6 = .ok (.iload_n 1, 1) := dk_27 (by decide +kernel)
theorem dX3_getCell_7 : decode cX3_getCell 7 = .ok (.aload_n 0, 1) := dk_42 (by decide +kernel)
theorem dX3_getCell_8 : decode cX3_getCell 8 = .ok (.getfield 9, 3) := dk_180 (a := 0) (b := 9) (by decide +kernel) rfl
theorem dX3_getCell_11 : decode cX3_getCell 11 = .ok (.iload_n 2, 1) := dk_28 (by decide +kernel)
theorem dX3_getCell_12 : decode cX3_getCell 12 = .ok (.iaload, 1) := dk_46 (by decide +kernel)
theorem dX3_getCell_13 : decode cX3_getCell 13 = .ok (.aload_n 0, 1) := dk_42 (by decide +kernel)
theorem dX3_getCell_14 : decode cX3_getCell 14 = .ok (.getfield 15, 3) := dk_180 (a := 0) (b := 15) (by decide +kernel) rfl
theorem dX3_getCell_17 : decode cX3_getCell 17 = .ok (.iload_n 2, 1) := dk_28 (by decide +kernel)
theorem dX3_getCell_18 : decode cX3_getCell 18 = .ok (.iaload, 1) := dk_46 (by decide +kernel)
theorem dX3_getCell_19 : decode cX3_getCell 19 = .ok (.invokevirtual 135, 3) := dk_182 (a := 0) (b := 135) (by decide +kernel) rfl
theorem dX3_getCell_22 : decode cX3_getCell 22 = .ok (.ireturn, 1) := dk_172 (by decide +kernel)
theorem dX3_putCell_0 : decode cX3_putCell 0 = .ok (.aload_n 0, 1) := dk_42 (by decide +kernel)
theorem dX3_putCell_1 : decode cX3_putCell 1 = .ok (.iload_n 1, 1) := dk_27 (by decide +kernel)
theorem dX3_putCell_2 : decode cX3_putCell 2 = .ok (.putfield 117, 3) := dk_181 (a := 0) (b := 117) (by decide +kernel) rfl
theorem dX3_putCell_5 : decode cX3_putCell 5 = .ok (.aload_n 0, 1) := dk_42 (by decide +kernel)
theorem dX3_putCell_6 : decode cX3_putCell 6 = .ok (.iload_n 1, 1) := dk_27 (by decide +kernel)
theorem dX3_putCell_7 : decode cX3_putCell 7 = .ok (.aload_n 0, 1) := dk_42 (by decide +kernel)
theorem dX3_putCell_8 : decode cX3_putCell 8 = .ok (.getfield 9, 3) := dk_180 (a := 0) (b := 9) (by decide +kernel) rfl
theorem dX3_putCell_11 : decode cX3_putCell 11 = .ok (.iload_n 2, 1) := dk_28 (by decide +kernel)
theorem dX3_putCell_12 : decode cX3_putCell 12 = .ok (.iaload, 1) := dk_46 (by decide +kernel)
theorem dX3_putCell_13 : decode cX3_putCell 13 = .ok (.aload_n 0, 1) := dk_42 (by decide +kernel)
theorem dX3_putCell_14 : decode cX3_putCell 14 = .ok (.getfield 15, 3) := dk_180 (a := 0) (b := 15) (by decide +kernel) rfl
theorem dX3_putCell_17 : decode cX3_putCell 17 = .ok (.iload_n 2, 1) := dk_28 (by decide +kernel)
theorem dX3_putCell_18 : decode cX3_putCell 18 = .ok (.iaload, 1) := dk_46 (by decide +kernel)
theorem dX3_putCell_19 : decode cX3_putCell 19 = .ok (.invokevirtual 135, 3) := dk_182 (a := 0) (b := 135) (by decide +kernel) rfl
theorem dX3_putCell_22 : decode cX3_putCell 22 = .ok (.ireturn, 1) := dk_172 (by decide +kernel)
theorem dX3_reckon_0 : decode cX3_reckon 0 = .ok (.aload_n 0, 1) := dk_42 (by decide +kernel)
theorem dX3_reckon_1 : decode cX3_reckon 1 = .ok (.iload_n 2, 1) := dk_28 (by decide +kernel)
theorem dX3_reckon_2 : decode cX3_reckon 2 = .ok (.iload_n 3, 1) := dk_29 (by decide +kernel)
theorem dX3_reckon_3 : decode cX3_reckon 3 = .ok (.invokevirtual 190, 3) := dk_182 (a := 0) (b := 190) (by decide +kernel) rfl
theorem dX3_reckon_6 : decode cX3_reckon 6 = .ok (.ifCond .ne 5, 3) := dk_154 (a := 0) (b := 5) (by decide +kernel) rfl
theorem dX3_reckon_9 : decode cX3_reckon 9 = .ok (.iconst 1, 1) := dk_4 (by decide +kernel)
theorem dX3_reckon_10 : decode cX3_reckon 10 = .ok (.ireturn, 1) := dk_172 (by decide +kernel)
theorem dX3_reckon_11 : decode cX3_reckon 11 = .ok (.aload_n 0, 1) := dk_42 (by decide +kernel)
theorem dX3_reckon_12 : decode cX3_reckon 12 = .ok (.getfield 15, 3) := dk_180 (a := 0) (b := 15) (by decide +kernel) rfl
theorem dX3_reckon_15 : decode cX3_reckon 15 = .ok (.iload_n 2, 1) := dk_28 (by decide +kernel)
theorem dX3_reckon_16 : decode cX3_reckon 16 = .ok (.iaload, 1) := dk_46 (by decide +kernel)
theorem dX3_reckon_17 : decode cX3_reckon 17 = .ok (.istore 4, 2) := dk_54 (by decide +kernel)
theorem dX3_reckon_19 : decode cX3_reckon 19 = .ok (.aload_n 0, 1) := dk_42 (by decide +kernel)
theorem dX3_reckon_20 : decode cX3_reckon 20 = .ok (.getfield 15, 3) := dk_180 (a := 0) (b := 15) (by decide +kernel) rfl
theorem dX3_reckon_23 : decode cX3_reckon 23 = .ok (.iload_n 3, 1) := dk_29 (by decide +kernel)
theorem dX3_reckon_24 : decode cX3_reckon 24 = .ok (.iaload, 1) := dk_46 (by decide +kernel)
theorem dX3_reckon_25 : decode cX3_reckon 25 = .ok (.istore 5, 2) := dk_54 (by decide +kernel)
theorem dX3_reckon_27 : decode cX3_reckon 27 = .ok (.iload_n 1, 1) := dk_27 (by decide +kernel)
theorem dX3_reckon_28 : decode cX3_reckon 28 = .ok (.iconst 3, 1) := dk_6 (by decide +kernel)
theorem dX3_reckon_29 : decode cX3_reckon 29 = .ok (.if_icmp .ne 11, 3) := dk_160 (a := 0) (b := 11) (by decide +kernel) rfl
theorem dX3_reckon_32 : decode cX3_reckon 32 = .ok (.iload 4, 2) := dk_21 (by decide +kernel)
theorem dX3_reckon_34 : decode cX3_reckon 34 = .ok (.iload 5, 2) := dk_21 (by decide +kernel)
theorem dX3_reckon_36 : decode cX3_reckon 36 = .ok (.iadd, 1) := dk_96 (by decide +kernel)
theorem dX3_reckon_37 : decode cX3_reckon 37 = .ok (.goto 21, 3) := dk_167 (a := 0) (b := 21) (by decide +kernel) rfl
theorem dX3_reckon_40 : decode cX3_reckon 40 = .ok (.iload_n 1, 1) := dk_27 (by decide +kernel)
theorem dX3_reckon_41 : decode cX3_reckon 41 = .ok (.iconst 4, 1) := dk_7 (by decide +kernel)
theorem dX3_reckon_42 : decode cX3_reckon 42 = .ok (.if_icmp .ne 11, 3) := dk_160 (a := 0) (b := 11) (by decide +kernel) rfl
theorem dX3_reckon_45 : decode cX3_reckon 45 = .ok (.iload 4, 2) := dk_21 (by decide +kernel)
theorem dX3_reckon_47 : decode cX3_reckon 47 = .ok (.iload 5, 2) := dk_21 (by decide +kernel)
theorem dX3_reckon_49 : decode cX3_reckon 49 = .ok (.isub, 1) := dk_100 (by decide +kernel)
theorem dX3_reckon_50 : decode cX3_reckon 50 = .ok (.goto 8, 3) := dk_167 (a := 0) (b := 8) (by decide +kernel) rfl
theorem dX3_reckon_53 : decode cX3_reckon 53 = .ok (.iload 4, 2) := dk_21 (by decide +kernel)
theorem dX3_reckon_55 : decode cX3_reckon 55 = .ok (.iload 5, 2) := dk_21 (by decide +kernel)
theorem dX3_reckon_57 : decode cX3_reckon 57 = .ok (.imul, 1) := dk_104 (by decide +kernel)
theorem dX3_reckon_58 : decode cX3_reckon 58 = .ok (.istore 6, 2) := dk_54 (by decide +kernel)
theorem dX3_reckon_60 : decode cX3_reckon 60 = .ok (.aload_n 0, 1) := dk_42 (by decide +kernel)
theorem dX3_reckon_61 : decode cX3_reckon 61 = .ok (.iload_n 2, 1) := dk_28 (by decide +kernel)
theorem dX3_reckon_62 : decode cX3_reckon 62 = .ok (.iconst 0, 1) := dk_3 (by decide +kernel)
theorem dX3_reckon_63 : decode cX3_reckon 63 = .ok (.iload 6, 2) := dk_21 (by decide +kernel)
theorem dX3_reckon_65 : decode cX3_reckon 65 = .ok (.invokevirtual 135, 3) := dk_182 (a := 0) (b := 135) (by decide +kernel) rfl
theorem dX3_reckon_68 : decode cX3_reckon 68 = .ok (.ireturn, 1) := dk_172 (by decide +kernel)
theorem dX3_goTo_0 : decode cX3_goTo 0 = .ok (.aload_n 0, 1) := dk_42 (by decide +kernel)
theorem dX3_goTo_1 : decode cX3_goTo 1 = .ok (.iload_n 1, 1) := dk_27 (by decide +kernel)
theorem dX3_goTo_2 : decode cX3_goTo 2 = .ok (.putfield 126, 3) := dk_181 (a := 0) (b := 126) (by decide +kernel) rfl
theorem dX3_goTo_5 : decode cX3_goTo 5 = .ok (.iconst 0, 1) := dk_3 (by decide +kernel)
theorem dX3_goTo_6 : decode cX3_goTo 6 = .ok (.ireturn, 1) := dk_172 (by decide +kernel)
theorem dX3_goUnless_0 : decode cX3_goUnless 0 = .ok (.aload_n 0, 1) := dk_42 (by decide +kernel)
theorem dX3_goUnless_1 : decode cX3_goUnless 1 = .ok (.getfield 9, 3) := dk_180 (a := 0) (b := 9) (by decide +kernel) rfl
theorem dX3_goUnless_4 : decode cX3_goUnless 4 = .ok (.iload_n 1, 1) := dk_27 (by decide +kernel)
theorem dX3_goUnless_5 : decode cX3_goUnless 5 = .ok (.iaload, 1) := dk_46 (by decide +kernel)
theorem dX3_goUnless_6 : decode cX3_goUnless 6 = .ok (.ifCond .eq 5, 3) := dk_153 (a := 0) (b := 5) (by decide +kernel) rfl
theorem dX3_goUnless_9 : decode cX3_goUnless 9 = .ok (.iconst 1, 1) := dk_4 (by decide +kernel)
theorem dX3_goUnless_10 : decode cX3_goUnless 10 = .ok (.ireturn, 1) := dk_172 (by decide +kernel)
theorem dX3_goUnless_11 : decode cX3_goUnless 11 = .ok (.aload_n 0, 1) := dk_42 (by decide +kernel)
theorem dX3_goUnless_12 : decode cX3_goUnless 12 = .ok (.getfield 15, 3) := dk_180 (a := 0) (b := 15) (by decide +kernel) rfl
theorem dX3_goUnless_15 : decode cX3_goUnless 15 = .ok (.iload_n 1, 1) := dk_27 (by decide +kernel)
theorem dX3_goUnless_16 : decode cX3_goUnless 16 = .ok (.iaload, 1) := dk_46 (by decide +kernel)
theorem dX3_goUnless_17 : decode cX3_goUnless 17 = .ok (.ifCond .ne 11, 3) := dk_154 (a := 0) (b := 11) (by decide +kernel) rfl
theorem dX3_goUnless_20 : decode cX3_goUnless 20 = .ok (.aload_n 0, 1) := dk_42 (by decide +kernel)
theorem dX3_goUnless_21 : decode cX3_goUnless 21 = .ok (.iload_n 2, 1) := dk_28 (by decide +kernel)
theorem dX3_goUnless_22 : decode cX3_goUnless 22 = .ok (.invokevirtual 153, 3) := dk_182 (a := 0) (b := 153) (by decide +kernel) rfl
theorem dX3_goUnless_25 : decode cX3_goUnless 25 = .ok (.goto 4, 3) := dk_167 (a := 0) (b := 4) (by decide +kernel) rfl
theorem dX3_goUnless_28 : decode cX3_goUnless 28 = .ok (.iconst 0, 1) := dk_3 (by decide +kernel)
theorem dX3_goUnless_29 : decode cX3_goUnless 29 = .ok (.ireturn, 1) := dk_172 (by decide +kernel)
theorem dX3_makeThing_0 : decode cX3_makeThing 0 = .ok (.aload_n 0, 1) := dk_42 (by decide +kernel)
theorem dX3_makeThing_1 : decode cX3_makeThing 1 = .ok (.getfield 60, 3) := dk_180 (a := 0) (b := 60) (by decide +kernel) rfl
theorem dX3_makeThing_4 : decode cX3_makeThing 4 = .ok (.istore 4, 2) := dk_54 (by decide +kernel)
theorem dX3_makeThing_6 : decode cX3_makeThing 6 = .ok (.aload_n 0, 1) := dk_42 (by decide +kernel)
theorem dX3_makeThing_7 : decode cX3_makeThing 7 = .ok (.dup, 1) := dk_89 (by decide +kernel)
theorem dX3_makeThing_8 : decode cX3_makeThing 8 = .ok (.getfield 60, 3) := dk_180 (a := 0) (b := 60) (by decide +kernel) rfl
theorem dX3_makeThing_11 : decode cX3_makeThing 11 = .ok (.iconst 1, 1) := dk_4 (by decide +kernel)
theorem dX3_makeThing_12 : decode cX3_makeThing 12 = .ok (.iadd, 1) := dk_96 (by decide +kernel)
theorem dX3_makeThing_13 : decode cX3_makeThing 13 = .ok (.putfield 60, 3) := dk_181 (a := 0) (b := 60) (by decide +kernel) rfl
theorem dX3_makeThing_16 : decode cX3_makeThing 16 = .ok (.aload_n 0, 1) := dk_42 (by decide +kernel)
theorem dX3_makeThing_17 : decode cX3_makeThing 17 = .ok (.getfield 27, 3) := dk_180 (a := 0) (b := 27) (by decide +kernel) rfl
theorem dX3_makeThing_20 : decode cX3_makeThing 20 = .ok (.iload 4, 2) := dk_21 (by decide +kernel)
theorem dX3_makeThing_22 : decode cX3_makeThing 22 = .ok (.iload_n 2, 1) := dk_28 (by decide +kernel)
theorem dX3_makeThing_23 : decode cX3_makeThing 23 = .ok (.iastore, 1) := dk_79 (by decide +kernel)
theorem dX3_makeThing_24 : decode cX3_makeThing 24 = .ok (.aload_n 0, 1) := dk_42 (by decide +kernel)
theorem dX3_makeThing_25 : decode cX3_makeThing 25 = .ok (.getfield 30, 3) := dk_180 (a := 0) (b := 30) (by decide +kernel) rfl
theorem dX3_makeThing_28 : decode cX3_makeThing 28 = .ok (.iload 4, 2) := dk_21 (by decide +kernel)
theorem dX3_makeThing_30 : decode cX3_makeThing 30 = .ok (.iload_n 3, 1) := dk_29 (by decide +kernel)
theorem dX3_makeThing_31 : decode cX3_makeThing 31 = .ok (.iastore, 1) := dk_79 (by decide +kernel)
theorem dX3_makeThing_32 : decode cX3_makeThing 32 = .ok (.aload_n 0, 1) := dk_42 (by decide +kernel)
theorem dX3_makeThing_33 : decode cX3_makeThing 33 = .ok (.getfield 33, 3) := dk_180 (a := 0) (b := 33) (by decide +kernel) rfl
theorem dX3_makeThing_36 : decode cX3_makeThing 36 = .ok (.iload 4, 2) := dk_21 (by decide +kernel)
theorem dX3_makeThing_38 : decode cX3_makeThing 38 = .ok (.bipush (-2), 2) := dk_16 (a := 254) (by decide +kernel) rfl
theorem dX3_makeThing_40 : decode cX3_makeThing 40 = .ok (.iastore, 1) := dk_79 (by decide +kernel)
theorem dX3_makeThing_41 : decode cX3_makeThing 41 = .ok (.aload_n 0, 1) := dk_42 (by decide +kernel)
theorem dX3_makeThing_42 : decode cX3_makeThing 42 = .ok (.getfield 9, 3) := dk_180 (a := 0) (b := 9) (by decide +kernel) rfl
theorem dX3_makeThing_45 : decode cX3_makeThing 45 = .ok (.iload_n 1, 1) := dk_27 (by decide +kernel)
theorem dX3_makeThing_46 : decode cX3_makeThing 46 = .ok (.iload_n 2, 1) := dk_28 (by decide +kernel)
theorem dX3_makeThing_47 : decode cX3_makeThing 47 = .ok (.iastore, 1) := dk_79 (by decide +kernel)
theorem dX3_makeThing_48 : decode cX3_makeThing 48 = .ok (.aload_n 0, 1) := dk_42 (by decide +kernel)
theorem dX3_makeThing_49 : decode cX3_makeThing 49 = .ok (.getfield 15, 3) := dk_180 (a := 0) (b := 15) (by decide +kernel) rfl
theorem dX3_makeThing_52 : decode cX3_makeThing 52 = .ok (.iload_n 1, 1) := dk_27 (by decide +kernel)
theorem dX3_makeThing_53 : decode cX3_makeThing 53 = .ok (.iload 4, 2) := dk_21 (by decide +kernel)
theorem dX3_makeThing_55 : decode cX3_makeThing 55 = .ok (.iastore, 1) := dk_79 (by decide +kernel)
theorem dX3_makeThing_56 : decode cX3_makeThing 56 = .ok (.iconst 0, 1) := dk_3 (by decide +kernel)
theorem dX3_makeThing_57 : decode cX3_makeThing 57 = .ok (.ireturn, 1) := dk_172 (by decide +kernel)
theorem dX3_makeRow_0 : decode cX3_makeRow 0 = .ok (.aload_n 0, 1) := dk_42 (by decide +kernel)
theorem dX3_makeRow_1 : decode cX3_makeRow 1 = .ok (.getfield 9, 3) := dk_180 (a := 0) (b := 9) (by decide +kernel) rfl
theorem dX3_makeRow_4 : decode cX3_makeRow 4 = .ok (.iload_n 2, 1) := dk_28 (by decide +kernel)
theorem dX3_makeRow_5 : decode cX3_makeRow 5 = .ok (.iaload, 1) := dk_46 (by decide +kernel)
theorem dX3_makeRow_6 : decode cX3_makeRow 6 = .ok (.ifCond .eq 5, 3) := dk_153 (a := 0) (b := 5) (by decide +kernel) rfl
theorem dX3_makeRow_9 : decode cX3_makeRow 9 = .ok (.iconst 1, 1) := dk_4 (by decide +kernel)
theorem dX3_makeRow_10 : decode cX3_makeRow 10 = .ok (.ireturn, 1) := dk_172 (by decide +kernel)
theorem dX3_makeRow_11 : decode cX3_makeRow 11 = .ok (.aload_n 0, 1) := dk_42 (by decide +kernel)
theorem dX3_makeRow_12 : decode cX3_makeRow 12 = .ok (.getfield 15, 3) := dk_180 (a := 0) (b := 15) (by decide +kernel) rfl
theorem dX3_makeRow_15 : decode cX3_makeRow 15 = .ok (.iload_n 2, 1) := dk_28 (by decide +kernel)
theorem dX3_makeRow_16 : decode cX3_makeRow 16 = .ok (.iaload, 1) := dk_46 (by decide +kernel)
theorem dX3_makeRow_17 : decode cX3_makeRow 17 = .ok (.istore_n 3, 1) := dk_62 (by decide +kernel)
theorem dX3_makeRow_18 : decode cX3_makeRow 18 = .ok (.iload_n 3, 1) := dk_29 (by decide +kernel)
theorem dX3_makeRow_19 : decode cX3_makeRow 19 = .ok (.ifCond .ge 5, 3) := dk_156 (a := 0) (b := 5) (by decide +kernel) rfl
theorem dX3_makeRow_22 : decode cX3_makeRow 22 = .ok (.iconst 2, 1) := dk_5 (by decide +kernel)
theorem dX3_makeRow_23 : decode cX3_makeRow 23 = .ok (.ireturn, 1) := dk_172 (by decide +kernel)
theorem dX3_makeRow_24 : decode cX3_makeRow 24 = .ok (.iload_n 3, 1) := dk_29 (by decide +kernel)
theorem dX3_makeRow_25 : decode cX3_makeRow 25 = .ok (.bipush 16, 2) := dk_16 (a := 16) (by decide +kernel) rfl
theorem dX3_makeRow_27 : decode cX3_makeRow 27 = .ok (.if_icmp .gt 12, 3) := dk_163 (a := 0) (b := 12) (by decide +kernel) rfl
theorem dX3_makeRow_30 : decode cX3_makeRow 30 = .ok (.aload_n 0, 1) := dk_42 (by decide +kernel)
theorem dX3_makeRow_31 : decode cX3_makeRow 31 = .ok (.getfield 60, 3) := dk_180 (a := 0) (b := 60) (by decide +kernel) rfl
theorem dX3_makeRow_34 : decode cX3_makeRow 34 = .ok (.bipush 12, 2) := dk_16 (a := 12) (by decide +kernel) rfl
theorem dX3_makeRow_36 : decode cX3_makeRow 36 = .ok (.if_icmp .lt 5, 3) := dk_161 (a := 0) (b := 5) (by decide +kernel) rfl
theorem dX3_makeRow_39 : decode cX3_makeRow 39 = .ok (.iconst 3, 1) := dk_6 (by decide +kernel)
theorem dX3_makeRow_40 : decode cX3_makeRow 40 = .ok (.ireturn, 1) := dk_172 (by decide +kernel)
theorem dX3_makeRow_41 : decode cX3_makeRow 41 = .ok (.iconst 0, 1) := dk_3 (by decide +kernel)
theorem dX3_makeRow_42 : decode cX3_makeRow 42 = .ok (.istore 4, 2) := dk_54 (by decide +kernel)
theorem dX3_makeRow_44 : decode cX3_makeRow 44 = .ok (.iload 4, 2) := dk_21 (by decide +kernel)
theorem dX3_makeRow_46 : decode cX3_makeRow 46 = .ok (.iload_n 3, 1) := dk_29 (by decide +kernel)
theorem dX3_makeRow_47 : decode cX3_makeRow 47 = .ok (.if_icmp .ge 25, 3) := dk_162 (a := 0) (b := 25) (by decide +kernel) rfl
theorem dX3_makeRow_50 : decode cX3_makeRow 50 = .ok (.aload_n 0, 1) := dk_42 (by decide +kernel)
theorem dX3_makeRow_51 : decode cX3_makeRow 51 = .ok (.getfield 36, 3) := dk_180 (a := 0) (b := 36) (by decide +kernel) rfl
theorem dX3_makeRow_54 : decode cX3_makeRow 54 = .ok (.aload_n 0, 1) := dk_42 (by decide +kernel)
theorem dX3_makeRow_55 : decode cX3_makeRow 55 = .ok (.getfield 60, 3) := dk_180 (a := 0) (b := 60) (by decide +kernel) rfl
theorem dX3_makeRow_58 : decode cX3_makeRow 58 = .ok (.bipush 16, 2) := dk_16 (a := 16) (by decide +kernel) rfl
theorem dX3_makeRow_60 : decode cX3_makeRow 60 = .ok (.imul, 1) := dk_104 (by decide +kernel)
theorem dX3_makeRow_61 : decode cX3_makeRow 61 = .ok (.iload 4, 2) := dk_21 (by decide +kernel)
theorem dX3_makeRow_63 : decode cX3_makeRow 63 = .ok (.iadd, 1) := dk_96 (by decide +kernel)
theorem dX3_makeRow_64 : decode cX3_makeRow 64 = .ok (.iconst 0, 1) := dk_3 (by decide +kernel)
theorem dX3_makeRow_65 : decode cX3_makeRow 65 = .ok (.iastore, 1) := dk_79 (by decide +kernel)
theorem dX3_makeRow_66 : decode cX3_makeRow 66 = .ok (.iinc 4 1, 3) := dk_132 (b := 1) (by decide +kernel) rfl
theorem dX3_makeRow_69 : decode cX3_makeRow 69 = .ok (.goto (-25), 3) := dk_167 (a := 255) (b := 231) (by decide +kernel) rfl
theorem dX3_makeRow_72 : decode cX3_makeRow 72 = .ok (.aload_n 0, 1) := dk_42 (by decide +kernel)
theorem dX3_makeRow_73 : decode cX3_makeRow 73 = .ok (.iload_n 1, 1) := dk_27 (by decide +kernel)
theorem dX3_makeRow_74 : decode cX3_makeRow 74 = .ok (.iconst 1, 1) := dk_4 (by decide +kernel)
theorem dX3_makeRow_75 : decode cX3_makeRow 75 = .ok (.iload_n 3, 1) := dk_29 (by decide +kernel)
theorem dX3_makeRow_76 : decode cX3_makeRow 76 = .ok (.invokevirtual 193, 3) := dk_182 (a := 0) (b := 193) (by decide +kernel) rfl
theorem dX3_makeRow_79 : decode cX3_makeRow 79 = .ok (.ireturn, 1) := dk_172 (by decide +kernel)
theorem dX3_makeLock_0 : decode cX3_makeLock 0 = .ok (.aload_n 0, 1) := dk_42 (by decide +kernel)
theorem dX3_makeLock_1 : decode cX3_makeLock 1 = .ok (.getfield 60, 3) := dk_180 (a := 0) (b := 60) (by decide +kernel) rfl
theorem dX3_makeLock_4 : decode cX3_makeLock 4 = .ok (.bipush 12, 2) := dk_16 (a := 12) (by decide +kernel) rfl
theorem dX3_makeLock_6 : decode cX3_makeLock 6 = .ok (.if_icmp .lt 5, 3) := dk_161 (a := 0) (b := 5) (by decide +kernel) rfl
theorem dX3_makeLock_9 : decode cX3_makeLock 9 = .ok (.iconst 3, 1) := dk_6 (by decide +kernel)
theorem dX3_makeLock_10 : decode cX3_makeLock 10 = .ok (.ireturn, 1) := dk_172 (by decide +kernel)
theorem dX3_makeLock_11 : decode cX3_makeLock 11 = .ok (.aload_n 0, 1) := dk_42 (by decide +kernel)
theorem dX3_makeLock_12 : decode cX3_makeLock 12 = .ok (.iload_n 1, 1) := dk_27 (by decide +kernel)
theorem dX3_makeLock_13 : decode cX3_makeLock 13 = .ok (.iload_n 2, 1) := dk_28 (by decide +kernel)
theorem dX3_makeLock_14 : decode cX3_makeLock 14 = .ok (.ifCond .eq 7, 3) := dk_153 (a := 0) (b := 7) (by decide +kernel) rfl
theorem dX3_makeLock_17 : decode cX3_makeLock 17 = .ok (.iconst 3, 1) := dk_6 (by decide +kernel)
theorem dX3_makeLock_18 : decode cX3_makeLock 18 = .ok (.goto 4, 3) := dk_167 (a := 0) (b := 4) (by decide +kernel) rfl
theorem dX3_makeLock_21 : decode cX3_makeLock 21 = .ok (.iconst 2, 1) := dk_5 (by decide +kernel)
theorem dX3_makeLock_22 : decode cX3_makeLock 22 = .ok (.iconst 0, 1) := dk_3 (by decide +kernel)
theorem dX3_makeLock_23 : decode cX3_makeLock 23 = .ok (.invokevirtual 193, 3) := dk_182 (a := 0) (b := 193) (by decide +kernel) rfl
theorem dX3_makeLock_26 : decode cX3_makeLock 26 = .ok (.ireturn, 1) := dk_172 (by decide +kernel)
theorem dX3_readRow_0 : decode cX3_readRow 0 = .ok (.aload_n 0, 1) := dk_42 (by decide +kernel)
theorem dX3_readRow_1 : decode cX3_readRow 1 = .ok (.getfield 9, 3) := dk_180 (a := 0) (b := 9) (by decide +kernel) rfl
theorem dX3_readRow_4 : decode cX3_readRow 4 = .ok (.iload_n 2, 1) := dk_28 (by decide +kernel)
theorem dX3_readRow_5 : decode cX3_readRow 5 = .ok (.iaload, 1) := dk_46 (by decide +kernel)
theorem dX3_readRow_6 : decode cX3_readRow 6 = .ok (.iconst 1, 1) := dk_4 (by decide +kernel)
theorem dX3_readRow_7 : decode cX3_readRow 7 = .ok (.if_icmp .ne 12, 3) := dk_160 (a := 0) (b := 12) (by decide +kernel) rfl
theorem dX3_readRow_10 : decode cX3_readRow 10 = .ok (.aload_n 0, 1) := dk_42 (by decide +kernel)
theorem dX3_readRow_11 : decode cX3_readRow 11 = .ok (.getfield 9, 3) := dk_180 (a := 0) (b := 9) (by decide +kernel) rfl
theorem dX3_readRow_14 : decode cX3_readRow 14 = .ok (.iload_n 3, 1) := dk_29 (by decide +kernel)
theorem dX3_readRow_15 : decode cX3_readRow 15 = .ok (.iaload, 1) := dk_46 (by decide +kernel)
theorem dX3_readRow_16 : decode cX3_readRow 16 = .ok (.ifCond .eq 5, 3) := dk_153 (a := 0) (b := 5) (by decide +kernel) rfl
theorem dX3_readRow_19 : decode cX3_readRow 19 = .ok (.iconst 1, 1) := dk_4 (by decide +kernel)
theorem dX3_readRow_20 : decode cX3_readRow 20 = .ok (.ireturn, 1) := dk_172 (by decide +kernel)
theorem dX3_readRow_21 : decode cX3_readRow 21 = .ok (.aload_n 0, 1) := dk_42 (by decide +kernel)
theorem dX3_readRow_22 : decode cX3_readRow 22 = .ok (.getfield 15, 3) := dk_180 (a := 0) (b := 15) (by decide +kernel) rfl
theorem dX3_readRow_25 : decode cX3_readRow 25 = .ok (.iload_n 2, 1) := dk_28 (by decide +kernel)
theorem dX3_readRow_26 : decode cX3_readRow 26 = .ok (.iaload, 1) := dk_46 (by decide +kernel)
theorem dX3_readRow_27 : decode cX3_readRow 27 = .ok (.istore 4, 2) := dk_54 (by decide +kernel)
theorem dX3_readRow_29 : decode cX3_readRow 29 = .ok (.aload_n 0, 1) := dk_42 (by decide +kernel)
theorem dX3_readRow_30 : decode cX3_readRow 30 = .ok (.getfield 15, 3) := dk_180 (a := 0) (b := 15) (by decide +kernel) rfl
theorem dX3_readRow_33 : decode cX3_readRow 33 = .ok (.iload_n 3, 1) := dk_29 (by decide +kernel)
theorem dX3_readRow_34 : decode cX3_readRow 34 = .ok (.iaload, 1) := dk_46 (by decide +kernel)
theorem dX3_readRow_35 : decode cX3_readRow 35 = .ok (.istore 5, 2) := dk_54 (by decide +kernel)
theorem dX3_readRow_37 : decode cX3_readRow 37 = .ok (.aload_n 0, 1) := dk_42 (by decide +kernel)
theorem dX3_readRow_38 : decode cX3_readRow 38 = .ok (.iload 4, 2) := dk_21 (by decide +kernel)
theorem dX3_readRow_40 : decode cX3_readRow 40 = .ok (.iload 5, 2) := dk_21 (by decide +kernel)
theorem dX3_readRow_42 : decode cX3_readRow 42 = .ok (.invokevirtual 196, 3) := dk_182 (a := 0) (b := 196) (by decide +kernel) rfl
theorem dX3_readRow_45 : decode cX3_readRow 45 = .ok (.ifCond .ne 5, 3) := dk_154 (a := 0) (b := 5) (by decide +kernel) rfl
theorem dX3_readRow_48 : decode cX3_readRow 48 = .ok (.iconst 4, 1) := dk_7 (by decide +kernel)
theorem dX3_readRow_49 : decode cX3_readRow 49 = .ok (.ireturn, 1) := dk_172 (by decide +kernel)
theorem dX3_readRow_50 : decode cX3_readRow 50 = .ok (.aload_n 0, 1) := dk_42 (by decide +kernel)
theorem dX3_readRow_51 : decode cX3_readRow 51 = .ok (.bipush 100, 2) := dk_16 (a := 100) (by decide +kernel) rfl
theorem dX3_readRow_53 : decode cX3_readRow 53 = .ok (.iload 4, 2) := dk_21 (by decide +kernel)
theorem dX3_readRow_55 : decode cX3_readRow 55 = .ok (.bipush 20, 2) := dk_16 (a := 20) (by decide +kernel) rfl
theorem dX3_readRow_57 : decode cX3_readRow 57 = .ok (.imul, 1) := dk_104 (by decide +kernel)
theorem dX3_readRow_58 : decode cX3_readRow 58 = .ok (.iadd, 1) := dk_96 (by decide +kernel)
theorem dX3_readRow_59 : decode cX3_readRow 59 = .ok (.iload 5, 2) := dk_21 (by decide +kernel)
theorem dX3_readRow_61 : decode cX3_readRow 61 = .ok (.iadd, 1) := dk_96 (by decide +kernel)
theorem dX3_readRow_62 : decode cX3_readRow 62 = .ok (.putfield 114, 3) := dk_181 (a := 0) (b := 114) (by decide +kernel) rfl
theorem dX3_readRow_65 : decode cX3_readRow 65 = .ok (.aload_n 0, 1) := dk_42 (by decide +kernel)
theorem dX3_readRow_66 : decode cX3_readRow 66 = .ok (.iload_n 1, 1) := dk_27 (by decide +kernel)
theorem dX3_readRow_67 : decode cX3_readRow 67 = .ok (.iconst 0, 1) := dk_3 (by decide +kernel)
theorem dX3_readRow_68 : decode cX3_readRow 68 = .ok (.aload_n 0, 1) := dk_42 (by decide +kernel)
theorem dX3_readRow_69 : decode cX3_readRow 69 = .ok (.getfield 36, 3) := dk_180 (a := 0) (b := 36) (by decide +kernel) rfl
theorem dX3_readRow_72 : decode cX3_readRow 72 = .ok (.iload 4, 2) := dk_21 (by decide +kernel)
theorem dX3_readRow_74 : decode cX3_readRow 74 = .ok (.bipush 16, 2) := dk_16 (a := 16) (by decide +kernel) rfl
theorem dX3_readRow_76 : decode cX3_readRow 76 = .ok (.imul, 1) := dk_104 (by decide +kernel)
theorem dX3_readRow_77 : decode cX3_readRow 77 = .ok (.iload 5, 2) := dk_21 (by decide +kernel)
theorem dX3_readRow_79 : decode cX3_readRow 79 = .ok (.iadd, 1) := dk_96 (by decide +kernel)
theorem dX3_readRow_80 : decode cX3_readRow 80 = .ok (.iaload, 1) := dk_46 (by decide +kernel)
theorem dX3_readRow_81 : decode cX3_readRow 81 = .ok (.invokevirtual 135, 3) := dk_182 (a := 0) (b := 135) (by decide +kernel) rfl
theorem dX3_readRow_84 : decode cX3_readRow 84 = .ok (.ireturn, 1) := dk_172 (by decide +kernel)
theorem dX3_writeRow_0 : decode cX3_writeRow 0 = .ok (.aload_n 0, 1) := dk_42 (by decide +kernel)
theorem dX3_writeRow_1 : decode cX3_writeRow 1 = .ok (.getfield 9, 3) := dk_180 (a := 0) (b := 9) (by decide +kernel) rfl
theorem dX3_writeRow_4 : decode cX3_writeRow 4 = .ok (.iload_n 1, 1) := dk_27 (by decide +kernel)
theorem dX3_writeRow_5 : decode cX3_writeRow 5 = .ok (.iaload, 1) := dk_46 (by decide +kernel)
theorem dX3_writeRow_6 : decode cX3_writeRow 6 = .ok (.iconst 1, 1) := dk_4 (by decide +kernel)
theorem dX3_writeRow_7 : decode cX3_writeRow 7 = .ok (.if_icmp .ne 12, 3) := dk_160 (a := 0) (b := 12) (by decide +kernel) rfl
theorem dX3_writeRow_10 : decode cX3_writeRow 10 = .ok (.aload_n 0, 1) := dk_42 (by decide +kernel)
theorem dX3_writeRow_11 : decode cX3_writeRow 11 = .ok (.iload_n 2, 1) := dk_28 (by decide +kernel)
theorem dX3_writeRow_12 : decode cX3_writeRow 12 = .ok (.iload_n 3, 1) := dk_29 (by decide +kernel)
theorem dX3_writeRow_13 : decode cX3_writeRow 13 = .ok (.invokevirtual 190, 3) := dk_182 (a := 0) (b := 190) (by decide +kernel) rfl
theorem dX3_writeRow_16 : decode cX3_writeRow 16 = .ok (.ifCond .ne 5, 3) := dk_154 (a := 0) (b := 5) (by decide +kernel) rfl
theorem dX3_writeRow_19 : decode cX3_writeRow 19 = .ok (.iconst 1, 1) := dk_4 (by decide +kernel)
theorem dX3_writeRow_20 : decode cX3_writeRow 20 = .ok (.ireturn, 1) := dk_172 (by decide +kernel)
theorem dX3_writeRow_21 : decode cX3_writeRow 21 = .ok (.aload_n 0, 1) := dk_42 (by decide +kernel)
theorem dX3_writeRow_22 : decode cX3_writeRow 22 = .ok (.getfield 15, 3) := dk_180 (a := 0) (b := 15) (by decide +kernel) rfl
theorem dX3_writeRow_25 : decode cX3_writeRow 25 = .ok (.iload_n 1, 1) := dk_27 (by decide +kernel)
theorem dX3_writeRow_26 : decode cX3_writeRow 26 = .ok (.iaload, 1) := dk_46 (by decide +kernel)
theorem dX3_writeRow_27 : decode cX3_writeRow 27 = .ok (.istore 4, 2) := dk_54 (by decide +kernel)
theorem dX3_writeRow_29 : decode cX3_writeRow 29 = .ok (.aload_n 0, 1) := dk_42 (by decide +kernel)
theorem dX3_writeRow_30 : decode cX3_writeRow 30 = .ok (.getfield 15, 3) := dk_180 (a := 0) (b := 15) (by decide +kernel) rfl
theorem dX3_writeRow_33 : decode cX3_writeRow 33 = .ok (.iload_n 2, 1) := dk_28 (by decide +kernel)
theorem dX3_writeRow_34 : decode cX3_writeRow 34 = .ok (.iaload, 1) := dk_46 (by decide +kernel)
theorem dX3_writeRow_35 : decode cX3_writeRow 35 = .ok (.istore 5, 2) := dk_54 (by decide +kernel)
theorem dX3_writeRow_37 : decode cX3_writeRow 37 = .ok (.aload_n 0, 1) := dk_42 (by decide +kernel)
theorem dX3_writeRow_38 : decode cX3_writeRow 38 = .ok (.iload 4, 2) := dk_21 (by decide +kernel)
theorem dX3_writeRow_40 : decode cX3_writeRow 40 = .ok (.iload 5, 2) := dk_21 (by decide +kernel)
theorem dX3_writeRow_42 : decode cX3_writeRow 42 = .ok (.invokevirtual 196, 3) := dk_182 (a := 0) (b := 196) (by decide +kernel) rfl
theorem dX3_writeRow_45 : decode cX3_writeRow 45 = .ok (.ifCond .ne 5, 3) := dk_154 (a := 0) (b := 5) (by decide +kernel) rfl
theorem dX3_writeRow_48 : decode cX3_writeRow 48 = .ok (.iconst 4, 1) := dk_7 (by decide +kernel)
theorem dX3_writeRow_49 : decode cX3_writeRow 49 = .ok (.ireturn, 1) := dk_172 (by decide +kernel)
theorem dX3_writeRow_50 : decode cX3_writeRow 50 = .ok (.aload_n 0, 1) := dk_42 (by decide +kernel)
theorem dX3_writeRow_51 : decode cX3_writeRow 51 = .ok (.bipush 100, 2) := dk_16 (a := 100) (by decide +kernel) rfl
theorem dX3_writeRow_53 : decode cX3_writeRow 53 = .ok (.iload 4, 2) := dk_21 (by decide +kernel)
theorem dX3_writeRow_55 : decode cX3_writeRow 55 = .ok (.bipush 20, 2) := dk_16 (a := 20) (by decide +kernel) rfl
theorem dX3_writeRow_57 : decode cX3_writeRow 57 = .ok (.imul, 1) := dk_104 (by decide +kernel)
theorem dX3_writeRow_58 : decode cX3_writeRow 58 = .ok (.iadd, 1) := dk_96 (by decide +kernel)
theorem dX3_writeRow_59 : decode cX3_writeRow 59 = .ok (.iload 5, 2) := dk_21 (by decide +kernel)
theorem dX3_writeRow_61 : decode cX3_writeRow 61 = .ok (.iadd, 1) := dk_96 (by decide +kernel)
theorem dX3_writeRow_62 : decode cX3_writeRow 62 = .ok (.putfield 117, 3) := dk_181 (a := 0) (b := 117) (by decide +kernel) rfl
theorem dX3_writeRow_65 : decode cX3_writeRow 65 = .ok (.aload_n 0, 1) := dk_42 (by decide +kernel)
theorem dX3_writeRow_66 : decode cX3_writeRow 66 = .ok (.getfield 36, 3) := dk_180 (a := 0) (b := 36) (by decide +kernel) rfl
theorem dX3_writeRow_69 : decode cX3_writeRow 69 = .ok (.iload 4, 2) := dk_21 (by decide +kernel)
theorem dX3_writeRow_71 : decode cX3_writeRow 71 = .ok (.bipush 16, 2) := dk_16 (a := 16) (by decide +kernel) rfl
theorem dX3_writeRow_73 : decode cX3_writeRow 73 = .ok (.imul, 1) := dk_104 (by decide +kernel)
theorem dX3_writeRow_74 : decode cX3_writeRow 74 = .ok (.iload 5, 2) := dk_21 (by decide +kernel)
theorem dX3_writeRow_76 : decode cX3_writeRow 76 = .ok (.iadd, 1) := dk_96 (by decide +kernel)
theorem dX3_writeRow_77 : decode cX3_writeRow 77 = .ok (.aload_n 0, 1) := dk_42 (by decide +kernel)
theorem dX3_writeRow_78 : decode cX3_writeRow 78 = .ok (.getfield 15, 3) := dk_180 (a := 0) (b := 15) (by decide +kernel) rfl
theorem dX3_writeRow_81 : decode cX3_writeRow 81 = .ok (.iload_n 3, 1) := dk_29 (by decide +kernel)
theorem dX3_writeRow_82 : decode cX3_writeRow 82 = .ok (.iaload, 1) := dk_46 (by decide +kernel)
theorem dX3_writeRow_83 : decode cX3_writeRow 83 = .ok (.iastore, 1) := dk_79 (by decide +kernel)
theorem dX3_writeRow_84 : decode cX3_writeRow 84 = .ok (.iconst 0, 1) := dk_3 (by decide +kernel)
theorem dX3_writeRow_85 : decode cX3_writeRow 85 = .ok (.ireturn, 1) := dk_172 (by decide +kernel)
theorem dX3_takeLock_0 : decode cX3_takeLock 0 = .ok (.aload_n 0, 1) := dk_42 (by decide +kernel)
theorem dX3_takeLock_1 : decode cX3_takeLock 1 = .ok (.iload_n 2, 1) := dk_28 (by decide +kernel)
theorem dX3_takeLock_2 : decode cX3_takeLock 2 = .ok (.invokevirtual 88, 3) := dk_182 (a := 0) (b := 88) (by decide +kernel) rfl
theorem dX3_takeLock_5 : decode cX3_takeLock 5 = .ok (.istore_n 3, 1) := dk_62 (by decide +kernel)
theorem dX3_takeLock_6 : decode cX3_takeLock 6 = .ok (.iload_n 3, 1) := dk_29 (by decide +kernel)
theorem dX3_takeLock_7 : decode cX3_takeLock 7 = .ok (.ifCond .ge 5, 3) := dk_156 (a := 0) (b := 5) (by decide +kernel) rfl
theorem dX3_takeLock_10 : decode cX3_takeLock 10 = .ok (.iconst 1, 1) := dk_4 (by decide +kernel)
theorem dX3_takeLock_11 : decode cX3_takeLock 11 = .ok (.ireturn, 1) := dk_172 (by decide +kernel)
theorem dX3_takeLock_12 : decode cX3_takeLock 12 = .ok (.aload_n 0, 1) := dk_42 (by decide +kernel)
theorem dX3_takeLock_13 : decode cX3_takeLock 13 = .ok (.getfield 33, 3) := dk_180 (a := 0) (b := 33) (by decide +kernel) rfl
theorem dX3_takeLock_16 : decode cX3_takeLock 16 = .ok (.iload_n 3, 1) := dk_29 (by decide +kernel)
theorem dX3_takeLock_17 : decode cX3_takeLock 17 = .ok (.iaload, 1) := dk_46 (by decide +kernel)
theorem dX3_takeLock_18 : decode cX3_takeLock 18 = .ok (.iload_n 1, 1) := dk_27 (by decide +kernel)
theorem dX3_takeLock_19 : decode cX3_takeLock 19 = .ok (.if_icmp .ne 5, 3) := dk_160 (a := 0) (b := 5) (by decide +kernel) rfl
theorem dX3_takeLock_22 : decode cX3_takeLock 22 = .ok (.iconst 5, 1) := dk_8 (by decide +kernel)
theorem dX3_takeLock_23 : decode cX3_takeLock 23 = .ok (.ireturn, 1) := dk_172 (by decide +kernel)
theorem dX3_takeLock_24 : decode cX3_takeLock 24 = .ok (.aload_n 0, 1) := dk_42 (by decide +kernel)
theorem dX3_takeLock_25 : decode cX3_takeLock 25 = .ok (.iload_n 1, 1) := dk_27 (by decide +kernel)
theorem dX3_takeLock_26 : decode cX3_takeLock 26 = .ok (.iload_n 3, 1) := dk_29 (by decide +kernel)
theorem dX3_takeLock_27 : decode cX3_takeLock 27 = .ok (.invokevirtual 199, 3) := dk_182 (a := 0) (b := 199) (by decide +kernel) rfl
theorem dX3_takeLock_30 : decode cX3_takeLock 30 = .ok (.ireturn, 1) := dk_172 (by decide +kernel)
theorem dX3_own_0 : decode cX3_own 0 = .ok (.aload_n 0, 1) := dk_42 (by decide +kernel)
theorem dX3_own_1 : decode cX3_own 1 = .ok (.getfield 33, 3) := dk_180 (a := 0) (b := 33) (by decide +kernel) rfl
theorem dX3_own_4 : decode cX3_own 4 = .ok (.iload_n 2, 1) := dk_28 (by decide +kernel)
theorem dX3_own_5 : decode cX3_own 5 = .ok (.iload_n 1, 1) := dk_27 (by decide +kernel)
theorem dX3_own_6 : decode cX3_own 6 = .ok (.iastore, 1) := dk_79 (by decide +kernel)
theorem dX3_own_7 : decode cX3_own 7 = .ok (.aload_n 0, 1) := dk_42 (by decide +kernel)
theorem dX3_own_8 : decode cX3_own 8 = .ok (.iconst 1, 1) := dk_4 (by decide +kernel)
theorem dX3_own_9 : decode cX3_own 9 = .ok (.putfield 120, 3) := dk_181 (a := 0) (b := 120) (by decide +kernel) rfl
theorem dX3_own_12 : decode cX3_own 12 = .ok (.aload_n 0, 1) := dk_42 (by decide +kernel)
theorem dX3_own_13 : decode cX3_own 13 = .ok (.iload_n 2, 1) := dk_28 (by decide +kernel)
theorem dX3_own_14 : decode cX3_own 14 = .ok (.putfield 123, 3) := dk_181 (a := 0) (b := 123) (by decide +kernel) rfl
theorem dX3_own_17 : decode cX3_own 17 = .ok (.iconst 0, 1) := dk_3 (by decide +kernel)
theorem dX3_own_18 : decode cX3_own 18 = .ok (.ireturn, 1) := dk_172 (by decide +kernel)
theorem dX3_free_0 : decode cX3_free 0 = .ok (.aload_n 0, 1) := dk_42 (by decide +kernel)
theorem dX3_free_1 : decode cX3_free 1 = .ok (.getfield 33, 3) := dk_180 (a := 0) (b := 33) (by decide +kernel) rfl
theorem dX3_free_4 : decode cX3_free 4 = .ok (.iload_n 1, 1) := dk_27 (by decide +kernel)
theorem dX3_free_5 : decode cX3_free 5 = .ok (.bipush (-2), 2) := dk_16 (a := 254) (by decide +kernel) rfl
theorem dX3_free_7 : decode cX3_free 7 = .ok (.iastore, 1) := dk_79 (by decide +kernel)
theorem dX3_free_8 : decode cX3_free 8 = .ok (.aload_n 0, 1) := dk_42 (by decide +kernel)
theorem dX3_free_9 : decode cX3_free 9 = .ok (.iconst 2, 1) := dk_5 (by decide +kernel)
theorem dX3_free_10 : decode cX3_free 10 = .ok (.putfield 120, 3) := dk_181 (a := 0) (b := 120) (by decide +kernel) rfl
theorem dX3_free_13 : decode cX3_free 13 = .ok (.aload_n 0, 1) := dk_42 (by decide +kernel)
theorem dX3_free_14 : decode cX3_free 14 = .ok (.iload_n 1, 1) := dk_27 (by decide +kernel)
theorem dX3_free_15 : decode cX3_free 15 = .ok (.putfield 123, 3) := dk_181 (a := 0) (b := 123) (by decide +kernel) rfl
theorem dX3_free_18 : decode cX3_free 18 = .ok (.iconst 0, 1) := dk_3 (by decide +kernel)
theorem dX3_free_19 : decode cX3_free 19 = .ok (.ireturn, 1) := dk_172 (by decide +kernel)
theorem dX3_leaveLock_0 : decode cX3_leaveLock 0 = .ok (.aload_n 0, 1) := dk_42 (by decide +kernel)
theorem dX3_leaveLock_1 : decode cX3_leaveLock 1 = .ok (.iload_n 2, 1) := dk_28 (by decide +kernel)
theorem dX3_leaveLock_2 : decode cX3_leaveLock 2 = .ok (.invokevirtual 88, 3) := dk_182 (a := 0) (b := 88) (by decide +kernel) rfl
theorem dX3_leaveLock_5 : decode cX3_leaveLock 5 = .ok (.istore_n 3, 1) := dk_62 (by decide +kernel)
theorem dX3_leaveLock_6 : decode cX3_leaveLock 6 = .ok (.iload_n 3, 1) := dk_29 (by decide +kernel)
theorem dX3_leaveLock_7 : decode cX3_leaveLock 7 = .ok (.ifCond .ge 5, 3) := dk_156 (a := 0) (b := 5) (by decide +kernel) rfl
theorem dX3_leaveLock_10 : decode cX3_leaveLock 10 = .ok (.iconst 1, 1) := dk_4 (by decide +kernel)
theorem dX3_leaveLock_11 : decode cX3_leaveLock 11 = .ok (.ireturn, 1) := dk_172 (by decide +kernel)
theorem dX3_leaveLock_12 : decode cX3_leaveLock 12 = .ok (.aload_n 0, 1) := dk_42 (by decide +kernel)
theorem dX3_leaveLock_13 : decode cX3_leaveLock 13 = .ok (.getfield 33, 3) := dk_180 (a := 0) (b := 33) (by decide +kernel) rfl
theorem dX3_leaveLock_16 : decode cX3_leaveLock 16 = .ok (.iload_n 3, 1) := dk_29 (by decide +kernel)
theorem dX3_leaveLock_17 : decode cX3_leaveLock 17 = .ok (.iaload, 1) := dk_46 (by decide +kernel)
theorem dX3_leaveLock_18 : decode cX3_leaveLock 18 = .ok (.iload_n 1, 1) := dk_27 (by decide +kernel)
theorem dX3_leaveLock_19 : decode cX3_leaveLock 19 = .ok (.if_icmp .eq 6, 3) := dk_159 (a := 0) (b := 6) (by decide +kernel) rfl
theorem dX3_leaveLock_22 : decode cX3_leaveLock 22 = .ok (.bipush 6, 2) := dk_16 (a := 6) (by decide +kernel) rfl
theorem dX3_leaveLock_24 : decode cX3_leaveLock 24 = .ok (.ireturn, 1) := dk_172 (by decide +kernel)
theorem dX3_leaveLock_25 : decode cX3_leaveLock 25 = .ok (.aload_n 0, 1) := dk_42 (by decide +kernel)
theorem dX3_leaveLock_26 : decode cX3_leaveLock 26 = .ok (.iload_n 3, 1) := dk_29 (by decide +kernel)
theorem dX3_leaveLock_27 : decode cX3_leaveLock 27 = .ok (.invokevirtual 202, 3) := dk_182 (a := 0) (b := 202) (by decide +kernel) rfl
theorem dX3_leaveLock_30 : decode cX3_leaveLock 30 = .ok (.ireturn, 1) := dk_172 (by decide +kernel)
theorem dX3_lieDown_0 : decode cX3_lieDown 0 = .ok (.aload_n 0, 1) := dk_42 (by decide +kernel)
theorem dX3_lieDown_1 : decode cX3_lieDown 1 = .ok (.iload_n 2, 1) := dk_28 (by decide +kernel)
theorem dX3_lieDown_2 : decode cX3_lieDown 2 = .ok (.invokevirtual 205, 3) := dk_182 (a := 0) (b := 205) (by decide +kernel) rfl
theorem dX3_lieDown_5 : decode cX3_lieDown 5 = .ok (.istore_n 3, 1) := dk_62 (by decide +kernel)
theorem dX3_lieDown_6 : decode cX3_lieDown 6 = .ok (.iload_n 3, 1) := dk_29 (by decide +kernel)
theorem dX3_lieDown_7 : decode cX3_lieDown 7 = .ok (.ifCond .ge 5, 3) := dk_156 (a := 0) (b := 5) (by decide +kernel) rfl
theorem dX3_lieDown_10 : decode cX3_lieDown 10 = .ok (.iconst 1, 1) := dk_4 (by decide +kernel)
theorem dX3_lieDown_11 : decode cX3_lieDown 11 = .ok (.ireturn, 1) := dk_172 (by decide +kernel)
theorem dX3_lieDown_12 : decode cX3_lieDown 12 = .ok (.aload_n 0, 1) := dk_42 (by decide +kernel)
theorem dX3_lieDown_13 : decode cX3_lieDown 13 = .ok (.getfield 33, 3) := dk_180 (a := 0) (b := 33) (by decide +kernel) rfl
theorem dX3_lieDown_16 : decode cX3_lieDown 16 = .ok (.iload_n 3, 1) := dk_29 (by decide +kernel)
theorem dX3_lieDown_17 : decode cX3_lieDown 17 = .ok (.iaload, 1) := dk_46 (by decide +kernel)
theorem dX3_lieDown_18 : decode cX3_lieDown 18 = .ok (.iload_n 1, 1) := dk_27 (by decide +kernel)
theorem dX3_lieDown_19 : decode cX3_lieDown 19 = .ok (.if_icmp .eq 6, 3) := dk_159 (a := 0) (b := 6) (by decide +kernel) rfl
theorem dX3_lieDown_22 : decode cX3_lieDown 22 = .ok (.bipush 6, 2) := dk_16 (a := 6) (by decide +kernel) rfl
theorem dX3_lieDown_24 : decode cX3_lieDown 24 = .ok (.ireturn, 1) := dk_172 (by decide +kernel)
theorem dX3_lieDown_25 : decode cX3_lieDown 25 = .ok (.aload_n 0, 1) := dk_42 (by decide +kernel)
theorem dX3_lieDown_26 : decode cX3_lieDown 26 = .ok (.getfield 21, 3) := dk_180 (a := 0) (b := 21) (by decide +kernel) rfl
theorem dX3_lieDown_29 : decode cX3_lieDown 29 = .ok (.iload_n 1, 1) := dk_27 (by decide +kernel)
theorem dX3_lieDown_30 : decode cX3_lieDown 30 = .ok (.iconst 2, 1) := dk_5 (by decide +kernel)
theorem dX3_lieDown_31 : decode cX3_lieDown 31 = .ok (.iastore, 1) := dk_79 (by decide +kernel)
theorem dX3_lieDown_32 : decode cX3_lieDown 32 = .ok (.aload_n 0, 1) := dk_42 (by decide +kernel)
theorem dX3_lieDown_33 : decode cX3_lieDown 33 = .ok (.getfield 24, 3) := dk_180 (a := 0) (b := 24) (by decide +kernel) rfl
theorem dX3_lieDown_36 : decode cX3_lieDown 36 = .ok (.iload_n 1, 1) := dk_27 (by decide +kernel)
theorem dX3_lieDown_37 : decode cX3_lieDown 37 = .ok (.iload_n 3, 1) := dk_29 (by decide +kernel)
theorem dX3_lieDown_38 : decode cX3_lieDown 38 = .ok (.iastore, 1) := dk_79 (by decide +kernel)
theorem dX3_lieDown_39 : decode cX3_lieDown 39 = .ok (.aload_n 0, 1) := dk_42 (by decide +kernel)
theorem dX3_lieDown_40 : decode cX3_lieDown 40 = .ok (.aload_n 0, 1) := dk_42 (by decide +kernel)
theorem dX3_lieDown_41 : decode cX3_lieDown 41 = .ok (.getfield 18, 3) := dk_180 (a := 0) (b := 18) (by decide +kernel) rfl
theorem dX3_lieDown_44 : decode cX3_lieDown 44 = .ok (.iload_n 1, 1) := dk_27 (by decide +kernel)
theorem dX3_lieDown_45 : decode cX3_lieDown 45 = .ok (.iaload, 1) := dk_46 (by decide +kernel)
theorem dX3_lieDown_46 : decode cX3_lieDown 46 = .ok (.putfield 126, 3) := dk_181 (a := 0) (b := 126) (by decide +kernel) rfl
theorem dX3_lieDown_49 : decode cX3_lieDown 49 = .ok (.aload_n 0, 1) := dk_42 (by decide +kernel)
theorem dX3_lieDown_50 : decode cX3_lieDown 50 = .ok (.iload_n 3, 1) := dk_29 (by decide +kernel)
theorem dX3_lieDown_51 : decode cX3_lieDown 51 = .ok (.invokevirtual 202, 3) := dk_182 (a := 0) (b := 202) (by decide +kernel) rfl
theorem dX3_lieDown_54 : decode cX3_lieDown 54 = .ok (.ireturn, 1) := dk_172 (by decide +kernel)
theorem dX3_rise_0 : decode cX3_rise 0 = .ok (.aload_n 0, 1) := dk_42 (by decide +kernel)
theorem dX3_rise_1 : decode cX3_rise 1 = .ok (.getfield 21, 3) := dk_180 (a := 0) (b := 21) (by decide +kernel) rfl
theorem dX3_rise_4 : decode cX3_rise 4 = .ok (.iload_n 1, 1) := dk_27 (by decide +kernel)
theorem dX3_rise_5 : decode cX3_rise 5 = .ok (.iconst 1, 1) := dk_4 (by decide +kernel)
theorem dX3_rise_6 : decode cX3_rise 6 = .ok (.iastore, 1) := dk_79 (by decide +kernel)
theorem dX3_rise_7 : decode cX3_rise 7 = .ok (.aload_n 0, 1) := dk_42 (by decide +kernel)
theorem dX3_rise_8 : decode cX3_rise 8 = .ok (.iload_n 1, 1) := dk_27 (by decide +kernel)
theorem dX3_rise_9 : decode cX3_rise 9 = .ok (.aload_n 0, 1) := dk_42 (by decide +kernel)
theorem dX3_rise_10 : decode cX3_rise 10 = .ok (.getfield 24, 3) := dk_180 (a := 0) (b := 24) (by decide +kernel) rfl
theorem dX3_rise_13 : decode cX3_rise 13 = .ok (.iload_n 1, 1) := dk_27 (by decide +kernel)
theorem dX3_rise_14 : decode cX3_rise 14 = .ok (.iaload, 1) := dk_46 (by decide +kernel)
theorem dX3_rise_15 : decode cX3_rise 15 = .ok (.invokevirtual 199, 3) := dk_182 (a := 0) (b := 199) (by decide +kernel) rfl
theorem dX3_rise_18 : decode cX3_rise 18 = .ok (.ireturn, 1) := dk_172 (by decide +kernel)
theorem dX3_wakeSleepers_0 : decode cX3_wakeSleepers 0 = .ok (.aload_n 0, 1) := dk_42 (by decide +kernel)
theorem dX3_wakeSleepers_1 : decode cX3_wakeSleepers 1 = .ok (.iload_n 2, 1) := dk_28 (by decide +kernel)
theorem dX3_wakeSleepers_2 : decode cX3_wakeSleepers 2 = .ok (.invokevirtual 205, 3) := dk_182 (a := 0) (b := 205) (by decide +kernel) rfl
theorem dX3_wakeSleepers_5 : decode cX3_wakeSleepers 5 = .ok (.istore_n 3, 1) := dk_62 (by decide +kernel)
theorem dX3_wakeSleepers_6 : decode cX3_wakeSleepers 6 = .ok (.iload_n 3, 1) := dk_29 (by decide +kernel)
theorem dX3_wakeSleepers_7 : decode cX3_wakeSleepers 7 = .ok (.ifCond .ge 5, 3) := dk_156 (a := 0) (b := 5) (by decide +kernel) rfl
theorem dX3_wakeSleepers_10 : decode cX3_wakeSleepers 10 = .ok (.iconst 1, 1) := dk_4 (by decide +kernel)
theorem dX3_wakeSleepers_11 : decode cX3_wakeSleepers 11 = .ok (.ireturn, 1) := dk_172 (by decide +kernel)
theorem dX3_wakeSleepers_12 : decode cX3_wakeSleepers 12 = .ok (.aload_n 0, 1) := dk_42 (by decide +kernel)
theorem dX3_wakeSleepers_13 : decode cX3_wakeSleepers 13 = .ok (.getfield 33, 3) := dk_180 (a := 0) (b := 33) (by decide +kernel) rfl
theorem dX3_wakeSleepers_16 : decode cX3_wakeSleepers 16 = .ok (.iload_n 3, 1) := dk_29 (by decide +kernel)
theorem dX3_wakeSleepers_17 : decode cX3_wakeSleepers 17 = .ok (.iaload, 1) := dk_46 (by decide +kernel)
theorem dX3_wakeSleepers_18 : decode cX3_wakeSleepers 18 = .ok (.iload_n 1, 1) := dk_27 (by decide +kernel)
theorem dX3_wakeSleepers_19 : decode cX3_wakeSleepers 19 = .ok (.if_icmp .eq 6, 3) := dk_159 (a := 0) (b := 6) (by decide +kernel) rfl
theorem dX3_wakeSleepers_22 : decode cX3_wakeSleepers 22 = .ok (.bipush 6, 2) := dk_16 (a := 6) (by decide +kernel) rfl
theorem dX3_wakeSleepers_24 : decode cX3_wakeSleepers 24 = .ok (.ireturn, 1) := dk_172 (by decide +kernel)
theorem dX3_wakeSleepers_25 : decode cX3_wakeSleepers 25 = .ok (.iconst 0, 1) := dk_3 (by decide +kernel)
theorem dX3_wakeSleepers_26 : decode cX3_wakeSleepers 26 = .ok (.istore 4, 2) := dk_54 (by decide +kernel)
theorem dX3_wakeSleepers_28 : decode cX3_wakeSleepers 28 = .ok (.iload 4, 2) := dk_21 (by decide +kernel)
theorem dX3_wakeSleepers_30 : decode cX3_wakeSleepers 30 = .ok (.iconst 4, 1) := dk_7 (by decide +kernel)
theorem dX3_wakeSleepers_31 : decode cX3_wakeSleepers 31 = .ok (.if_icmp .ge 39, 3) := dk_162 (a := 0) (b := 39) (by decide +kernel) rfl
theorem dX3_wakeSleepers_34 : decode cX3_wakeSleepers 34 = .ok (.aload_n 0, 1) := dk_42 (by decide +kernel)
theorem dX3_wakeSleepers_35 : decode cX3_wakeSleepers 35 = .ok (.getfield 21, 3) := dk_180 (a := 0) (b := 21) (by decide +kernel) rfl
theorem dX3_wakeSleepers_38 : decode cX3_wakeSleepers 38 = .ok (.iload 4, 2) := dk_21 (by decide +kernel)
theorem dX3_wakeSleepers_40 : decode cX3_wakeSleepers 40 = .ok (.iaload, 1) := dk_46 (by decide +kernel)
theorem dX3_wakeSleepers_41 : decode cX3_wakeSleepers 41 = .ok (.iconst 2, 1) := dk_5 (by decide +kernel)
theorem dX3_wakeSleepers_42 : decode cX3_wakeSleepers 42 = .ok (.if_icmp .ne 22, 3) := dk_160 (a := 0) (b := 22) (by decide +kernel) rfl
theorem dX3_wakeSleepers_45 : decode cX3_wakeSleepers 45 = .ok (.aload_n 0, 1) := dk_42 (by decide +kernel)
theorem dX3_wakeSleepers_46 : decode cX3_wakeSleepers 46 = .ok (.getfield 24, 3) := dk_180 (a := 0) (b := 24) (by decide +kernel) rfl
theorem dX3_wakeSleepers_49 : decode cX3_wakeSleepers 49 = .ok (.iload 4, 2) := dk_21 (by decide +kernel)
theorem dX3_wakeSleepers_51 : decode cX3_wakeSleepers 51 = .ok (.iaload, 1) := dk_46 (by decide +kernel)
theorem dX3_wakeSleepers_52 : decode cX3_wakeSleepers 52 = .ok (.iload_n 3, 1) := dk_29 (by decide +kernel)
theorem dX3_wakeSleepers_53 : decode cX3_wakeSleepers 53 = .ok (.if_icmp .ne 11, 3) := dk_160 (a := 0) (b := 11) (by decide +kernel) rfl
theorem dX3_wakeSleepers_56 : decode cX3_wakeSleepers 56 = .ok (.aload_n 0, 1) := dk_42 (by decide +kernel)
theorem dX3_wakeSleepers_57 : decode cX3_wakeSleepers 57 = .ok (.getfield 21, 3) := dk_180 (a := 0) (b := 21) (by decide +kernel) rfl
theorem dX3_wakeSleepers_60 : decode cX3_wakeSleepers 60 = .ok (.iload 4, 2) := dk_21 (by decide +kernel)
theorem dX3_wakeSleepers_62 : decode cX3_wakeSleepers 62 = .ok (.iconst 3, 1) := dk_6 (by decide +kernel)
theorem dX3_wakeSleepers_63 : decode cX3_wakeSleepers 63 = .ok (.iastore, 1) := dk_79 (by decide +kernel)
theorem dX3_wakeSleepers_64 : decode cX3_wakeSleepers 64 = .ok (.iinc 4 1, 3) := dk_132 (b := 1) (by decide +kernel) rfl
theorem dX3_wakeSleepers_67 : decode cX3_wakeSleepers 67 = .ok (.goto (-39), 3) := dk_167 (a := 255) (b := 217) (by decide +kernel) rfl
theorem dX3_wakeSleepers_70 : decode cX3_wakeSleepers 70 = .ok (.aload_n 0, 1) := dk_42 (by decide +kernel)
theorem dX3_wakeSleepers_71 : decode cX3_wakeSleepers 71 = .ok (.iconst 3, 1) := dk_6 (by decide +kernel)
theorem dX3_wakeSleepers_72 : decode cX3_wakeSleepers 72 = .ok (.putfield 120, 3) := dk_181 (a := 0) (b := 120) (by decide +kernel) rfl
theorem dX3_wakeSleepers_75 : decode cX3_wakeSleepers 75 = .ok (.iconst 0, 1) := dk_3 (by decide +kernel)
theorem dX3_wakeSleepers_76 : decode cX3_wakeSleepers 76 = .ok (.ireturn, 1) := dk_172 (by decide +kernel)
theorem dX3_takeInput_0 : decode cX3_takeInput 0 = .ok (.aload_n 0, 1) := dk_42 (by decide +kernel)
theorem dX3_takeInput_1 : decode cX3_takeInput 1 = .ok (.getfield 67, 3) := dk_180 (a := 0) (b := 67) (by decide +kernel) rfl
theorem dX3_takeInput_4 : decode cX3_takeInput 4 = .ok (.aload_n 0, 1) := dk_42 (by decide +kernel)
theorem dX3_takeInput_5 : decode cX3_takeInput 5 = .ok (.getfield 64, 3) := dk_180 (a := 0) (b := 64) (by decide +kernel) rfl
theorem dX3_takeInput_8 : decode cX3_takeInput 8 = .ok (.if_icmp .ge 12, 3) := dk_162 (a := 0) (b := 12) (by decide +kernel) rfl
theorem dX3_takeInput_11 : decode cX3_takeInput 11 = .ok (.aload_n 0, 1) := dk_42 (by decide +kernel)
theorem dX3_takeInput_12 : decode cX3_takeInput 12 = .ok (.getfield 67, 3) := dk_180 (a := 0) (b := 67) (by decide +kernel) rfl
theorem dX3_takeInput_15 : decode cX3_takeInput 15 = .ok (.bipush 30, 2) := dk_16 (a := 30) (by decide +kernel) rfl
theorem dX3_takeInput_17 : decode cX3_takeInput 17 = .ok (.if_icmp .lt 6, 3) := dk_161 (a := 0) (b := 6) (by decide +kernel) rfl
theorem dX3_takeInput_20 : decode cX3_takeInput 20 = .ok (.bipush 7, 2) := dk_16 (a := 7) (by decide +kernel) rfl
theorem dX3_takeInput_22 : decode cX3_takeInput 22 = .ok (.ireturn, 1) := dk_172 (by decide +kernel)
theorem dX3_takeInput_23 : decode cX3_takeInput 23 = .ok (.aload_n 0, 1) := dk_42 (by decide +kernel)
theorem dX3_takeInput_24 : decode cX3_takeInput 24 = .ok (.dup, 1) := dk_89 (by decide +kernel)
theorem dX3_takeInput_25 : decode cX3_takeInput 25 = .ok (.getfield 67, 3) := dk_180 (a := 0) (b := 67) (by decide +kernel) rfl
theorem dX3_takeInput_28 : decode cX3_takeInput 28 = .ok (.iconst 1, 1) := dk_4 (by decide +kernel)
theorem dX3_takeInput_29 : decode cX3_takeInput 29 = .ok (.iadd, 1) := dk_96 (by decide +kernel)
theorem dX3_takeInput_30 : decode cX3_takeInput 30 = .ok (.putfield 67, 3) := dk_181 (a := 0) (b := 67) (by decide +kernel) rfl
theorem dX3_takeInput_33 : decode cX3_takeInput 33 = .ok (.aload_n 0, 1) := dk_42 (by decide +kernel)
theorem dX3_takeInput_34 : decode cX3_takeInput 34 = .ok (.iload_n 1, 1) := dk_27 (by decide +kernel)
theorem dX3_takeInput_35 : decode cX3_takeInput 35 = .ok (.iconst 0, 1) := dk_3 (by decide +kernel)
theorem dX3_takeInput_36 : decode cX3_takeInput 36 = .ok (.aload_n 0, 1) := dk_42 (by decide +kernel)
theorem dX3_takeInput_37 : decode cX3_takeInput 37 = .ok (.getfield 39, 3) := dk_180 (a := 0) (b := 39) (by decide +kernel) rfl
theorem dX3_takeInput_40 : decode cX3_takeInput 40 = .ok (.getfield 208, 3) := dk_180 (a := 0) (b := 208) (by decide +kernel) rfl
theorem dX3_takeInput_43 : decode cX3_takeInput 43 = .ok (.aload_n 0, 1) := dk_42 (by decide +kernel)
theorem dX3_takeInput_44 : decode cX3_takeInput 44 = .ok (.getfield 67, 3) := dk_180 (a := 0) (b := 67) (by decide +kernel) rfl
theorem dX3_takeInput_47 : decode cX3_takeInput 47 = .ok (.iconst 1, 1) := dk_4 (by decide +kernel)
theorem dX3_takeInput_48 : decode cX3_takeInput 48 = .ok (.isub, 1) := dk_100 (by decide +kernel)
theorem dX3_takeInput_49 : decode cX3_takeInput 49 = .ok (.iaload, 1) := dk_46 (by decide +kernel)
theorem dX3_takeInput_50 : decode cX3_takeInput 50 = .ok (.invokevirtual 135, 3) := dk_182 (a := 0) (b := 135) (by decide +kernel) rfl
theorem dX3_takeInput_53 : decode cX3_takeInput 53 = .ok (.ireturn, 1) := dk_172 (by decide +kernel)
theorem dX3_startThread_0 : decode cX3_startThread 0 = .ok (.aload_n 0, 1) := dk_42 (by decide +kernel)
theorem dX3_startThread_1 : decode cX3_startThread 1 = .ok (.getfield 21, 3) := dk_180 (a := 0) (b := 21) (by decide +kernel) rfl
theorem dX3_startThread_4 : decode cX3_startThread 4 = .ok (.iload_n 1, 1) := dk_27 (by decide +kernel)
theorem dX3_startThread_5 : decode cX3_startThread 5 = .ok (.iaload, 1) := dk_46 (by decide +kernel)
theorem dX3_startThread_6 : decode cX3_startThread 6 = .ok (.ifCond .eq 5, 3) := dk_153 (a := 0) (b := 5) (by decide +kernel) rfl
theorem dX3_startThread_9 : decode cX3_startThread 9 = .ok (.iconst 5, 1) := dk_8 (by decide +kernel)
theorem dX3_startThread_10 : decode cX3_startThread 10 = .ok (.ireturn, 1) := dk_172 (by decide +kernel)
theorem dX3_startThread_11 : decode cX3_startThread 11 = .ok (.aload_n 0, 1) := dk_42 (by decide +kernel)
theorem dX3_startThread_12 : decode cX3_startThread 12 = .ok (.getfield 21, 3) := dk_180 (a := 0) (b := 21) (by decide +kernel) rfl
theorem dX3_startThread_15 : decode cX3_startThread 15 = .ok (.iload_n 1, 1) := dk_27 (by decide +kernel)
theorem dX3_startThread_16 : decode cX3_startThread 16 = .ok (.iconst 1, 1) := dk_4 (by decide +kernel)
theorem dX3_startThread_17 : decode cX3_startThread 17 = .ok (.iastore, 1) := dk_79 (by decide +kernel)
theorem dX3_startThread_18 : decode cX3_startThread 18 = .ok (.aload_n 0, 1) := dk_42 (by decide +kernel)
theorem dX3_startThread_19 : decode cX3_startThread 19 = .ok (.iconst 4, 1) := dk_7 (by decide +kernel)
theorem dX3_startThread_20 : decode cX3_startThread 20 = .ok (.putfield 120, 3) := dk_181 (a := 0) (b := 120) (by decide +kernel) rfl
theorem dX3_startThread_23 : decode cX3_startThread 23 = .ok (.aload_n 0, 1) := dk_42 (by decide +kernel)
theorem dX3_startThread_24 : decode cX3_startThread 24 = .ok (.iload_n 1, 1) := dk_27 (by decide +kernel)
theorem dX3_startThread_25 : decode cX3_startThread 25 = .ok (.putfield 123, 3) := dk_181 (a := 0) (b := 123) (by decide +kernel) rfl
theorem dX3_startThread_28 : decode cX3_startThread 28 = .ok (.iconst 0, 1) := dk_3 (by decide +kernel)
theorem dX3_startThread_29 : decode cX3_startThread 29 = .ok (.ireturn, 1) := dk_172 (by decide +kernel)
theorem dX4_forget_0 : decode cX4_forget 0 = .ok (.aload_n 0, 1) := dk_42 (by decide +kernel)
theorem dX4_forget_1 : decode cX4_forget 1 = .ok (.iconst 0, 1) := dk_3 (by decide +kernel)
theorem dX4_forget_2 : decode cX4_forget 2 = .ok (.putfield 28, 3) := dk_181 (a := 0) (b := 28) (by decide +kernel) rfl
theorem dX4_forget_5 : decode cX4_forget 5 = .ok (.return_, 1) := dk_177 (by decide +kernel)
theorem dX4_prepare_0 : decode cX4_prepare 0 = .ok (.aload_n 0, 1) := dk_42 (by decide +kernel)
theorem dX4_prepare_1 : decode cX4_prepare 1 = .ok (.getfield 28, 3) := dk_180 (a := 0) (b := 28) (by decide +kernel) rfl
theorem dX4_prepare_4 : decode cX4_prepare 4 = .ok (.ifCond .eq 4, 3) := dk_153 (a := 0) (b := 4) (by decide +kernel) rfl
theorem dX4_prepare_7 : decode cX4_prepare 7 = .ok (.return_, 1) := dk_177 (by decide +kernel)
theorem dX4_prepare_8 : decode cX4_prepare 8 = .ok (.aload_n 0, 1) := dk_42 (by decide +kernel)
theorem dX4_prepare_9 : decode cX4_prepare 9 = .ok (.getfield 15, 3) := dk_180 (a := 0) (b := 15) (by decide +kernel) rfl
theorem dX4_prepare_12 : decode cX4_prepare 12 = .ok (.iconst 0, 1) := dk_3 (by decide +kernel)
theorem dX4_prepare_13 : decode cX4_prepare 13 = .ok (.invokestatic 32, 3) := dk_184 (a := 0) (b := 32) (by decide +kernel) rfl
theorem dX4_prepare_16 : decode cX4_prepare 16 = .ok (.aload_n 0, 1) := dk_42 (by decide +kernel)
theorem dX4_prepare_17 : decode cX4_prepare 17 = .ok (.getfield 18, 3) := dk_180 (a := 0) (b := 18) (by decide +kernel) rfl
theorem dX4_prepare_20 : decode cX4_prepare 20 = .ok (.iconst 0, 1) := dk_3 (by decide +kernel)
theorem dX4_prepare_21 : decode cX4_prepare 21 = .ok (.invokestatic 32, 3) := dk_184 (a := 0) (b := 32) (by decide +kernel) rfl
theorem dX4_prepare_24 : decode cX4_prepare 24 = .ok (.aload_n 0, 1) := dk_42 (by decide +kernel)
theorem dX4_prepare_25 : decode cX4_prepare 25 = .ok (.iconst 0, 1) := dk_3 (by decide +kernel)
theorem dX4_prepare_26 : decode cX4_prepare 26 = .ok (.putfield 38, 3) := dk_181 (a := 0) (b := 38) (by decide +kernel) rfl
theorem dX4_prepare_29 : decode cX4_prepare 29 = .ok (.iconst 1, 1) := dk_4 (by decide +kernel)
theorem dX4_prepare_30 : decode cX4_prepare 30 = .ok (.istore_n 1, 1) := dk_60 (by decide +kernel)
theorem dX4_prepare_31 : decode cX4_prepare 31 = .ok (.iload_n 1, 1) := dk_27 (by decide +kernel)
theorem dX4_prepare_32 : decode cX4_prepare 32 = .ok (.aload_n 0, 1) := dk_42 (by decide +kernel)
theorem dX4_prepare_33 : decode cX4_prepare 33 = .ok (.getfield 24, 3) := dk_180 (a := 0) (b := 24) (by decide +kernel) rfl
theorem dX4_prepare_36 : decode cX4_prepare 36 = .ok (.getfield 42, 3) := dk_180 (a := 0) (b := 42) (by decide +kernel) rfl
theorem dX4_prepare_39 : decode cX4_prepare 39 = .ok (.if_icmp .gt 40, 3) := dk_163 (a := 0) (b := 40) (by decide +kernel) rfl
theorem dX4_prepare_42 : decode cX4_prepare 42 = .ok (.aload_n 0, 1) := dk_42 (by decide +kernel)
theorem dX4_prepare_43 : decode cX4_prepare 43 = .ok (.iload_n 1, 1) := dk_27 (by decide +kernel)
theorem dX4_prepare_44 : decode cX4_prepare 44 = .ok (.invokevirtual 47, 3) := dk_182 (a := 0) (b := 47) (by decide +kernel) rfl
theorem dX4_prepare_47 : decode cX4_prepare 47 = .ok (.aload_n 0, 1) := dk_42 (by decide +kernel)
theorem dX4_prepare_48 : decode cX4_prepare 48 = .ok (.getfield 21, 3) := dk_180 (a := 0) (b := 21) (by decide +kernel) rfl
theorem dX4_prepare_51 : decode cX4_prepare 51 = .ok (.iload_n 1, 1) := dk_27 (by decide +kernel)
theorem dX4_prepare_52 : decode cX4_prepare 52 = .ok (.aload_n 0, 1) := dk_42 (by decide +kernel)
theorem dX4_prepare_53 : decode cX4_prepare 53 = .ok (.iload_n 1, 1) := dk_27 (by decide +kernel)
theorem dX4_prepare_54 : decode cX4_prepare 54 = .ok (.invokevirtual 51, 3) := dk_182 (a := 0) (b := 51) (by decide +kernel) rfl
theorem dX4_prepare_57 : decode cX4_prepare 57 = .ok (.iastore, 1) := dk_79 (by decide +kernel)
theorem dX4_prepare_58 : decode cX4_prepare 58 = .ok (.aload_n 0, 1) := dk_42 (by decide +kernel)
theorem dX4_prepare_59 : decode cX4_prepare 59 = .ok (.dup, 1) := dk_89 (by decide +kernel)
theorem dX4_prepare_60 : decode cX4_prepare 60 = .ok (.getfield 38, 3) := dk_180 (a := 0) (b := 38) (by decide +kernel) rfl
theorem dX4_prepare_63 : decode cX4_prepare 63 = .ok (.aload_n 0, 1) := dk_42 (by decide +kernel)
theorem dX4_prepare_64 : decode cX4_prepare 64 = .ok (.getfield 21, 3) := dk_180 (a := 0) (b := 21) (by decide +kernel) rfl
theorem dX4_prepare_67 : decode cX4_prepare 67 = .ok (.iload_n 1, 1) := dk_27 (by decide +kernel)
theorem dX4_prepare_68 : decode cX4_prepare 68 = .ok (.iaload, 1) := dk_46 (by decide +kernel)
theorem dX4_prepare_69 : decode cX4_prepare 69 = .ok (.iadd, 1) := dk_96 (by decide +kernel)
theorem dX4_prepare_70 : decode cX4_prepare 70 = .ok (.putfield 38, 3) := dk_181 (a := 0) (b := 38) (by decide +kernel) rfl
theorem dX4_prepare_73 : decode cX4_prepare 73 = .ok (.iinc 1 1, 3) := dk_132 (b := 1) (by decide +kernel) rfl
theorem dX4_prepare_76 : decode cX4_prepare 76 = .ok (.goto (-45), 3) := dk_167 (a := 255) (b := 211) (by decide +kernel) rfl
theorem dX4_prepare_79 : decode cX4_prepare 79 = .ok (.aload_n 0, 1) := dk_42 (by decide +kernel)
theorem dX4_prepare_80 : decode cX4_prepare 80 = .ok (.iconst 1, 1) := dk_4 (by decide +kernel)
theorem dX4_prepare_81 : decode cX4_prepare 81 = .ok (.putfield 28, 3) := dk_181 (a := 0) (b := 28) (by decide +kernel) rfl
theorem dX4_prepare_84 : decode cX4_prepare 84 = .ok (.return_, 1) := dk_177 (by decide +kernel)
theorem dX4_learn_0 : decode cX4_learn 0 = .ok (.aload_n 0, 1) := dk_42 (by decide +kernel)
theorem dX4_learn_1 : decode cX4_learn 1 = .ok (.getfield 24, 3) := dk_180 (a := 0) (b := 24) (by decide +kernel) rfl
theorem dX4_learn_4 : decode cX4_learn 4 = .ok (.getfield 55, 3) := dk_180 (a := 0) (b := 55) (by decide +kernel) rfl
theorem dX4_learn_7 : decode cX4_learn 7 = .ok (.iload_n 1, 1) := dk_27 (by decide +kernel)
theorem dX4_learn_8 : decode cX4_learn 8 = .ok (.iaload, 1) := dk_46 (by decide +kernel)
theorem dX4_learn_9 : decode cX4_learn 9 = .ok (.iconst 4, 1) := dk_7 (by decide +kernel)
theorem dX4_learn_10 : decode cX4_learn 10 = .ok (.imul, 1) := dk_104 (by decide +kernel)
theorem dX4_learn_11 : decode cX4_learn 11 = .ok (.istore_n 2, 1) := dk_61 (by decide +kernel)
theorem dX4_learn_12 : decode cX4_learn 12 = .ok (.aload_n 0, 1) := dk_42 (by decide +kernel)
theorem dX4_learn_13 : decode cX4_learn 13 = .ok (.getfield 24, 3) := dk_180 (a := 0) (b := 24) (by decide +kernel) rfl
theorem dX4_learn_16 : decode cX4_learn 16 = .ok (.getfield 58, 3) := dk_180 (a := 0) (b := 58) (by decide +kernel) rfl
theorem dX4_learn_19 : decode cX4_learn 19 = .ok (.iload_n 1, 1) := dk_27 (by decide +kernel)
theorem dX4_learn_20 : decode cX4_learn 20 = .ok (.iaload, 1) := dk_46 (by decide +kernel)
theorem dX4_learn_21 : decode cX4_learn 21 = .ok (.iconst 4, 1) := dk_7 (by decide +kernel)
theorem dX4_learn_22 : decode cX4_learn 22 = .ok (.imul, 1) := dk_104 (by decide +kernel)
theorem dX4_learn_23 : decode cX4_learn 23 = .ok (.istore_n 3, 1) := dk_62 (by decide +kernel)
theorem dX4_learn_24 : decode cX4_learn 24 = .ok (.aload_n 0, 1) := dk_42 (by decide +kernel)
theorem dX4_learn_25 : decode cX4_learn 25 = .ok (.getfield 15, 3) := dk_180 (a := 0) (b := 15) (by decide +kernel) rfl
theorem dX4_learn_28 : decode cX4_learn 28 = .ok (.iload_n 2, 1) := dk_28 (by decide +kernel)
theorem dX4_learn_29 : decode cX4_learn 29 = .ok (.aload_n 0, 1) := dk_42 (by decide +kernel)
theorem dX4_learn_30 : decode cX4_learn 30 = .ok (.getfield 24, 3) := dk_180 (a := 0) (b := 24) (by decide +kernel) rfl
theorem dX4_learn_33 : decode cX4_learn 33 = .ok (.getfield 55, 3) := dk_180 (a := 0) (b := 55) (by decide +kernel) rfl
theorem dX4_learn_36 : decode cX4_learn 36 = .ok (.iload_n 1, 1) := dk_27 (by decide +kernel)
theorem dX4_learn_37 : decode cX4_learn 37 = .ok (.iaload, 1) := dk_46 (by decide +kernel)
theorem dX4_learn_38 : decode cX4_learn 38 = .ok (.iadd, 1) := dk_96 (by decide +kernel)
theorem dX4_learn_39 : decode cX4_learn 39 = .ok (.iload_n 1, 1) := dk_27 (by decide +kernel)
theorem dX4_learn_40 : decode cX4_learn 40 = .ok (.iastore, 1) := dk_79 (by decide +kernel)
theorem dX4_learn_41 : decode cX4_learn 41 = .ok (.aload_n 0, 1) := dk_42 (by decide +kernel)
theorem dX4_learn_42 : decode cX4_learn 42 = .ok (.getfield 24, 3) := dk_180 (a := 0) (b := 24) (by decide +kernel) rfl
theorem dX4_learn_45 : decode cX4_learn 45 = .ok (.getfield 61, 3) := dk_180 (a := 0) (b := 61) (by decide +kernel) rfl
theorem dX4_learn_48 : decode cX4_learn 48 = .ok (.iload_n 1, 1) := dk_27 (by decide +kernel)
theorem dX4_learn_49 : decode cX4_learn 49 = .ok (.iaload, 1) := dk_46 (by decide +kernel)
theorem dX4_learn_50 : decode cX4_learn 50 = .ok (.iconst 1, 1) := dk_4 (by decide +kernel)
theorem dX4_learn_51 : decode cX4_learn 51 = .ok (.if_icmp .ne 19, 3) := dk_160 (a := 0) (b := 19) (by decide +kernel) rfl
theorem dX4_learn_54 : decode cX4_learn 54 = .ok (.aload_n 0, 1) := dk_42 (by decide +kernel)
theorem dX4_learn_55 : decode cX4_learn 55 = .ok (.getfield 18, 3) := dk_180 (a := 0) (b := 18) (by decide +kernel) rfl
theorem dX4_learn_58 : decode cX4_learn 58 = .ok (.iload_n 3, 1) := dk_29 (by decide +kernel)
theorem dX4_learn_59 : decode cX4_learn 59 = .ok (.aload_n 0, 1) := dk_42 (by decide +kernel)
theorem dX4_learn_60 : decode cX4_learn 60 = .ok (.getfield 15, 3) := dk_180 (a := 0) (b := 15) (by decide +kernel) rfl
theorem dX4_learn_63 : decode cX4_learn 63 = .ok (.iload_n 2, 1) := dk_28 (by decide +kernel)
theorem dX4_learn_64 : decode cX4_learn 64 = .ok (.invokestatic 64, 3) := dk_184 (a := 0) (b := 64) (by decide +kernel) rfl
theorem dX4_learn_67 : decode cX4_learn 67 = .ok (.goto 58, 3) := dk_167 (a := 0) (b := 58) (by decide +kernel) rfl
theorem dX4_learn_70 : decode cX4_learn 70 = .ok (.aload_n 0, 1) := dk_42 (by decide +kernel)
theorem dX4_learn_71 : decode cX4_learn 71 = .ok (.getfield 24, 3) := dk_180 (a := 0) (b := 24) (by decide +kernel) rfl
theorem dX4_learn_74 : decode cX4_learn 74 = .ok (.getfield 61, 3) := dk_180 (a := 0) (b := 61) (by decide +kernel) rfl
theorem dX4_learn_77 : decode cX4_learn 77 = .ok (.iload_n 1, 1) := dk_27 (by decide +kernel)
theorem dX4_learn_78 : decode cX4_learn 78 = .ok (.iaload, 1) := dk_46 (by decide +kernel)
theorem dX4_learn_79 : decode cX4_learn 79 = .ok (.iconst 2, 1) := dk_5 (by decide +kernel)
theorem dX4_learn_80 : decode cX4_learn 80 = .ok (.if_icmp .ne 19, 3) := dk_160 (a := 0) (b := 19) (by decide +kernel) rfl
theorem dX4_learn_83 : decode cX4_learn 83 = .ok (.aload_n 0, 1) := dk_42 (by decide +kernel)
theorem dX4_learn_84 : decode cX4_learn 84 = .ok (.getfield 15, 3) := dk_180 (a := 0) (b := 15) (by decide +kernel) rfl
theorem dX4_learn_87 : decode cX4_learn 87 = .ok (.iload_n 2, 1) := dk_28 (by decide +kernel)
theorem dX4_learn_88 : decode cX4_learn 88 = .ok (.aload_n 0, 1) := dk_42 (by decide +kernel)
theorem dX4_learn_89 : decode cX4_learn 89 = .ok (.getfield 18, 3) := dk_180 (a := 0) (b := 18) (by decide +kernel) rfl
theorem dX4_learn_92 : decode cX4_learn 92 = .ok (.iload_n 3, 1) := dk_29 (by decide +kernel)
theorem dX4_learn_93 : decode cX4_learn 93 = .ok (.invokestatic 64, 3) := dk_184 (a := 0) (b := 64) (by decide +kernel) rfl
theorem dX4_learn_96 : decode cX4_learn 96 = .ok (.goto 29, 3) := dk_167 (a := 0) (b := 29) (by decide +kernel) rfl
theorem dX4_learn_99 : decode cX4_learn 99 = .ok (.aload_n 0, 1) := dk_42 (by decide +kernel)
theorem dX4_learn_100 : decode cX4_learn 100 = .ok (.getfield 24, 3) := dk_180 (a := 0) (b := 24) (by decide +kernel) rfl
theorem dX4_learn_103 : decode cX4_learn 103 = .ok (.getfield 61, 3) := dk_180 (a := 0) (b := 61) (by decide +kernel) rfl
theorem dX4_learn_106 : decode cX4_learn 106 = .ok (.iload_n 1, 1) := dk_27 (by decide +kernel)
theorem dX4_learn_107 : decode cX4_learn 107 = .ok (.iaload, 1) := dk_46 (by decide +kernel)
theorem dX4_learn_108 : decode cX4_learn 108 = .ok (.iconst 4, 1) := dk_7 (by decide +kernel)
theorem dX4_learn_109 : decode cX4_learn 109 = .ok (.if_icmp .ne 16, 3) := dk_160 (a := 0) (b := 16) (by decide +kernel) rfl
theorem dX4_learn_112 : decode cX4_learn 112 = .ok (.aload_n 0, 1) := dk_42 (by decide +kernel)
theorem dX4_learn_113 : decode cX4_learn 113 = .ok (.getfield 15, 3) := dk_180 (a := 0) (b := 15) (by decide +kernel) rfl
theorem dX4_learn_116 : decode cX4_learn 116 = .ok (.iload_n 2, 1) := dk_28 (by decide +kernel)
theorem dX4_learn_117 : decode cX4_learn 117 = .ok (.aload_n 0, 1) := dk_42 (by decide +kernel)
theorem dX4_learn_118 : decode cX4_learn 118 = .ok (.getfield 15, 3) := dk_180 (a := 0) (b := 15) (by decide +kernel) rfl
theorem dX4_learn_121 : decode cX4_learn 121 = .ok (.iload_n 3, 1) := dk_29 (by decide +kernel)
theorem dX4_learn_122 : decode cX4_learn 122 = .ok (.invokestatic 64, 3) := dk_184 (a := 0) (b := 64) (by decide +kernel) rfl
theorem dX4_learn_125 : decode cX4_learn 125 = .ok (.aload_n 0, 1) := dk_42 (by decide +kernel)
theorem dX4_learn_126 : decode cX4_learn 126 = .ok (.getfield 15, 3) := dk_180 (a := 0) (b := 15) (by decide +kernel) rfl
theorem dX4_learn_129 : decode cX4_learn 129 = .ok (.iload_n 2, 1) := dk_28 (by decide +kernel)
theorem dX4_learn_130 : decode cX4_learn 130 = .ok (.aload_n 0, 1) := dk_42 (by decide +kernel)
theorem dX4_learn_131 : decode cX4_learn 131 = .ok (.getfield 9, 3) := dk_180 (a := 0) (b := 9) (by decide +kernel) rfl
theorem dX4_learn_134 : decode cX4_learn 134 = .ok (.iload_n 1, 1) := dk_27 (by decide +kernel)
theorem dX4_learn_135 : decode cX4_learn 135 = .ok (.iconst 4, 1) := dk_7 (by decide +kernel)
theorem dX4_learn_136 : decode cX4_learn 136 = .ok (.imul, 1) := dk_104 (by decide +kernel)
theorem dX4_learn_137 : decode cX4_learn 137 = .ok (.iconst 4, 1) := dk_7 (by decide +kernel)
theorem dX4_learn_138 : decode cX4_learn 138 = .ok (.invokestatic 68, 3) := dk_184 (a := 0) (b := 68) (by decide +kernel) rfl
theorem dX4_learn_141 : decode cX4_learn 141 = .ok (.return_, 1) := dk_177 (by decide +kernel)
theorem dX4_join_0 : decode cX4_join 0 = .ok (.iconst 0, 1) := dk_3 (by decide +kernel)
theorem dX4_join_1 : decode cX4_join 1 = .ok (.istore 4, 2) := dk_54 (by decide +kernel)
theorem dX4_join_3 : decode cX4_join 3 = .ok (.iload 4, 2) := dk_21 (by decide +kernel)
theorem dX4_join_5 : decode cX4_join 5 = .ok (.iconst 4, 1) := dk_7 (by decide +kernel)
theorem dX4_join_6 : decode cX4_join 6 = .ok (.if_icmp .ge 30, 3) := dk_162 (a := 0) (b := 30) (by decide +kernel) rfl
theorem dX4_join_9 : decode cX4_join 9 = .ok (.aload_n 2, 1) := dk_44 (by decide +kernel)
theorem dX4_join_10 : decode cX4_join 10 = .ok (.iload_n 3, 1) := dk_29 (by decide +kernel)
theorem dX4_join_11 : decode cX4_join 11 = .ok (.iload 4, 2) := dk_21 (by decide +kernel)
theorem dX4_join_13 : decode cX4_join 13 = .ok (.iadd, 1) := dk_96 (by decide +kernel)
theorem dX4_join_14 : decode cX4_join 14 = .ok (.aload_n 2, 1) := dk_44 (by decide +kernel)
theorem dX4_join_15 : decode cX4_join 15 = .ok (.iload_n 3, 1) := dk_29 (by decide +kernel)
theorem dX4_join_16 : decode cX4_join 16 = .ok (.iload 4, 2) := dk_21 (by decide +kernel)
theorem dX4_join_18 : decode cX4_join 18 = .ok (.iadd, 1) := dk_96 (by decide +kernel)
theorem dX4_join_19 : decode cX4_join 19 = .ok (.iaload, 1) := dk_46 (by decide +kernel)
theorem dX4_join_20 : decode cX4_join 20 = .ok (.aload_n 0, 1) := dk_42 (by decide +kernel)
theorem dX4_join_21 : decode cX4_join 21 = .ok (.iload_n 1, 1) := dk_27 (by decide +kernel)
theorem dX4_join_22 : decode cX4_join 22 = .ok (.iload 4, 2) := dk_21 (by decide +kernel)
theorem dX4_join_24 : decode cX4_join 24 = .ok (.iadd, 1) := dk_96 (by decide +kernel)
theorem dX4_join_25 : decode cX4_join 25 = .ok (.iaload, 1) := dk_46 (by decide +kernel)
theorem dX4_join_26 : decode cX4_join 26 = .ok (.invokestatic 74, 3) := dk_184 (a := 0) (b := 74) (by decide +kernel) rfl
theorem dX4_join_29 : decode cX4_join 29 = .ok (.iastore, 1) := dk_79 (by decide +kernel)
theorem dX4_join_30 : decode cX4_join 30 = .ok (.iinc 4 1, 3) := dk_132 (b := 1) (by decide +kernel) rfl
theorem dX4_join_33 : decode cX4_join 33 = .ok (.goto (-30), 3) := dk_167 (a := 255) (b := 226) (by decide +kernel) rfl
theorem dX4_join_36 : decode cX4_join 36 = .ok (.return_, 1) := dk_177 (by decide +kernel)
theorem dX4_isAhead_0 : decode cX4_isAhead 0 = .ok (.iload_n 1, 1) := dk_27 (by decide +kernel)
theorem dX4_isAhead_1 : decode cX4_isAhead 1 = .ok (.iload_n 2, 1) := dk_28 (by decide +kernel)
theorem dX4_isAhead_2 : decode cX4_isAhead 2 = .ok (.if_icmp .ge 29, 3) := dk_162 (a := 0) (b := 29) (by decide +kernel) rfl
theorem dX4_isAhead_5 : decode cX4_isAhead 5 = .ok (.aload_n 0, 1) := dk_42 (by decide +kernel)
theorem dX4_isAhead_6 : decode cX4_isAhead 6 = .ok (.getfield 9, 3) := dk_180 (a := 0) (b := 9) (by decide +kernel) rfl
theorem dX4_isAhead_9 : decode cX4_isAhead 9 = .ok (.iload_n 2, 1) := dk_28 (by decide +kernel)
theorem dX4_isAhead_10 : decode cX4_isAhead 10 = .ok (.iconst 4, 1) := dk_7 (by decide +kernel)
theorem dX4_isAhead_11 : decode cX4_isAhead 11 = .ok (.imul, 1) := dk_104 (by decide +kernel)
theorem dX4_isAhead_12 : decode cX4_isAhead 12 = .ok (.aload_n 0, 1) := dk_42 (by decide +kernel)
theorem dX4_isAhead_13 : decode cX4_isAhead 13 = .ok (.getfield 24, 3) := dk_180 (a := 0) (b := 24) (by decide +kernel) rfl
theorem dX4_isAhead_16 : decode cX4_isAhead 16 = .ok (.getfield 55, 3) := dk_180 (a := 0) (b := 55) (by decide +kernel) rfl
theorem dX4_isAhead_19 : decode cX4_isAhead 19 = .ok (.iload_n 1, 1) := dk_27 (by decide +kernel)
theorem dX4_isAhead_20 : decode cX4_isAhead 20 = .ok (.iaload, 1) := dk_46 (by decide +kernel)
theorem dX4_isAhead_21 : decode cX4_isAhead 21 = .ok (.iadd, 1) := dk_96 (by decide +kernel)
theorem dX4_isAhead_22 : decode cX4_isAhead 22 = .ok (.iaload, 1) := dk_46 (by decide +kernel)
theorem dX4_isAhead_23 : decode cX4_isAhead 23 = .ok (.iload_n 1, 1) := dk_27 (by decide +kernel)
theorem dX4_isAhead_24 : decode cX4_isAhead 24 = .ok (.if_icmp .lt 7, 3) := dk_161 (a := 0) (b := 7) (by decide +kernel) rfl
theorem dX4_isAhead_27 : decode cX4_isAhead 27 = .ok (.iconst 1, 1) := dk_4 (by decide +kernel)
theorem dX4_isAhead_28 : decode cX4_isAhead 28 = .ok (.goto 4, 3) := dk_167 (a := 0) (b := 4) (by decide +kernel) rfl
theorem dX4_isAhead_31 : decode cX4_isAhead 31 = .ok (.iconst 0, 1) := dk_3 (by decide +kernel)
theorem dX4_isAhead_32 : decode cX4_isAhead 32 = .ok (.ireturn, 1) := dk_172 (by decide +kernel)
theorem dX4_isRace_0 : decode cX4_isRace 0 = .ok (.aload_n 0, 1) := dk_42 (by decide +kernel)
theorem dX4_isRace_1 : decode cX4_isRace 1 = .ok (.getfield 24, 3) := dk_180 (a := 0) (b := 24) (by decide +kernel) rfl
theorem dX4_isRace_4 : decode cX4_isRace 4 = .ok (.iload_n 2, 1) := dk_28 (by decide +kernel)
theorem dX4_isRace_5 : decode cX4_isRace 5 = .ok (.invokevirtual 80, 3) := dk_182 (a := 0) (b := 80) (by decide +kernel) rfl
theorem dX4_isRace_8 : decode cX4_isRace 8 = .ok (.istore_n 3, 1) := dk_62 (by decide +kernel)
theorem dX4_isRace_9 : decode cX4_isRace 9 = .ok (.iload_n 3, 1) := dk_29 (by decide +kernel)
theorem dX4_isRace_10 : decode cX4_isRace 10 = .ok (.bipush (-2), 2) := dk_16 (a := 254) (by decide +kernel) rfl
theorem dX4_isRace_12 : decode cX4_isRace 12 = .ok (.if_icmp .eq 36, 3) := dk_159 (a := 0) (b := 36) (by decide +kernel) rfl
theorem dX4_isRace_15 : decode cX4_isRace 15 = .ok (.aload_n 0, 1) := dk_42 (by decide +kernel)
theorem dX4_isRace_16 : decode cX4_isRace 16 = .ok (.getfield 24, 3) := dk_180 (a := 0) (b := 24) (by decide +kernel) rfl
theorem dX4_isRace_19 : decode cX4_isRace 19 = .ok (.iload_n 1, 1) := dk_27 (by decide +kernel)
theorem dX4_isRace_20 : decode cX4_isRace 20 = .ok (.invokevirtual 80, 3) := dk_182 (a := 0) (b := 80) (by decide +kernel) rfl
theorem dX4_isRace_23 : decode cX4_isRace 23 = .ok (.iload_n 3, 1) := dk_29 (by decide +kernel)
theorem dX4_isRace_24 : decode cX4_isRace 24 = .ok (.if_icmp .ne 24, 3) := dk_160 (a := 0) (b := 24) (by decide +kernel) rfl
theorem dX4_isRace_27 : decode cX4_isRace 27 = .ok (.aload_n 0, 1) := dk_42 (by decide +kernel)
theorem dX4_isRace_28 : decode cX4_isRace 28 = .ok (.getfield 24, 3) := dk_180 (a := 0) (b := 24) (by decide +kernel) rfl
theorem dX4_isRace_31 : decode cX4_isRace 31 = .ok (.getfield 55, 3) := dk_180 (a := 0) (b := 55) (by decide +kernel) rfl
theorem dX4_isRace_34 : decode cX4_isRace 34 = .ok (.iload_n 1, 1) := dk_27 (by decide +kernel)
theorem dX4_isRace_35 : decode cX4_isRace 35 = .ok (.iaload, 1) := dk_46 (by decide +kernel)
theorem dX4_isRace_36 : decode cX4_isRace 36 = .ok (.aload_n 0, 1) := dk_42 (by decide +kernel)
theorem dX4_isRace_37 : decode cX4_isRace 37 = .ok (.getfield 24, 3) := dk_180 (a := 0) (b := 24) (by decide +kernel) rfl
theorem dX4_isRace_40 : decode cX4_isRace 40 = .ok (.getfield 55, 3) := dk_180 (a := 0) (b := 55) (by decide +kernel) rfl
theorem dX4_isRace_43 : decode cX4_isRace 43 = .ok (.iload_n 2, 1) := dk_28 (by decide +kernel)
theorem dX4_isRace_44 : decode cX4_isRace 44 = .ok (.iaload, 1) := dk_46 (by decide +kernel)
theorem dX4_isRace_45 : decode cX4_isRace 45 = .ok (.if_icmp .ne 5, 3) := dk_160 (a := 0) (b := 5) (by decide +kernel) rfl
theorem dX4_isRace_48 : decode cX4_isRace 48 = .ok (.iconst 0, 1) := dk_3 (by decide +kernel)
theorem dX4_isRace_49 : decode cX4_isRace 49 = .ok (.ireturn, 1) := dk_172 (by decide +kernel)
theorem dX4_isRace_50 : decode cX4_isRace 50 = .ok (.aload_n 0, 1) := dk_42 (by decide +kernel)
theorem dX4_isRace_51 : decode cX4_isRace 51 = .ok (.getfield 24, 3) := dk_180 (a := 0) (b := 24) (by decide +kernel) rfl
theorem dX4_isRace_54 : decode cX4_isRace 54 = .ok (.getfield 83, 3) := dk_180 (a := 0) (b := 83) (by decide +kernel) rfl
theorem dX4_isRace_57 : decode cX4_isRace 57 = .ok (.iload_n 1, 1) := dk_27 (by decide +kernel)
theorem dX4_isRace_58 : decode cX4_isRace 58 = .ok (.iaload, 1) := dk_46 (by decide +kernel)
theorem dX4_isRace_59 : decode cX4_isRace 59 = .ok (.iload_n 3, 1) := dk_29 (by decide +kernel)
theorem dX4_isRace_60 : decode cX4_isRace 60 = .ok (.if_icmp .eq 16, 3) := dk_159 (a := 0) (b := 16) (by decide +kernel) rfl
theorem dX4_isRace_63 : decode cX4_isRace 63 = .ok (.aload_n 0, 1) := dk_42 (by decide +kernel)
theorem dX4_isRace_64 : decode cX4_isRace 64 = .ok (.getfield 24, 3) := dk_180 (a := 0) (b := 24) (by decide +kernel) rfl
theorem dX4_isRace_67 : decode cX4_isRace 67 = .ok (.getfield 83, 3) := dk_180 (a := 0) (b := 83) (by decide +kernel) rfl
theorem dX4_isRace_70 : decode cX4_isRace 70 = .ok (.iload_n 2, 1) := dk_28 (by decide +kernel)
theorem dX4_isRace_71 : decode cX4_isRace 71 = .ok (.iaload, 1) := dk_46 (by decide +kernel)
theorem dX4_isRace_72 : decode cX4_isRace 72 = .ok (.iload_n 3, 1) := dk_29 (by decide +kernel)
theorem dX4_isRace_73 : decode cX4_isRace 73 = .ok (.if_icmp .ne 16, 3) := dk_160 (a := 0) (b := 16) (by decide +kernel) rfl
theorem dX4_isRace_76 : decode cX4_isRace 76 = .ok (.aload_n 0, 1) := dk_42 (by decide +kernel)
theorem dX4_isRace_77 : decode cX4_isRace 77 = .ok (.iload_n 1, 1) := dk_27 (by decide +kernel)
theorem dX4_isRace_78 : decode cX4_isRace 78 = .ok (.iload_n 2, 1) := dk_28 (by decide +kernel)
theorem dX4_isRace_79 : decode cX4_isRace 79 = .ok (.invokevirtual 86, 3) := dk_182 (a := 0) (b := 86) (by decide +kernel) rfl
theorem dX4_isRace_82 : decode cX4_isRace 82 = .ok (.ifCond .ne 7, 3) := dk_154 (a := 0) (b := 7) (by decide +kernel) rfl
theorem dX4_isRace_85 : decode cX4_isRace 85 = .ok (.iconst 1, 1) := dk_4 (by decide +kernel)
theorem dX4_isRace_86 : decode cX4_isRace 86 = .ok (.goto 4, 3) := dk_167 (a := 0) (b := 4) (by decide +kernel) rfl
theorem dX4_isRace_89 : decode cX4_isRace 89 = .ok (.iconst 0, 1) := dk_3 (by decide +kernel)
theorem dX4_isRace_90 : decode cX4_isRace 90 = .ok (.ireturn, 1) := dk_172 (by decide +kernel)
theorem dX4_countRaces_0 : decode cX4_countRaces 0 = .ok (.aload_n 0, 1) := dk_42 (by decide +kernel)
theorem dX4_countRaces_1 : decode cX4_countRaces 1 = .ok (.getfield 24, 3) := dk_180 (a := 0) (b := 24) (by decide +kernel) rfl
theorem dX4_countRaces_4 : decode cX4_countRaces 4 = .ok (.iload_n 1, 1) := dk_27 (by decide +kernel)
theorem dX4_countRaces_5 : decode cX4_countRaces 5 = .ok (.invokevirtual 80, 3) := dk_182 (a := 0) (b := 80) (by decide +kernel) rfl
theorem dX4_countRaces_8 : decode cX4_countRaces 8 = .ok (.bipush (-2), 2) := dk_16 (a := 254) (by decide +kernel) rfl
theorem dX4_countRaces_10 : decode cX4_countRaces 10 = .ok (.if_icmp .ne 5, 3) := dk_160 (a := 0) (b := 5) (by decide +kernel) rfl
theorem dX4_countRaces_13 : decode cX4_countRaces 13 = .ok (.iconst 0, 1) := dk_3 (by decide +kernel)
theorem dX4_countRaces_14 : decode cX4_countRaces 14 = .ok (.ireturn, 1) := dk_172 (by decide +kernel)
theorem dX4_countRaces_15 : decode cX4_countRaces 15 = .ok (.iconst 0, 1) := dk_3 (by decide +kernel)
theorem dX4_countRaces_16 : decode cX4_countRaces 16 = .ok (.istore_n 2, 1) := dk_61 (by decide +kernel)
theorem dX4_countRaces_17 : decode cX4_countRaces 17 = .ok (.iconst 1, 1) := dk_4 (by decide +kernel)
theorem dX4_countRaces_18 : decode cX4_countRaces 18 = .ok (.istore_n 3, 1) := dk_62 (by decide +kernel)
theorem dX4_countRaces_19 : decode cX4_countRaces 19 = .ok (.iload_n 3, 1) := dk_29 (by decide +kernel)
theorem dX4_countRaces_20 : decode cX4_countRaces 20 = .ok (.iload_n 1, 1) := dk_27 (by decide +kernel)
theorem dX4_countRaces_21 : decode cX4_countRaces 21 = .ok (.if_icmp .ge 21, 3) := dk_162 (a := 0) (b := 21) (by decide +kernel) rfl
theorem dX4_countRaces_24 : decode cX4_countRaces 24 = .ok (.aload_n 0, 1) := dk_42 (by decide +kernel)
theorem dX4_countRaces_25 : decode cX4_countRaces 25 = .ok (.iload_n 3, 1) := dk_29 (by decide +kernel)
theorem dX4_countRaces_26 : decode cX4_countRaces 26 = .ok (.iload_n 1, 1) := dk_27 (by decide +kernel)
theorem dX4_countRaces_27 : decode cX4_countRaces 27 = .ok (.invokevirtual 90, 3) := dk_182 (a := 0) (b := 90) (by decide +kernel) rfl
theorem dX4_countRaces_30 : decode cX4_countRaces 30 = .ok (.ifCond .eq 6, 3) := dk_153 (a := 0) (b := 6) (by decide +kernel) rfl
theorem dX4_countRaces_33 : decode cX4_countRaces 33 = .ok (.iinc 2 1, 3) := dk_132 (b := 1) (by decide +kernel) rfl
theorem dX4_countRaces_36 : decode cX4_countRaces 36 = .ok (.iinc 3 1, 3) := dk_132 (b := 1) (by decide +kernel) rfl
theorem dX4_countRaces_39 : decode cX4_countRaces 39 = .ok (.goto (-20), 3) := dk_167 (a := 255) (b := 236) (by decide +kernel) rfl
theorem dX4_countRaces_42 : decode cX4_countRaces 42 = .ok (.iload_n 2, 1) := dk_28 (by decide +kernel)
theorem dX4_countRaces_43 : decode cX4_countRaces 43 = .ok (.ireturn, 1) := dk_172 (by decide +kernel)
theorem dX4_laterOf_0 : decode cX4_laterOf 0 = .ok (.iconst 0, 1) := dk_3 (by decide +kernel)
theorem dX4_laterOf_1 : decode cX4_laterOf 1 = .ok (.istore_n 2, 1) := dk_61 (by decide +kernel)
theorem dX4_laterOf_2 : decode cX4_laterOf 2 = .ok (.iconst 1, 1) := dk_4 (by decide +kernel)
theorem dX4_laterOf_3 : decode cX4_laterOf 3 = .ok (.istore_n 3, 1) := dk_62 (by decide +kernel)
theorem dX4_laterOf_4 : decode cX4_laterOf 4 = .ok (.iload_n 3, 1) := dk_29 (by decide +kernel)
theorem dX4_laterOf_5 : decode cX4_laterOf 5 = .ok (.aload_n 0, 1) := dk_42 (by decide +kernel)
theorem dX4_laterOf_6 : decode cX4_laterOf 6 = .ok (.getfield 24, 3) := dk_180 (a := 0) (b := 24) (by decide +kernel) rfl
theorem dX4_laterOf_9 : decode cX4_laterOf 9 = .ok (.getfield 42, 3) := dk_180 (a := 0) (b := 42) (by decide +kernel) rfl
theorem dX4_laterOf_12 : decode cX4_laterOf 12 = .ok (.if_icmp .gt 25, 3) := dk_163 (a := 0) (b := 25) (by decide +kernel) rfl
theorem dX4_laterOf_15 : decode cX4_laterOf 15 = .ok (.iload_n 2, 1) := dk_28 (by decide +kernel)
theorem dX4_laterOf_16 : decode cX4_laterOf 16 = .ok (.aload_n 0, 1) := dk_42 (by decide +kernel)
theorem dX4_laterOf_17 : decode cX4_laterOf 17 = .ok (.getfield 21, 3) := dk_180 (a := 0) (b := 21) (by decide +kernel) rfl
theorem dX4_laterOf_20 : decode cX4_laterOf 20 = .ok (.iload_n 3, 1) := dk_29 (by decide +kernel)
theorem dX4_laterOf_21 : decode cX4_laterOf 21 = .ok (.iaload, 1) := dk_46 (by decide +kernel)
theorem dX4_laterOf_22 : decode cX4_laterOf 22 = .ok (.iadd, 1) := dk_96 (by decide +kernel)
theorem dX4_laterOf_23 : decode cX4_laterOf 23 = .ok (.istore_n 2, 1) := dk_61 (by decide +kernel)
theorem dX4_laterOf_24 : decode cX4_laterOf 24 = .ok (.iload_n 1, 1) := dk_27 (by decide +kernel)
theorem dX4_laterOf_25 : decode cX4_laterOf 25 = .ok (.iload_n 2, 1) := dk_28 (by decide +kernel)
theorem dX4_laterOf_26 : decode cX4_laterOf 26 = .ok (.if_icmp .ge 5, 3) := dk_162 (a := 0) (b := 5) (by decide +kernel) rfl
theorem dX4_laterOf_29 : decode cX4_laterOf 29 = .ok (.iload_n 3, 1) := dk_29 (by decide +kernel)
theorem dX4_laterOf_30 : decode cX4_laterOf 30 = .ok (.ireturn, 1) := dk_172 (by decide +kernel)
theorem dX4_laterOf_31 : decode cX4_laterOf 31 = .ok (.iinc 3 1, 3) := dk_132 (b := 1) (by decide +kernel) rfl
theorem dX4_laterOf_34 : decode cX4_laterOf 34 = .ok (.goto (-30), 3) := dk_167 (a := 255) (b := 226) (by decide +kernel) rfl
theorem dX4_laterOf_37 : decode cX4_laterOf 37 = .ok (.iconst 0, 1) := dk_3 (by decide +kernel)
theorem dX4_laterOf_38 : decode cX4_laterOf 38 = .ok (.ireturn, 1) := dk_172 (by decide +kernel)
theorem dX4_earlierOf_0 : decode cX4_earlierOf 0 = .ok (.iload_n 1, 1) := dk_27 (by decide +kernel)
theorem dX4_earlierOf_1 : decode cX4_earlierOf 1 = .ok (.istore_n 3, 1) := dk_62 (by decide +kernel)
theorem dX4_earlierOf_2 : decode cX4_earlierOf 2 = .ok (.iconst 1, 1) := dk_4 (by decide +kernel)
theorem dX4_earlierOf_3 : decode cX4_earlierOf 3 = .ok (.istore 4, 2) := dk_54 (by decide +kernel)
theorem dX4_earlierOf_5 : decode cX4_earlierOf 5 = .ok (.iload 4, 2) := dk_21 (by decide +kernel)
theorem dX4_earlierOf_7 : decode cX4_earlierOf 7 = .ok (.iload_n 2, 1) := dk_28 (by decide +kernel)
theorem dX4_earlierOf_8 : decode cX4_earlierOf 8 = .ok (.if_icmp .ge 19, 3) := dk_162 (a := 0) (b := 19) (by decide +kernel) rfl
theorem dX4_earlierOf_11 : decode cX4_earlierOf 11 = .ok (.iload_n 3, 1) := dk_29 (by decide +kernel)
theorem dX4_earlierOf_12 : decode cX4_earlierOf 12 = .ok (.aload_n 0, 1) := dk_42 (by decide +kernel)
theorem dX4_earlierOf_13 : decode cX4_earlierOf 13 = .ok (.getfield 21, 3) := dk_180 (a := 0) (b := 21) (by decide +kernel) rfl
