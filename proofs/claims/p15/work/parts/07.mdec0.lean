theorem dX12_isIn_0 : decode cX12_isIn 0 = .ok (.lload_n 0, 1) := dk_30 (by decide +kernel)
theorem dX12_isIn_1 : decode cX12_isIn 1 = .ok (.lload_n 2, 1) := dk_32 (by decide +kernel)
theorem dX12_isIn_2 : decode cX12_isIn 2 = .ok (.lcmp, 1) := dk_148 (by decide +kernel)
theorem dX12_isIn_3 : decode cX12_isIn 3 = .ok (.ifCond .lt 14, 3) := dk_155 (a := 0) (b := 14) (by decide +kernel) rfl
theorem dX12_isIn_6 : decode cX12_isIn 6 = .ok (.lload_n 0, 1) := dk_30 (by decide +kernel)
theorem dX12_isIn_7 : decode cX12_isIn 7 = .ok (.lload 4, 2) := by decide +kernel
theorem dX12_isIn_9 : decode cX12_isIn 9 = .ok (.lcmp, 1) := dk_148 (by decide +kernel)
theorem dX12_isIn_10 : decode cX12_isIn 10 = .ok (.ifCond .gt 7, 3) := dk_157 (a := 0) (b := 7) (by decide +kernel) rfl
theorem dX12_isIn_13 : decode cX12_isIn 13 = .ok (.iconst 1, 1) := dk_4 (by decide +kernel)
theorem dX12_isIn_14 : decode cX12_isIn 14 = .ok (.goto 4, 3) := dk_167 (a := 0) (b := 4) (by decide +kernel) rfl
theorem dX12_isIn_17 : decode cX12_isIn 17 = .ok (.iconst 0, 1) := dk_3 (by decide +kernel)
theorem dX12_isIn_18 : decode cX12_isIn 18 = .ok (.ireturn, 1) := dk_172 (by decide +kernel)
theorem dX12_modulo_0 : decode cX12_modulo 0 = .ok (.iload_n 0, 1) := dk_26 (by decide +kernel)
theorem dX12_modulo_1 : decode cX12_modulo 1 = .ok (.iload_n 1, 1) := dk_27 (by decide +kernel)
theorem dX12_modulo_2 : decode cX12_modulo 2 = .ok (.irem, 1) := dk_112 (by decide +kernel)
theorem dX12_modulo_3 : decode cX12_modulo 3 = .ok (.iload_n 1, 1) := dk_27 (by decide +kernel)
theorem dX12_modulo_4 : decode cX12_modulo 4 = .ok (.iadd, 1) := dk_96 (by decide +kernel)
theorem dX12_modulo_5 : decode cX12_modulo 5 = .ok (.iload_n 1, 1) := dk_27 (by decide +kernel)
theorem dX12_modulo_6 : decode cX12_modulo 6 = .ok (.irem, 1) := dk_112 (by decide +kernel)
theorem dX12_modulo_7 : decode cX12_modulo 7 = .ok (.ireturn, 1) := dk_172 (by decide +kernel)
theorem dX12_code_0 : decode cX12_code 0 = .ok (.aload_n 0, 1) := dk_42 (by decide +kernel)
theorem dX12_code_1 : decode cX12_code 1 = .ok (.iconst 0, 1) := dk_3 (by decide +kernel)
theorem dX12_code_2 : decode cX12_code 2 = .ok (.putfield 164, 3) := dk_181 (a := 0) (b := 164) (by decide +kernel) rfl
theorem dX12_code_5 : decode cX12_code 5 = .ok (.iload_n 1, 1) := dk_27 (by decide +kernel)
theorem dX12_code_6 : decode cX12_code 6 = .ok (.i2l, 1) := dk_133 (by decide +kernel)
theorem dX12_code_7 : decode cX12_code 7 = .ok (.lconst 0, 1) := dk_9 (by decide +kernel)
theorem dX12_code_8 : decode cX12_code 8 = .ok (.ldc2_w 167, 3) := dk_20 (a := 0) (b := 167) (by decide +kernel) rfl
theorem dX12_code_11 : decode cX12_code 11 = .ok (.invokestatic 169, 3) := dk_184 (a := 0) (b := 169) (by decide +kernel) rfl
theorem dX12_code_14 : decode cX12_code 14 = .ok (.ifCond .eq 15, 3) := dk_153 (a := 0) (b := 15) (by decide +kernel) rfl
theorem dX12_code_17 : decode cX12_code 17 = .ok (.iload_n 2, 1) := dk_28 (by decide +kernel)
theorem dX12_code_18 : decode cX12_code 18 = .ok (.i2l, 1) := dk_133 (by decide +kernel)
theorem dX12_code_19 : decode cX12_code 19 = .ok (.lconst 0, 1) := dk_9 (by decide +kernel)
theorem dX12_code_20 : decode cX12_code 20 = .ok (.ldc2_w 173, 3) := dk_20 (a := 0) (b := 173) (by decide +kernel) rfl
theorem dX12_code_23 : decode cX12_code 23 = .ok (.invokestatic 169, 3) := dk_184 (a := 0) (b := 169) (by decide +kernel) rfl
theorem dX12_code_26 : decode cX12_code 26 = .ok (.ifCond .ne 5, 3) := dk_154 (a := 0) (b := 5) (by decide +kernel) rfl
theorem dX12_code_29 : decode cX12_code 29 = .ok (.iconst (-1), 1) := dk_2 (by decide +kernel)
theorem dX12_code_30 : decode cX12_code 30 = .ok (.ireturn, 1) := dk_172 (by decide +kernel)
theorem dX12_code_31 : decode cX12_code 31 = .ok (.aload_n 0, 1) := dk_42 (by decide +kernel)
theorem dX12_code_32 : decode cX12_code 32 = .ok (.getfield 7, 3) := dk_180 (a := 0) (b := 7) (by decide +kernel) rfl
theorem dX12_code_35 : decode cX12_code 35 = .ok (.iload_n 1, 1) := dk_27 (by decide +kernel)
theorem dX12_code_36 : decode cX12_code 36 = .ok (.iaload, 1) := dk_46 (by decide +kernel)
theorem dX12_code_37 : decode cX12_code 37 = .ok (.bipush 24, 2) := dk_16 (a := 24) (by decide +kernel) rfl
theorem dX12_code_39 : decode cX12_code 39 = .ok (.if_icmp .ne 6, 3) := dk_160 (a := 0) (b := 6) (by decide +kernel) rfl
theorem dX12_code_42 : decode cX12_code 42 = .ok (.bipush (-2), 2) := dk_16 (a := 254) (by decide +kernel) rfl
theorem dX12_code_44 : decode cX12_code 44 = .ok (.ireturn, 1) := dk_172 (by decide +kernel)
theorem dX12_code_45 : decode cX12_code 45 = .ok (.bipush 24, 2) := dk_16 (a := 24) (by decide +kernel) rfl
theorem dX12_code_47 : decode cX12_code 47 = .ok (.iload_n 1, 1) := dk_27 (by decide +kernel)
theorem dX12_code_48 : decode cX12_code 48 = .ok (.imul, 1) := dk_104 (by decide +kernel)
theorem dX12_code_49 : decode cX12_code 49 = .ok (.aload_n 0, 1) := dk_42 (by decide +kernel)
theorem dX12_code_50 : decode cX12_code 50 = .ok (.getfield 7, 3) := dk_180 (a := 0) (b := 7) (by decide +kernel) rfl
theorem dX12_code_53 : decode cX12_code 53 = .ok (.iload_n 1, 1) := dk_27 (by decide +kernel)
theorem dX12_code_54 : decode cX12_code 54 = .ok (.iaload, 1) := dk_46 (by decide +kernel)
theorem dX12_code_55 : decode cX12_code 55 = .ok (.iadd, 1) := dk_96 (by decide +kernel)
theorem dX12_code_56 : decode cX12_code 56 = .ok (.istore 6, 2) := dk_54 (by decide +kernel)
theorem dX12_code_58 : decode cX12_code 58 = .ok (.aload_n 0, 1) := dk_42 (by decide +kernel)
theorem dX12_code_59 : decode cX12_code 59 = .ok (.getfield 13, 3) := dk_180 (a := 0) (b := 13) (by decide +kernel) rfl
theorem dX12_code_62 : decode cX12_code 62 = .ok (.iload 6, 2) := dk_21 (by decide +kernel)
theorem dX12_code_64 : decode cX12_code 64 = .ok (.iload_n 2, 1) := dk_28 (by decide +kernel)
theorem dX12_code_65 : decode cX12_code 65 = .ok (.iastore, 1) := dk_79 (by decide +kernel)
theorem dX12_code_66 : decode cX12_code 66 = .ok (.aload_n 0, 1) := dk_42 (by decide +kernel)
theorem dX12_code_67 : decode cX12_code 67 = .ok (.getfield 16, 3) := dk_180 (a := 0) (b := 16) (by decide +kernel) rfl
theorem dX12_code_70 : decode cX12_code 70 = .ok (.iload 6, 2) := dk_21 (by decide +kernel)
theorem dX12_code_72 : decode cX12_code 72 = .ok (.iload_n 3, 1) := dk_29 (by decide +kernel)
theorem dX12_code_73 : decode cX12_code 73 = .ok (.iastore, 1) := dk_79 (by decide +kernel)
theorem dX12_code_74 : decode cX12_code 74 = .ok (.aload_n 0, 1) := dk_42 (by decide +kernel)
theorem dX12_code_75 : decode cX12_code 75 = .ok (.getfield 19, 3) := dk_180 (a := 0) (b := 19) (by decide +kernel) rfl
theorem dX12_code_78 : decode cX12_code 78 = .ok (.iload 6, 2) := dk_21 (by decide +kernel)
theorem dX12_code_80 : decode cX12_code 80 = .ok (.iload 4, 2) := dk_21 (by decide +kernel)
theorem dX12_code_82 : decode cX12_code 82 = .ok (.iastore, 1) := dk_79 (by decide +kernel)
theorem dX12_code_83 : decode cX12_code 83 = .ok (.aload_n 0, 1) := dk_42 (by decide +kernel)
theorem dX12_code_84 : decode cX12_code 84 = .ok (.getfield 22, 3) := dk_180 (a := 0) (b := 22) (by decide +kernel) rfl
theorem dX12_code_87 : decode cX12_code 87 = .ok (.iload 6, 2) := dk_21 (by decide +kernel)
theorem dX12_code_89 : decode cX12_code 89 = .ok (.iload 5, 2) := dk_21 (by decide +kernel)
theorem dX12_code_91 : decode cX12_code 91 = .ok (.iastore, 1) := dk_79 (by decide +kernel)
theorem dX12_code_92 : decode cX12_code 92 = .ok (.aload_n 0, 1) := dk_42 (by decide +kernel)
theorem dX12_code_93 : decode cX12_code 93 = .ok (.getfield 7, 3) := dk_180 (a := 0) (b := 7) (by decide +kernel) rfl
theorem dX12_code_96 : decode cX12_code 96 = .ok (.iload_n 1, 1) := dk_27 (by decide +kernel)
theorem dX12_code_97 : decode cX12_code 97 = .ok (.dup2, 1) := by decide +kernel
theorem dX12_code_98 : decode cX12_code 98 = .ok (.iaload, 1) := dk_46 (by decide +kernel)
theorem dX12_code_99 : decode cX12_code 99 = .ok (.iconst 1, 1) := dk_4 (by decide +kernel)
theorem dX12_code_100 : decode cX12_code 100 = .ok (.iadd, 1) := dk_96 (by decide +kernel)
theorem dX12_code_101 : decode cX12_code 101 = .ok (.iastore, 1) := dk_79 (by decide +kernel)
theorem dX12_code_102 : decode cX12_code 102 = .ok (.aload_n 0, 1) := dk_42 (by decide +kernel)
theorem dX12_code_103 : decode cX12_code 103 = .ok (.getfield 7, 3) := dk_180 (a := 0) (b := 7) (by decide +kernel) rfl
theorem dX12_code_106 : decode cX12_code 106 = .ok (.iload_n 1, 1) := dk_27 (by decide +kernel)
theorem dX12_code_107 : decode cX12_code 107 = .ok (.iaload, 1) := dk_46 (by decide +kernel)
theorem dX12_code_108 : decode cX12_code 108 = .ok (.iconst 1, 1) := dk_4 (by decide +kernel)
theorem dX12_code_109 : decode cX12_code 109 = .ok (.isub, 1) := dk_100 (by decide +kernel)
theorem dX12_code_110 : decode cX12_code 110 = .ok (.ireturn, 1) := dk_172 (by decide +kernel)
theorem dX12_clear_0 : decode cX12_clear 0 = .ok (.aload_n 0, 1) := dk_42 (by decide +kernel)
theorem dX12_clear_1 : decode cX12_clear 1 = .ok (.iconst 0, 1) := dk_3 (by decide +kernel)
theorem dX12_clear_2 : decode cX12_clear 2 = .ok (.putfield 164, 3) := dk_181 (a := 0) (b := 164) (by decide +kernel) rfl
theorem dX12_clear_5 : decode cX12_clear 5 = .ok (.iload_n 1, 1) := dk_27 (by decide +kernel)
theorem dX12_clear_6 : decode cX12_clear 6 = .ok (.i2l, 1) := dk_133 (by decide +kernel)
theorem dX12_clear_7 : decode cX12_clear 7 = .ok (.lconst 0, 1) := dk_9 (by decide +kernel)
theorem dX12_clear_8 : decode cX12_clear 8 = .ok (.ldc2_w 167, 3) := dk_20 (a := 0) (b := 167) (by decide +kernel) rfl
theorem dX12_clear_11 : decode cX12_clear 11 = .ok (.invokestatic 169, 3) := dk_184 (a := 0) (b := 169) (by decide +kernel) rfl
theorem dX12_clear_14 : decode cX12_clear 14 = .ok (.ifCond .ne 5, 3) := dk_154 (a := 0) (b := 5) (by decide +kernel) rfl
theorem dX12_clear_17 : decode cX12_clear 17 = .ok (.iconst (-1), 1) := dk_2 (by decide +kernel)
theorem dX12_clear_18 : decode cX12_clear 18 = .ok (.ireturn, 1) := dk_172 (by decide +kernel)
theorem dX12_clear_19 : decode cX12_clear 19 = .ok (.aload_n 0, 1) := dk_42 (by decide +kernel)
theorem dX12_clear_20 : decode cX12_clear 20 = .ok (.getfield 7, 3) := dk_180 (a := 0) (b := 7) (by decide +kernel) rfl
theorem dX12_clear_23 : decode cX12_clear 23 = .ok (.iload_n 1, 1) := dk_27 (by decide +kernel)
theorem dX12_clear_24 : decode cX12_clear 24 = .ok (.iaload, 1) := dk_46 (by decide +kernel)
theorem dX12_clear_25 : decode cX12_clear 25 = .ok (.istore_n 2, 1) := dk_61 (by decide +kernel)
theorem dX12_clear_26 : decode cX12_clear 26 = .ok (.aload_n 0, 1) := dk_42 (by decide +kernel)
theorem dX12_clear_27 : decode cX12_clear 27 = .ok (.getfield 7, 3) := dk_180 (a := 0) (b := 7) (by decide +kernel) rfl
theorem dX12_clear_30 : decode cX12_clear 30 = .ok (.iload_n 1, 1) := dk_27 (by decide +kernel)
theorem dX12_clear_31 : decode cX12_clear 31 = .ok (.iconst 0, 1) := dk_3 (by decide +kernel)
theorem dX12_clear_32 : decode cX12_clear 32 = .ok (.iastore, 1) := dk_79 (by decide +kernel)
theorem dX12_clear_33 : decode cX12_clear 33 = .ok (.iload_n 2, 1) := dk_28 (by decide +kernel)
theorem dX12_clear_34 : decode cX12_clear 34 = .ok (.ireturn, 1) := dk_172 (by decide +kernel)
theorem dX12_cell_0 : decode cX12_cell 0 = .ok (.aload_n 0, 1) := dk_42 (by decide +kernel)
theorem dX12_cell_1 : decode cX12_cell 1 = .ok (.iconst 0, 1) := dk_3 (by decide +kernel)
theorem dX12_cell_2 : decode cX12_cell 2 = .ok (.putfield 164, 3) := dk_181 (a := 0) (b := 164) (by decide +kernel) rfl
theorem dX12_cell_5 : decode cX12_cell 5 = .ok (.iload_n 1, 1) := dk_27 (by decide +kernel)
theorem dX12_cell_6 : decode cX12_cell 6 = .ok (.i2l, 1) := dk_133 (by decide +kernel)
theorem dX12_cell_7 : decode cX12_cell 7 = .ok (.lconst 0, 1) := dk_9 (by decide +kernel)
theorem dX12_cell_8 : decode cX12_cell 8 = .ok (.ldc2_w 175, 3) := dk_20 (a := 0) (b := 175) (by decide +kernel) rfl
theorem dX12_cell_11 : decode cX12_cell 11 = .ok (.invokestatic 169, 3) := dk_184 (a := 0) (b := 169) (by decide +kernel) rfl
theorem dX12_cell_14 : decode cX12_cell 14 = .ok (.ifCond .ne 5, 3) := dk_154 (a := 0) (b := 5) (by decide +kernel) rfl
theorem dX12_cell_17 : decode cX12_cell 17 = .ok (.iconst (-1), 1) := dk_2 (by decide +kernel)
theorem dX12_cell_18 : decode cX12_cell 18 = .ok (.ireturn, 1) := dk_172 (by decide +kernel)
theorem dX12_cell_19 : decode cX12_cell 19 = .ok (.aload_n 0, 1) := dk_42 (by decide +kernel)
theorem dX12_cell_20 : decode cX12_cell 20 = .ok (.getfield 25, 3) := dk_180 (a := 0) (b := 25) (by decide +kernel) rfl
theorem dX12_cell_23 : decode cX12_cell 23 = .ok (.iload_n 1, 1) := dk_27 (by decide +kernel)
theorem dX12_cell_24 : decode cX12_cell 24 = .ok (.iload_n 2, 1) := dk_28 (by decide +kernel)
theorem dX12_cell_25 : decode cX12_cell 25 = .ok (.iastore, 1) := dk_79 (by decide +kernel)
theorem dX12_cell_26 : decode cX12_cell 26 = .ok (.iconst 0, 1) := dk_3 (by decide +kernel)
theorem dX12_cell_27 : decode cX12_cell 27 = .ok (.ireturn, 1) := dk_172 (by decide +kernel)
theorem dX12_input_0 : decode cX12_input 0 = .ok (.aload_n 0, 1) := dk_42 (by decide +kernel)
theorem dX12_input_1 : decode cX12_input 1 = .ok (.iconst 0, 1) := dk_3 (by decide +kernel)
theorem dX12_input_2 : decode cX12_input 2 = .ok (.putfield 164, 3) := dk_181 (a := 0) (b := 164) (by decide +kernel) rfl
theorem dX12_input_5 : decode cX12_input 5 = .ok (.aload_n 0, 1) := dk_42 (by decide +kernel)
theorem dX12_input_6 : decode cX12_input 6 = .ok (.getfield 177, 3) := dk_180 (a := 0) (b := 177) (by decide +kernel) rfl
theorem dX12_input_9 : decode cX12_input 9 = .ok (.bipush 30, 2) := dk_16 (a := 30) (by decide +kernel) rfl
theorem dX12_input_11 : decode cX12_input 11 = .ok (.if_icmp .ne 6, 3) := dk_160 (a := 0) (b := 6) (by decide +kernel) rfl
theorem dX12_input_14 : decode cX12_input 14 = .ok (.bipush (-2), 2) := dk_16 (a := 254) (by decide +kernel) rfl
theorem dX12_input_16 : decode cX12_input 16 = .ok (.ireturn, 1) := dk_172 (by decide +kernel)
theorem dX12_input_17 : decode cX12_input 17 = .ok (.aload_n 0, 1) := dk_42 (by decide +kernel)
theorem dX12_input_18 : decode cX12_input 18 = .ok (.getfield 28, 3) := dk_180 (a := 0) (b := 28) (by decide +kernel) rfl
theorem dX12_input_21 : decode cX12_input 21 = .ok (.aload_n 0, 1) := dk_42 (by decide +kernel)
theorem dX12_input_22 : decode cX12_input 22 = .ok (.getfield 177, 3) := dk_180 (a := 0) (b := 177) (by decide +kernel) rfl
theorem dX12_input_25 : decode cX12_input 25 = .ok (.iload_n 1, 1) := dk_27 (by decide +kernel)
theorem dX12_input_26 : decode cX12_input 26 = .ok (.iastore, 1) := dk_79 (by decide +kernel)
theorem dX12_input_27 : decode cX12_input 27 = .ok (.aload_n 0, 1) := dk_42 (by decide +kernel)
theorem dX12_input_28 : decode cX12_input 28 = .ok (.dup, 1) := dk_89 (by decide +kernel)
theorem dX12_input_29 : decode cX12_input 29 = .ok (.getfield 177, 3) := dk_180 (a := 0) (b := 177) (by decide +kernel) rfl
theorem dX12_input_32 : decode cX12_input 32 = .ok (.iconst 1, 1) := dk_4 (by decide +kernel)
theorem dX12_input_33 : decode cX12_input 33 = .ok (.iadd, 1) := dk_96 (by decide +kernel)
theorem dX12_input_34 : decode cX12_input 34 = .ok (.putfield 177, 3) := dk_181 (a := 0) (b := 177) (by decide +kernel) rfl
theorem dX12_input_37 : decode cX12_input 37 = .ok (.aload_n 0, 1) := dk_42 (by decide +kernel)
theorem dX12_input_38 : decode cX12_input 38 = .ok (.getfield 177, 3) := dk_180 (a := 0) (b := 177) (by decide +kernel) rfl
theorem dX12_input_41 : decode cX12_input 41 = .ok (.ireturn, 1) := dk_172 (by decide +kernel)
theorem dX12_turn_0 : decode cX12_turn 0 = .ok (.aload_n 0, 1) := dk_42 (by decide +kernel)
theorem dX12_turn_1 : decode cX12_turn 1 = .ok (.iconst 0, 1) := dk_3 (by decide +kernel)
theorem dX12_turn_2 : decode cX12_turn 2 = .ok (.putfield 164, 3) := dk_181 (a := 0) (b := 164) (by decide +kernel) rfl
theorem dX12_turn_5 : decode cX12_turn 5 = .ok (.iload_n 1, 1) := dk_27 (by decide +kernel)
theorem dX12_turn_6 : decode cX12_turn 6 = .ok (.i2l, 1) := dk_133 (by decide +kernel)
theorem dX12_turn_7 : decode cX12_turn 7 = .ok (.lconst 0, 1) := dk_9 (by decide +kernel)
theorem dX12_turn_8 : decode cX12_turn 8 = .ok (.ldc2_w 167, 3) := dk_20 (a := 0) (b := 167) (by decide +kernel) rfl
theorem dX12_turn_11 : decode cX12_turn 11 = .ok (.invokestatic 169, 3) := dk_184 (a := 0) (b := 169) (by decide +kernel) rfl
theorem dX12_turn_14 : decode cX12_turn 14 = .ok (.ifCond .eq 15, 3) := dk_153 (a := 0) (b := 15) (by decide +kernel) rfl
theorem dX12_turn_17 : decode cX12_turn 17 = .ok (.iload_n 2, 1) := dk_28 (by decide +kernel)
theorem dX12_turn_18 : decode cX12_turn 18 = .ok (.i2l, 1) := dk_133 (by decide +kernel)
theorem dX12_turn_19 : decode cX12_turn 19 = .ok (.lconst 1, 1) := dk_10 (by decide +kernel)
theorem dX12_turn_20 : decode cX12_turn 20 = .ok (.ldc2_w 180, 3) := dk_20 (a := 0) (b := 180) (by decide +kernel) rfl
theorem dX12_turn_23 : decode cX12_turn 23 = .ok (.invokestatic 169, 3) := dk_184 (a := 0) (b := 169) (by decide +kernel) rfl
theorem dX12_turn_26 : decode cX12_turn 26 = .ok (.ifCond .ne 5, 3) := dk_154 (a := 0) (b := 5) (by decide +kernel) rfl
theorem dX12_turn_29 : decode cX12_turn 29 = .ok (.iconst (-1), 1) := dk_2 (by decide +kernel)
theorem dX12_turn_30 : decode cX12_turn 30 = .ok (.ireturn, 1) := dk_172 (by decide +kernel)
theorem dX12_turn_31 : decode cX12_turn 31 = .ok (.aload_n 0, 1) := dk_42 (by decide +kernel)
theorem dX12_turn_32 : decode cX12_turn 32 = .ok (.getfield 182, 3) := dk_180 (a := 0) (b := 182) (by decide +kernel) rfl
theorem dX12_turn_35 : decode cX12_turn 35 = .ok (.bipush 40, 2) := dk_16 (a := 40) (by decide +kernel) rfl
theorem dX12_turn_37 : decode cX12_turn 37 = .ok (.if_icmp .ne 6, 3) := dk_160 (a := 0) (b := 6) (by decide +kernel) rfl
theorem dX12_turn_40 : decode cX12_turn 40 = .ok (.bipush (-2), 2) := dk_16 (a := 254) (by decide +kernel) rfl
theorem dX12_turn_42 : decode cX12_turn 42 = .ok (.ireturn, 1) := dk_172 (by decide +kernel)
theorem dX12_turn_43 : decode cX12_turn 43 = .ok (.aload_n 0, 1) := dk_42 (by decide +kernel)
theorem dX12_turn_44 : decode cX12_turn 44 = .ok (.getfield 31, 3) := dk_180 (a := 0) (b := 31) (by decide +kernel) rfl
theorem dX12_turn_47 : decode cX12_turn 47 = .ok (.aload_n 0, 1) := dk_42 (by decide +kernel)
theorem dX12_turn_48 : decode cX12_turn 48 = .ok (.getfield 182, 3) := dk_180 (a := 0) (b := 182) (by decide +kernel) rfl
theorem dX12_turn_51 : decode cX12_turn 51 = .ok (.iload_n 1, 1) := dk_27 (by decide +kernel)
theorem dX12_turn_52 : decode cX12_turn 52 = .ok (.iastore, 1) := dk_79 (by decide +kernel)
theorem dX12_turn_53 : decode cX12_turn 53 = .ok (.aload_n 0, 1) := dk_42 (by decide +kernel)
theorem dX12_turn_54 : decode cX12_turn 54 = .ok (.getfield 34, 3) := dk_180 (a := 0) (b := 34) (by decide +kernel) rfl
theorem dX12_turn_57 : decode cX12_turn 57 = .ok (.aload_n 0, 1) := dk_42 (by decide +kernel)
theorem dX12_turn_58 : decode cX12_turn 58 = .ok (.getfield 182, 3) := dk_180 (a := 0) (b := 182) (by decide +kernel) rfl
theorem dX12_turn_61 : decode cX12_turn 61 = .ok (.iload_n 2, 1) := dk_28 (by decide +kernel)
theorem dX12_turn_62 : decode cX12_turn 62 = .ok (.iastore, 1) := dk_79 (by decide +kernel)
theorem dX12_turn_63 : decode cX12_turn 63 = .ok (.aload_n 0, 1) := dk_42 (by decide +kernel)
theorem dX12_turn_64 : decode cX12_turn 64 = .ok (.dup, 1) := dk_89 (by decide +kernel)
theorem dX12_turn_65 : decode cX12_turn 65 = .ok (.getfield 182, 3) := dk_180 (a := 0) (b := 182) (by decide +kernel) rfl
theorem dX12_turn_68 : decode cX12_turn 68 = .ok (.iconst 1, 1) := dk_4 (by decide +kernel)
theorem dX12_turn_69 : decode cX12_turn 69 = .ok (.iadd, 1) := dk_96 (by decide +kernel)
theorem dX12_turn_70 : decode cX12_turn 70 = .ok (.putfield 182, 3) := dk_181 (a := 0) (b := 182) (by decide +kernel) rfl
theorem dX12_turn_73 : decode cX12_turn 73 = .ok (.aload_n 0, 1) := dk_42 (by decide +kernel)
theorem dX12_turn_74 : decode cX12_turn 74 = .ok (.getfield 182, 3) := dk_180 (a := 0) (b := 182) (by decide +kernel) rfl
theorem dX12_turn_77 : decode cX12_turn 77 = .ok (.ireturn, 1) := dk_172 (by decide +kernel)
theorem dX12_freely_0 : decode cX12_freely 0 = .ok (.aload_n 0, 1) := dk_42 (by decide +kernel)
theorem dX12_freely_1 : decode cX12_freely 1 = .ok (.iconst 0, 1) := dk_3 (by decide +kernel)
theorem dX12_freely_2 : decode cX12_freely 2 = .ok (.putfield 164, 3) := dk_181 (a := 0) (b := 164) (by decide +kernel) rfl
theorem dX12_freely_5 : decode cX12_freely 5 = .ok (.aload_n 0, 1) := dk_42 (by decide +kernel)
theorem dX12_freely_6 : decode cX12_freely 6 = .ok (.getfield 182, 3) := dk_180 (a := 0) (b := 182) (by decide +kernel) rfl
theorem dX12_freely_9 : decode cX12_freely 9 = .ok (.istore_n 1, 1) := dk_60 (by decide +kernel)
theorem dX12_freely_10 : decode cX12_freely 10 = .ok (.aload_n 0, 1) := dk_42 (by decide +kernel)
theorem dX12_freely_11 : decode cX12_freely 11 = .ok (.iconst 0, 1) := dk_3 (by decide +kernel)
theorem dX12_freely_12 : decode cX12_freely 12 = .ok (.putfield 182, 3) := dk_181 (a := 0) (b := 182) (by decide +kernel) rfl
theorem dX12_freely_15 : decode cX12_freely 15 = .ok (.iload_n 1, 1) := dk_27 (by decide +kernel)
theorem dX12_freely_16 : decode cX12_freely 16 = .ok (.ireturn, 1) := dk_172 (by decide +kernel)
theorem dX12_begin_0 : decode cX12_begin 0 = .ok (.iconst 0, 1) := dk_3 (by decide +kernel)
theorem dX12_begin_1 : decode cX12_begin 1 = .ok (.istore_n 1, 1) := dk_60 (by decide +kernel)
theorem dX12_begin_2 : decode cX12_begin 2 = .ok (.iload_n 1, 1) := dk_27 (by decide +kernel)
theorem dX12_begin_3 : decode cX12_begin 3 = .ok (.bipush 28, 2) := dk_16 (a := 28) (by decide +kernel) rfl
theorem dX12_begin_5 : decode cX12_begin 5 = .ok (.if_icmp .ge 38, 3) := dk_162 (a := 0) (b := 38) (by decide +kernel) rfl
theorem dX12_begin_8 : decode cX12_begin 8 = .ok (.aload_n 0, 1) := dk_42 (by decide +kernel)
theorem dX12_begin_9 : decode cX12_begin 9 = .ok (.getfield 37, 3) := dk_180 (a := 0) (b := 37) (by decide +kernel) rfl
theorem dX12_begin_12 : decode cX12_begin 12 = .ok (.iload_n 1, 1) := dk_27 (by decide +kernel)
theorem dX12_begin_13 : decode cX12_begin 13 = .ok (.iconst 0, 1) := dk_3 (by decide +kernel)
theorem dX12_begin_14 : decode cX12_begin 14 = .ok (.iastore, 1) := dk_79 (by decide +kernel)
theorem dX12_begin_15 : decode cX12_begin 15 = .ok (.aload_n 0, 1) := dk_42 (by decide +kernel)
theorem dX12_begin_16 : decode cX12_begin 16 = .ok (.getfield 40, 3) := dk_180 (a := 0) (b := 40) (by decide +kernel) rfl
theorem dX12_begin_19 : decode cX12_begin 19 = .ok (.iload_n 1, 1) := dk_27 (by decide +kernel)
theorem dX12_begin_20 : decode cX12_begin 20 = .ok (.iload_n 1, 1) := dk_27 (by decide +kernel)
theorem dX12_begin_21 : decode cX12_begin 21 = .ok (.bipush 12, 2) := dk_16 (a := 12) (by decide +kernel) rfl
theorem dX12_begin_23 : decode cX12_begin 23 = .ok (.if_icmp .ge 12, 3) := dk_162 (a := 0) (b := 12) (by decide +kernel) rfl
theorem dX12_begin_26 : decode cX12_begin 26 = .ok (.aload_n 0, 1) := dk_42 (by decide +kernel)
theorem dX12_begin_27 : decode cX12_begin 27 = .ok (.getfield 25, 3) := dk_180 (a := 0) (b := 25) (by decide +kernel) rfl
theorem dX12_begin_30 : decode cX12_begin 30 = .ok (.iload_n 1, 1) := dk_27 (by decide +kernel)
theorem dX12_begin_31 : decode cX12_begin 31 = .ok (.iaload, 1) := dk_46 (by decide +kernel)
theorem dX12_begin_32 : decode cX12_begin 32 = .ok (.goto 4, 3) := dk_167 (a := 0) (b := 4) (by decide +kernel) rfl
theorem dX12_begin_35 : decode cX12_begin 35 = .ok (.iconst 0, 1) := dk_3 (by decide +kernel)
theorem dX12_begin_36 : decode cX12_begin 36 = .ok (.iastore, 1) := dk_79 (by decide +kernel)
theorem dX12_begin_37 : decode cX12_begin 37 = .ok (.iinc 1 1, 3) := dk_132 (b := 1) (by decide +kernel) rfl
theorem dX12_begin_40 : decode cX12_begin 40 = .ok (.goto (-38), 3) := dk_167 (a := 255) (b := 218) (by decide +kernel) rfl
theorem dX12_begin_43 : decode cX12_begin 43 = .ok (.iconst 0, 1) := dk_3 (by decide +kernel)
theorem dX12_begin_44 : decode cX12_begin 44 = .ok (.istore_n 1, 1) := dk_60 (by decide +kernel)
theorem dX12_begin_45 : decode cX12_begin 45 = .ok (.iload_n 1, 1) := dk_27 (by decide +kernel)
theorem dX12_begin_46 : decode cX12_begin 46 = .ok (.iconst 4, 1) := dk_7 (by decide +kernel)
theorem dX12_begin_47 : decode cX12_begin 47 = .ok (.if_icmp .ge 59, 3) := dk_162 (a := 0) (b := 59) (by decide +kernel) rfl
theorem dX12_begin_50 : decode cX12_begin 50 = .ok (.aload_n 0, 1) := dk_42 (by decide +kernel)
theorem dX12_begin_51 : decode cX12_begin 51 = .ok (.getfield 43, 3) := dk_180 (a := 0) (b := 43) (by decide +kernel) rfl
theorem dX12_begin_54 : decode cX12_begin 54 = .ok (.iload_n 1, 1) := dk_27 (by decide +kernel)
theorem dX12_begin_55 : decode cX12_begin 55 = .ok (.aload_n 0, 1) := dk_42 (by decide +kernel)
theorem dX12_begin_56 : decode cX12_begin 56 = .ok (.getfield 7, 3) := dk_180 (a := 0) (b := 7) (by decide +kernel) rfl
theorem dX12_begin_59 : decode cX12_begin 59 = .ok (.iload_n 1, 1) := dk_27 (by decide +kernel)
theorem dX12_begin_60 : decode cX12_begin 60 = .ok (.iaload, 1) := dk_46 (by decide +kernel)
theorem dX12_begin_61 : decode cX12_begin 61 = .ok (.ifCond .le 7, 3) := dk_158 (a := 0) (b := 7) (by decide +kernel) rfl
theorem dX12_begin_64 : decode cX12_begin 64 = .ok (.iconst 0, 1) := dk_3 (by decide +kernel)
theorem dX12_begin_65 : decode cX12_begin 65 = .ok (.goto 5, 3) := dk_167 (a := 0) (b := 5) (by decide +kernel) rfl
theorem dX12_begin_68 : decode cX12_begin 68 = .ok (.bipush 24, 2) := dk_16 (a := 24) (by decide +kernel) rfl
theorem dX12_begin_70 : decode cX12_begin 70 = .ok (.iastore, 1) := dk_79 (by decide +kernel)
theorem dX12_begin_71 : decode cX12_begin 71 = .ok (.aload_n 0, 1) := dk_42 (by decide +kernel)
theorem dX12_begin_72 : decode cX12_begin 72 = .ok (.getfield 46, 3) := dk_180 (a := 0) (b := 46) (by decide +kernel) rfl
theorem dX12_begin_75 : decode cX12_begin 75 = .ok (.iload_n 1, 1) := dk_27 (by decide +kernel)
theorem dX12_begin_76 : decode cX12_begin 76 = .ok (.iload_n 1, 1) := dk_27 (by decide +kernel)
theorem dX12_begin_77 : decode cX12_begin 77 = .ok (.ifCond .ne 7, 3) := dk_154 (a := 0) (b := 7) (by decide +kernel) rfl
theorem dX12_begin_80 : decode cX12_begin 80 = .ok (.iconst 1, 1) := dk_4 (by decide +kernel)
theorem dX12_begin_81 : decode cX12_begin 81 = .ok (.goto 4, 3) := dk_167 (a := 0) (b := 4) (by decide +kernel) rfl
theorem dX12_begin_84 : decode cX12_begin 84 = .ok (.iconst 0, 1) := dk_3 (by decide +kernel)
theorem dX12_begin_85 : decode cX12_begin 85 = .ok (.bastore, 1) := dk_84 (by decide +kernel)
theorem dX12_begin_86 : decode cX12_begin 86 = .ok (.aload_n 0, 1) := dk_42 (by decide +kernel)
theorem dX12_begin_87 : decode cX12_begin 87 = .ok (.getfield 50, 3) := dk_180 (a := 0) (b := 50) (by decide +kernel) rfl
theorem dX12_begin_90 : decode cX12_begin 90 = .ok (.iload_n 1, 1) := dk_27 (by decide +kernel)
theorem dX12_begin_91 : decode cX12_begin 91 = .ok (.iconst (-1), 1) := dk_2 (by decide +kernel)
theorem dX12_begin_92 : decode cX12_begin 92 = .ok (.iastore, 1) := dk_79 (by decide +kernel)
theorem dX12_begin_93 : decode cX12_begin 93 = .ok (.aload_n 0, 1) := dk_42 (by decide +kernel)
theorem dX12_begin_94 : decode cX12_begin 94 = .ok (.getfield 53, 3) := dk_180 (a := 0) (b := 53) (by decide +kernel) rfl
theorem dX12_begin_97 : decode cX12_begin 97 = .ok (.iload_n 1, 1) := dk_27 (by decide +kernel)
theorem dX12_begin_98 : decode cX12_begin 98 = .ok (.iconst (-1), 1) := dk_2 (by decide +kernel)
theorem dX12_begin_99 : decode cX12_begin 99 = .ok (.iastore, 1) := dk_79 (by decide +kernel)
theorem dX12_begin_100 : decode cX12_begin 100 = .ok (.iinc 1 1, 3) := dk_132 (b := 1) (by decide +kernel) rfl
theorem dX12_begin_103 : decode cX12_begin 103 = .ok (.goto (-58), 3) := dk_167 (a := 255) (b := 198) (by decide +kernel) rfl
theorem dX12_begin_106 : decode cX12_begin 106 = .ok (.aload_n 0, 1) := dk_42 (by decide +kernel)
theorem dX12_begin_107 : decode cX12_begin 107 = .ok (.iconst 0, 1) := dk_3 (by decide +kernel)
theorem dX12_begin_108 : decode cX12_begin 108 = .ok (.putfield 185, 3) := dk_181 (a := 0) (b := 185) (by decide +kernel) rfl
theorem dX12_begin_111 : decode cX12_begin 111 = .ok (.aload_n 0, 1) := dk_42 (by decide +kernel)
theorem dX12_begin_112 : decode cX12_begin 112 = .ok (.iconst 0, 1) := dk_3 (by decide +kernel)
theorem dX12_begin_113 : decode cX12_begin 113 = .ok (.putfield 188, 3) := dk_181 (a := 0) (b := 188) (by decide +kernel) rfl
theorem dX12_begin_116 : decode cX12_begin 116 = .ok (.aload_n 0, 1) := dk_42 (by decide +kernel)
theorem dX12_begin_117 : decode cX12_begin 117 = .ok (.iconst 0, 1) := dk_3 (by decide +kernel)
theorem dX12_begin_118 : decode cX12_begin 118 = .ok (.putfield 191, 3) := dk_181 (a := 0) (b := 191) (by decide +kernel) rfl
theorem dX12_begin_121 : decode cX12_begin 121 = .ok (.aload_n 0, 1) := dk_42 (by decide +kernel)
theorem dX12_begin_122 : decode cX12_begin 122 = .ok (.iconst 0, 1) := dk_3 (by decide +kernel)
theorem dX12_begin_123 : decode cX12_begin 123 = .ok (.putfield 194, 3) := dk_181 (a := 0) (b := 194) (by decide +kernel) rfl
theorem dX12_begin_126 : decode cX12_begin 126 = .ok (.aload_n 0, 1) := dk_42 (by decide +kernel)
theorem dX12_begin_127 : decode cX12_begin 127 = .ok (.iconst 0, 1) := dk_3 (by decide +kernel)
theorem dX12_begin_128 : decode cX12_begin 128 = .ok (.putfield 197, 3) := dk_181 (a := 0) (b := 197) (by decide +kernel) rfl
theorem dX12_begin_131 : decode cX12_begin 131 = .ok (.aload_n 0, 1) := dk_42 (by decide +kernel)
theorem dX12_begin_132 : decode cX12_begin 132 = .ok (.iconst 0, 1) := dk_3 (by decide +kernel)
theorem dX12_begin_133 : decode cX12_begin 133 = .ok (.putfield 200, 3) := dk_181 (a := 0) (b := 200) (by decide +kernel) rfl
theorem dX12_begin_136 : decode cX12_begin 136 = .ok (.return_, 1) := dk_177 (by decide +kernel)
theorem dX12_local_0 : decode cX12_local 0 = .ok (.bipush 12, 2) := dk_16 (a := 12) (by decide +kernel) rfl
theorem dX12_local_2 : decode cX12_local 2 = .ok (.iconst 4, 1) := dk_7 (by decide +kernel)
theorem dX12_local_3 : decode cX12_local 3 = .ok (.iload_n 1, 1) := dk_27 (by decide +kernel)
theorem dX12_local_4 : decode cX12_local 4 = .ok (.imul, 1) := dk_104 (by decide +kernel)
theorem dX12_local_5 : decode cX12_local 5 = .ok (.iadd, 1) := dk_96 (by decide +kernel)
theorem dX12_local_6 : decode cX12_local 6 = .ok (.iload_n 2, 1) := dk_28 (by decide +kernel)
theorem dX12_local_7 : decode cX12_local 7 = .ok (.iconst 4, 1) := dk_7 (by decide +kernel)
theorem dX12_local_8 : decode cX12_local 8 = .ok (.invokestatic 204, 3) := dk_184 (a := 0) (b := 204) (by decide +kernel) rfl
theorem dX12_local_11 : decode cX12_local 11 = .ok (.iadd, 1) := dk_96 (by decide +kernel)
theorem dX12_local_12 : decode cX12_local 12 = .ok (.ireturn, 1) := dk_172 (by decide +kernel)
theorem dX12_isLock_0 : decode cX12_isLock 0 = .ok (.aload_n 0, 1) := dk_42 (by decide +kernel)
theorem dX12_isLock_1 : decode cX12_isLock 1 = .ok (.getfield 37, 3) := dk_180 (a := 0) (b := 37) (by decide +kernel) rfl
theorem dX12_isLock_4 : decode cX12_isLock 4 = .ok (.iload_n 1, 1) := dk_27 (by decide +kernel)
theorem dX12_isLock_5 : decode cX12_isLock 5 = .ok (.iaload, 1) := dk_46 (by decide +kernel)
theorem dX12_isLock_6 : decode cX12_isLock 6 = .ok (.iconst 2, 1) := dk_5 (by decide +kernel)
theorem dX12_isLock_7 : decode cX12_isLock 7 = .ok (.if_icmp .eq 13, 3) := dk_159 (a := 0) (b := 13) (by decide +kernel) rfl
theorem dX12_isLock_10 : decode cX12_isLock 10 = .ok (.aload_n 0, 1) := dk_42 (by decide +kernel)
theorem dX12_isLock_11 : decode cX12_isLock 11 = .ok (.getfield 37, 3) := dk_180 (a := 0) (b := 37) (by decide +kernel) rfl
theorem dX12_isLock_14 : decode cX12_isLock 14 = .ok (.iload_n 1, 1) := dk_27 (by decide +kernel)
theorem dX12_isLock_15 : decode cX12_isLock 15 = .ok (.iaload, 1) := dk_46 (by decide +kernel)
theorem dX12_isLock_16 : decode cX12_isLock 16 = .ok (.iconst 3, 1) := dk_6 (by decide +kernel)
theorem dX12_isLock_17 : decode cX12_isLock 17 = .ok (.if_icmp .ne 7, 3) := dk_160 (a := 0) (b := 7) (by decide +kernel) rfl
theorem dX12_isLock_20 : decode cX12_isLock 20 = .ok (.iconst 1, 1) := dk_4 (by decide +kernel)
theorem dX12_isLock_21 : decode cX12_isLock 21 = .ok (.goto 4, 3) := dk_167 (a := 0) (b := 4) (by decide +kernel) rfl
theorem dX12_isLock_24 : decode cX12_isLock 24 = .ok (.iconst 0, 1) := dk_3 (by decide +kernel)
theorem dX12_isLock_25 : decode cX12_isLock 25 = .ok (.ireturn, 1) := dk_172 (by decide +kernel)
theorem dX12_canGo_0 : decode cX12_canGo 0 = .ok (.aload_n 0, 1) := dk_42 (by decide +kernel)
theorem dX12_canGo_1 : decode cX12_canGo 1 = .ok (.getfield 46, 3) := dk_180 (a := 0) (b := 46) (by decide +kernel) rfl
theorem dX12_canGo_4 : decode cX12_canGo 4 = .ok (.iload_n 1, 1) := dk_27 (by decide +kernel)
theorem dX12_canGo_5 : decode cX12_canGo 5 = .ok (.baload, 1) := dk_51 (by decide +kernel)
theorem dX12_canGo_6 : decode cX12_canGo 6 = .ok (.ifCond .eq 23, 3) := dk_153 (a := 0) (b := 23) (by decide +kernel) rfl
theorem dX12_canGo_9 : decode cX12_canGo 9 = .ok (.aload_n 0, 1) := dk_42 (by decide +kernel)
theorem dX12_canGo_10 : decode cX12_canGo 10 = .ok (.getfield 43, 3) := dk_180 (a := 0) (b := 43) (by decide +kernel) rfl
theorem dX12_canGo_13 : decode cX12_canGo 13 = .ok (.iload_n 1, 1) := dk_27 (by decide +kernel)
theorem dX12_canGo_14 : decode cX12_canGo 14 = .ok (.iaload, 1) := dk_46 (by decide +kernel)
theorem dX12_canGo_15 : decode cX12_canGo 15 = .ok (.bipush 24, 2) := dk_16 (a := 24) (by decide +kernel) rfl
theorem dX12_canGo_17 : decode cX12_canGo 17 = .ok (.if_icmp .eq 12, 3) := dk_159 (a := 0) (b := 12) (by decide +kernel) rfl
theorem dX12_canGo_20 : decode cX12_canGo 20 = .ok (.aload_n 0, 1) := dk_42 (by decide +kernel)
theorem dX12_canGo_21 : decode cX12_canGo 21 = .ok (.getfield 50, 3) := dk_180 (a := 0) (b := 50) (by decide +kernel) rfl
theorem dX12_canGo_24 : decode cX12_canGo 24 = .ok (.iload_n 1, 1) := dk_27 (by decide +kernel)
theorem dX12_canGo_25 : decode cX12_canGo 25 = .ok (.iaload, 1) := dk_46 (by decide +kernel)
theorem dX12_canGo_26 : decode cX12_canGo 26 = .ok (.ifCond .lt 5, 3) := dk_155 (a := 0) (b := 5) (by decide +kernel) rfl
theorem dX12_canGo_29 : decode cX12_canGo 29 = .ok (.iconst 0, 1) := dk_3 (by decide +kernel)
theorem dX12_canGo_30 : decode cX12_canGo 30 = .ok (.ireturn, 1) := dk_172 (by decide +kernel)
theorem dX12_canGo_31 : decode cX12_canGo 31 = .ok (.aload_n 0, 1) := dk_42 (by decide +kernel)
theorem dX12_canGo_32 : decode cX12_canGo 32 = .ok (.getfield 53, 3) := dk_180 (a := 0) (b := 53) (by decide +kernel) rfl
theorem dX12_canGo_35 : decode cX12_canGo 35 = .ok (.iload_n 1, 1) := dk_27 (by decide +kernel)
theorem dX12_canGo_36 : decode cX12_canGo 36 = .ok (.iaload, 1) := dk_46 (by decide +kernel)
theorem dX12_canGo_37 : decode cX12_canGo 37 = .ok (.ifCond .lt 23, 3) := dk_155 (a := 0) (b := 23) (by decide +kernel) rfl
theorem dX12_canGo_40 : decode cX12_canGo 40 = .ok (.aload_n 0, 1) := dk_42 (by decide +kernel)
theorem dX12_canGo_41 : decode cX12_canGo 41 = .ok (.getfield 59, 3) := dk_180 (a := 0) (b := 59) (by decide +kernel) rfl
theorem dX12_canGo_44 : decode cX12_canGo 44 = .ok (.aload_n 0, 1) := dk_42 (by decide +kernel)
theorem dX12_canGo_45 : decode cX12_canGo 45 = .ok (.getfield 53, 3) := dk_180 (a := 0) (b := 53) (by decide +kernel) rfl
theorem dX12_canGo_48 : decode cX12_canGo 48 = .ok (.iload_n 1, 1) := dk_27 (by decide +kernel)
theorem dX12_canGo_49 : decode cX12_canGo 49 = .ok (.iaload, 1) := dk_46 (by decide +kernel)
theorem dX12_canGo_50 : decode cX12_canGo 50 = .ok (.iaload, 1) := dk_46 (by decide +kernel)
theorem dX12_canGo_51 : decode cX12_canGo 51 = .ok (.ifCond .ge 7, 3) := dk_156 (a := 0) (b := 7) (by decide +kernel) rfl
theorem dX12_canGo_54 : decode cX12_canGo 54 = .ok (.iconst 1, 1) := dk_4 (by decide +kernel)
theorem dX12_canGo_55 : decode cX12_canGo 55 = .ok (.goto 4, 3) := dk_167 (a := 0) (b := 4) (by decide +kernel) rfl
theorem dX12_canGo_58 : decode cX12_canGo 58 = .ok (.iconst 0, 1) := dk_3 (by decide +kernel)
theorem dX12_canGo_59 : decode cX12_canGo 59 = .ok (.ireturn, 1) := dk_172 (by decide +kernel)
theorem dX12_canGo_60 : decode cX12_canGo 60 = .ok (.bipush 24, 2) := dk_16 (a := 24) (by decide +kernel) rfl
theorem dX12_canGo_62 : decode cX12_canGo 62 = .ok (.iload_n 1, 1) := dk_27 (by decide +kernel)
theorem dX12_canGo_63 : decode cX12_canGo 63 = .ok (.imul, 1) := dk_104 (by decide +kernel)
theorem dX12_canGo_64 : decode cX12_canGo 64 = .ok (.aload_n 0, 1) := dk_42 (by decide +kernel)
theorem dX12_canGo_65 : decode cX12_canGo 65 = .ok (.getfield 43, 3) := dk_180 (a := 0) (b := 43) (by decide +kernel) rfl
theorem dX12_canGo_68 : decode cX12_canGo 68 = .ok (.iload_n 1, 1) := dk_27 (by decide +kernel)
theorem dX12_canGo_69 : decode cX12_canGo 69 = .ok (.iaload, 1) := dk_46 (by decide +kernel)
theorem dX12_canGo_70 : decode cX12_canGo 70 = .ok (.iadd, 1) := dk_96 (by decide +kernel)
theorem dX12_canGo_71 : decode cX12_canGo 71 = .ok (.istore_n 2, 1) := dk_61 (by decide +kernel)
theorem dX12_canGo_72 : decode cX12_canGo 72 = .ok (.aload_n 0, 1) := dk_42 (by decide +kernel)
theorem dX12_canGo_73 : decode cX12_canGo 73 = .ok (.iload_n 1, 1) := dk_27 (by decide +kernel)
theorem dX12_canGo_74 : decode cX12_canGo 74 = .ok (.aload_n 0, 1) := dk_42 (by decide +kernel)
theorem dX12_canGo_75 : decode cX12_canGo 75 = .ok (.getfield 16, 3) := dk_180 (a := 0) (b := 16) (by decide +kernel) rfl
theorem dX12_canGo_78 : decode cX12_canGo 78 = .ok (.iload_n 2, 1) := dk_28 (by decide +kernel)
theorem dX12_canGo_79 : decode cX12_canGo 79 = .ok (.iaload, 1) := dk_46 (by decide +kernel)
theorem dX12_canGo_80 : decode cX12_canGo 80 = .ok (.invokevirtual 208, 3) := dk_182 (a := 0) (b := 208) (by decide +kernel) rfl
theorem dX12_canGo_83 : decode cX12_canGo 83 = .ok (.istore_n 3, 1) := dk_62 (by decide +kernel)
theorem dX12_canGo_84 : decode cX12_canGo 84 = .ok (.aload_n 0, 1) := dk_42 (by decide +kernel)
theorem dX12_canGo_85 : decode cX12_canGo 85 = .ok (.getfield 13, 3) := dk_180 (a := 0) (b := 13) (by decide +kernel) rfl
theorem dX12_canGo_88 : decode cX12_canGo 88 = .ok (.iload_n 2, 1) := dk_28 (by decide +kernel)
theorem dX12_canGo_89 : decode cX12_canGo 89 = .ok (.iaload, 1) := dk_46 (by decide +kernel)
theorem dX12_canGo_90 : decode cX12_canGo 90 = .ok (.bipush 12, 2) := dk_16 (a := 12) (by decide +kernel) rfl
theorem dX12_canGo_92 : decode cX12_canGo 92 = .ok (.if_icmp .ne 15, 3) := dk_160 (a := 0) (b := 15) (by decide +kernel) rfl
theorem dX12_canGo_95 : decode cX12_canGo 95 = .ok (.aload_n 0, 1) := dk_42 (by decide +kernel)
theorem dX12_canGo_96 : decode cX12_canGo 96 = .ok (.iload_n 3, 1) := dk_29 (by decide +kernel)
theorem dX12_canGo_97 : decode cX12_canGo 97 = .ok (.invokevirtual 211, 3) := dk_182 (a := 0) (b := 211) (by decide +kernel) rfl
theorem dX12_canGo_100 : decode cX12_canGo 100 = .ok (.ifCond .eq 7, 3) := dk_153 (a := 0) (b := 7) (by decide +kernel) rfl
theorem dX12_canGo_103 : decode cX12_canGo 103 = .ok (.iconst 1, 1) := dk_4 (by decide +kernel)
theorem dX12_canGo_104 : decode cX12_canGo 104 = .ok (.goto 4, 3) := dk_167 (a := 0) (b := 4) (by decide +kernel) rfl
theorem dX12_canGo_107 : decode cX12_canGo 107 = .ok (.iconst 0, 1) := dk_3 (by decide +kernel)
theorem dX12_canGo_108 : decode cX12_canGo 108 = .ok (.istore 4, 2) := dk_54 (by decide +kernel)
theorem dX12_canGo_110 : decode cX12_canGo 110 = .ok (.iload 4, 2) := dk_21 (by decide +kernel)
theorem dX12_canGo_112 : decode cX12_canGo 112 = .ok (.ifCond .eq 32, 3) := dk_153 (a := 0) (b := 32) (by decide +kernel) rfl
theorem dX12_canGo_115 : decode cX12_canGo 115 = .ok (.aload_n 0, 1) := dk_42 (by decide +kernel)
theorem dX12_canGo_116 : decode cX12_canGo 116 = .ok (.getfield 59, 3) := dk_180 (a := 0) (b := 59) (by decide +kernel) rfl
theorem dX12_canGo_119 : decode cX12_canGo 119 = .ok (.aload_n 0, 1) := dk_42 (by decide +kernel)
theorem dX12_canGo_120 : decode cX12_canGo 120 = .ok (.getfield 40, 3) := dk_180 (a := 0) (b := 40) (by decide +kernel) rfl
theorem dX12_canGo_123 : decode cX12_canGo 123 = .ok (.iload_n 3, 1) := dk_29 (by decide +kernel)
theorem dX12_canGo_124 : decode cX12_canGo 124 = .ok (.iaload, 1) := dk_46 (by decide +kernel)
theorem dX12_canGo_125 : decode cX12_canGo 125 = .ok (.iaload, 1) := dk_46 (by decide +kernel)
theorem dX12_canGo_126 : decode cX12_canGo 126 = .ok (.ifCond .lt 18, 3) := dk_155 (a := 0) (b := 18) (by decide +kernel) rfl
theorem dX12_canGo_129 : decode cX12_canGo 129 = .ok (.aload_n 0, 1) := dk_42 (by decide +kernel)
theorem dX12_canGo_130 : decode cX12_canGo 130 = .ok (.getfield 59, 3) := dk_180 (a := 0) (b := 59) (by decide +kernel) rfl
theorem dX12_canGo_133 : decode cX12_canGo 133 = .ok (.aload_n 0, 1) := dk_42 (by decide +kernel)
theorem dX12_canGo_134 : decode cX12_canGo 134 = .ok (.getfield 40, 3) := dk_180 (a := 0) (b := 40) (by decide +kernel) rfl
theorem dX12_canGo_137 : decode cX12_canGo 137 = .ok (.iload_n 3, 1) := dk_29 (by decide +kernel)
theorem dX12_canGo_138 : decode cX12_canGo 138 = .ok (.iaload, 1) := dk_46 (by decide +kernel)
theorem dX12_canGo_139 : decode cX12_canGo 139 = .ok (.iaload, 1) := dk_46 (by decide +kernel)
theorem dX12_canGo_140 : decode cX12_canGo 140 = .ok (.iload_n 1, 1) := dk_27 (by decide +kernel)
theorem dX12_canGo_141 : decode cX12_canGo 141 = .ok (.if_icmp .ne 7, 3) := dk_160 (a := 0) (b := 7) (by decide +kernel) rfl
theorem dX12_canGo_144 : decode cX12_canGo 144 = .ok (.iconst 1, 1) := dk_4 (by decide +kernel)
theorem dX12_canGo_145 : decode cX12_canGo 145 = .ok (.goto 4, 3) := dk_167 (a := 0) (b := 4) (by decide +kernel) rfl
theorem dX12_canGo_148 : decode cX12_canGo 148 = .ok (.iconst 0, 1) := dk_3 (by decide +kernel)
theorem dX12_canGo_149 : decode cX12_canGo 149 = .ok (.ireturn, 1) := dk_172 (by decide +kernel)
theorem dX12_state_0 : decode cX12_state 0 = .ok (.aload_n 0, 1) := dk_42 (by decide +kernel)
theorem dX12_state_1 : decode cX12_state 1 = .ok (.getfield 46, 3) := dk_180 (a := 0) (b := 46) (by decide +kernel) rfl
theorem dX12_state_4 : decode cX12_state 4 = .ok (.iload_n 1, 1) := dk_27 (by decide +kernel)
theorem dX12_state_5 : decode cX12_state 5 = .ok (.baload, 1) := dk_51 (by decide +kernel)
theorem dX12_state_6 : decode cX12_state 6 = .ok (.ifCond .ne 7, 3) := dk_154 (a := 0) (b := 7) (by decide +kernel) rfl
theorem dX12_state_9 : decode cX12_state 9 = .ok (.iconst 0, 1) := dk_3 (by decide +kernel)
theorem dX12_state_10 : decode cX12_state 10 = .ok (.goto 44, 3) := dk_167 (a := 0) (b := 44) (by decide +kernel) rfl
theorem dX12_state_13 : decode cX12_state 13 = .ok (.aload_n 0, 1) := dk_42 (by decide +kernel)
theorem dX12_state_14 : decode cX12_state 14 = .ok (.getfield 43, 3) := dk_180 (a := 0) (b := 43) (by decide +kernel) rfl
theorem dX12_state_17 : decode cX12_state 17 = .ok (.iload_n 1, 1) := dk_27 (by decide +kernel)
theorem dX12_state_18 : decode cX12_state 18 = .ok (.iaload, 1) := dk_46 (by decide +kernel)
theorem dX12_state_19 : decode cX12_state 19 = .ok (.bipush 24, 2) := dk_16 (a := 24) (by decide +kernel) rfl
theorem dX12_state_21 : decode cX12_state 21 = .ok (.if_icmp .ne 7, 3) := dk_160 (a := 0) (b := 7) (by decide +kernel) rfl
theorem dX12_state_24 : decode cX12_state 24 = .ok (.iconst 4, 1) := dk_7 (by decide +kernel)
theorem dX12_state_25 : decode cX12_state 25 = .ok (.goto 29, 3) := dk_167 (a := 0) (b := 29) (by decide +kernel) rfl
theorem dX12_state_28 : decode cX12_state 28 = .ok (.aload_n 0, 1) := dk_42 (by decide +kernel)
theorem dX12_state_29 : decode cX12_state 29 = .ok (.getfield 50, 3) := dk_180 (a := 0) (b := 50) (by decide +kernel) rfl
theorem dX12_state_32 : decode cX12_state 32 = .ok (.iload_n 1, 1) := dk_27 (by decide +kernel)
theorem dX12_state_33 : decode cX12_state 33 = .ok (.iaload, 1) := dk_46 (by decide +kernel)
theorem dX12_state_34 : decode cX12_state 34 = .ok (.ifCond .lt 7, 3) := dk_155 (a := 0) (b := 7) (by decide +kernel) rfl
theorem dX12_state_37 : decode cX12_state 37 = .ok (.iconst 3, 1) := dk_6 (by decide +kernel)
theorem dX12_state_38 : decode cX12_state 38 = .ok (.goto 16, 3) := dk_167 (a := 0) (b := 16) (by decide +kernel) rfl
theorem dX12_state_41 : decode cX12_state 41 = .ok (.aload_n 0, 1) := dk_42 (by decide +kernel)
theorem dX12_state_42 : decode cX12_state 42 = .ok (.iload_n 1, 1) := dk_27 (by decide +kernel)
theorem dX12_state_43 : decode cX12_state 43 = .ok (.invokevirtual 215, 3) := dk_182 (a := 0) (b := 215) (by decide +kernel) rfl
theorem dX12_state_46 : decode cX12_state 46 = .ok (.ifCond .eq 7, 3) := dk_153 (a := 0) (b := 7) (by decide +kernel) rfl
theorem dX12_state_49 : decode cX12_state 49 = .ok (.iconst 1, 1) := dk_4 (by decide +kernel)
theorem dX12_state_50 : decode cX12_state 50 = .ok (.goto 4, 3) := dk_167 (a := 0) (b := 4) (by decide +kernel) rfl
theorem dX12_state_53 : decode cX12_state 53 = .ok (.iconst 2, 1) := dk_5 (by decide +kernel)
theorem dX12_state_54 : decode cX12_state 54 = .ok (.ireturn, 1) := dk_172 (by decide +kernel)
theorem dX12_goTo_0 : decode cX12_goTo 0 = .ok (.aload_n 0, 1) := dk_42 (by decide +kernel)
theorem dX12_goTo_1 : decode cX12_goTo 1 = .ok (.getfield 43, 3) := dk_180 (a := 0) (b := 43) (by decide +kernel) rfl
theorem dX12_goTo_4 : decode cX12_goTo 4 = .ok (.iload_n 1, 1) := dk_27 (by decide +kernel)
theorem dX12_goTo_5 : decode cX12_goTo 5 = .ok (.iload_n 2, 1) := dk_28 (by decide +kernel)
theorem dX12_goTo_6 : decode cX12_goTo 6 = .ok (.ifCond .lt 13, 3) := dk_155 (a := 0) (b := 13) (by decide +kernel) rfl
theorem dX12_goTo_9 : decode cX12_goTo 9 = .ok (.iload_n 2, 1) := dk_28 (by decide +kernel)
theorem dX12_goTo_10 : decode cX12_goTo 10 = .ok (.aload_n 0, 1) := dk_42 (by decide +kernel)
theorem dX12_goTo_11 : decode cX12_goTo 11 = .ok (.getfield 7, 3) := dk_180 (a := 0) (b := 7) (by decide +kernel) rfl
theorem dX12_goTo_14 : decode cX12_goTo 14 = .ok (.iload_n 1, 1) := dk_27 (by decide +kernel)
theorem dX12_goTo_15 : decode cX12_goTo 15 = .ok (.iaload, 1) := dk_46 (by decide +kernel)
theorem dX12_goTo_16 : decode cX12_goTo 16 = .ok (.if_icmp .lt 8, 3) := dk_161 (a := 0) (b := 8) (by decide +kernel) rfl
theorem dX12_goTo_19 : decode cX12_goTo 19 = .ok (.bipush 24, 2) := dk_16 (a := 24) (by decide +kernel) rfl
theorem dX12_goTo_21 : decode cX12_goTo 21 = .ok (.goto 4, 3) := dk_167 (a := 0) (b := 4) (by decide +kernel) rfl
theorem dX12_goTo_24 : decode cX12_goTo 24 = .ok (.iload_n 2, 1) := dk_28 (by decide +kernel)
theorem dX12_goTo_25 : decode cX12_goTo 25 = .ok (.iastore, 1) := dk_79 (by decide +kernel)
theorem dX12_goTo_26 : decode cX12_goTo 26 = .ok (.return_, 1) := dk_177 (by decide +kernel)
theorem dX12_set_0 : decode cX12_set 0 = .ok (.aload_n 0, 1) := dk_42 (by decide +kernel)
theorem dX12_set_1 : decode cX12_set 1 = .ok (.getfield 37, 3) := dk_180 (a := 0) (b := 37) (by decide +kernel) rfl
theorem dX12_set_4 : decode cX12_set 4 = .ok (.iload_n 1, 1) := dk_27 (by decide +kernel)
theorem dX12_set_5 : decode cX12_set 5 = .ok (.iload_n 2, 1) := dk_28 (by decide +kernel)
theorem dX12_set_6 : decode cX12_set 6 = .ok (.iastore, 1) := dk_79 (by decide +kernel)
theorem dX12_set_7 : decode cX12_set 7 = .ok (.aload_n 0, 1) := dk_42 (by decide +kernel)
theorem dX12_set_8 : decode cX12_set 8 = .ok (.getfield 40, 3) := dk_180 (a := 0) (b := 40) (by decide +kernel) rfl
theorem dX12_set_11 : decode cX12_set 11 = .ok (.iload_n 1, 1) := dk_27 (by decide +kernel)
theorem dX12_set_12 : decode cX12_set 12 = .ok (.iload_n 3, 1) := dk_29 (by decide +kernel)
theorem dX12_set_13 : decode cX12_set 13 = .ok (.iastore, 1) := dk_79 (by decide +kernel)
theorem dX12_set_14 : decode cX12_set 14 = .ok (.return_, 1) := dk_177 (by decide +kernel)
theorem dX12_newThing_0 : decode cX12_newThing 0 = .ok (.aload_n 0, 1) := dk_42 (by decide +kernel)
theorem dX12_newThing_1 : decode cX12_newThing 1 = .ok (.getfield 185, 3) := dk_180 (a := 0) (b := 185) (by decide +kernel) rfl
theorem dX12_newThing_4 : decode cX12_newThing 4 = .ok (.istore_n 3, 1) := dk_62 (by decide +kernel)
theorem dX12_newThing_5 : decode cX12_newThing 5 = .ok (.aload_n 0, 1) := dk_42 (by decide +kernel)
theorem dX12_newThing_6 : decode cX12_newThing 6 = .ok (.getfield 56, 3) := dk_180 (a := 0) (b := 56) (by decide +kernel) rfl
theorem dX12_newThing_9 : decode cX12_newThing 9 = .ok (.iload_n 3, 1) := dk_29 (by decide +kernel)
theorem dX12_newThing_10 : decode cX12_newThing 10 = .ok (.iload_n 1, 1) := dk_27 (by decide +kernel)
theorem dX12_newThing_11 : decode cX12_newThing 11 = .ok (.iastore, 1) := dk_79 (by decide +kernel)
theorem dX12_newThing_12 : decode cX12_newThing 12 = .ok (.aload_n 0, 1) := dk_42 (by decide +kernel)
theorem dX12_newThing_13 : decode cX12_newThing 13 = .ok (.getfield 59, 3) := dk_180 (a := 0) (b := 59) (by decide +kernel) rfl
theorem dX12_newThing_16 : decode cX12_newThing 16 = .ok (.iload_n 3, 1) := dk_29 (by decide +kernel)
theorem dX12_newThing_17 : decode cX12_newThing 17 = .ok (.iconst (-1), 1) := dk_2 (by decide +kernel)
theorem dX12_newThing_18 : decode cX12_newThing 18 = .ok (.iastore, 1) := dk_79 (by decide +kernel)
theorem dX12_newThing_19 : decode cX12_newThing 19 = .ok (.aload_n 0, 1) := dk_42 (by decide +kernel)
theorem dX12_newThing_20 : decode cX12_newThing 20 = .ok (.getfield 62, 3) := dk_180 (a := 0) (b := 62) (by decide +kernel) rfl
theorem dX12_newThing_23 : decode cX12_newThing 23 = .ok (.iload_n 3, 1) := dk_29 (by decide +kernel)
theorem dX12_newThing_24 : decode cX12_newThing 24 = .ok (.iload_n 2, 1) := dk_28 (by decide +kernel)
theorem dX12_newThing_25 : decode cX12_newThing 25 = .ok (.iastore, 1) := dk_79 (by decide +kernel)
theorem dX12_newThing_26 : decode cX12_newThing 26 = .ok (.iconst 0, 1) := dk_3 (by decide +kernel)
theorem dX12_newThing_27 : decode cX12_newThing 27 = .ok (.istore 4, 2) := dk_54 (by decide +kernel)
theorem dX12_newThing_29 : decode cX12_newThing 29 = .ok (.iload 4, 2) := dk_21 (by decide +kernel)
theorem dX12_newThing_31 : decode cX12_newThing 31 = .ok (.bipush 16, 2) := dk_16 (a := 16) (by decide +kernel) rfl
theorem dX12_newThing_33 : decode cX12_newThing 33 = .ok (.if_icmp .ge 22, 3) := dk_162 (a := 0) (b := 22) (by decide +kernel) rfl
theorem dX12_newThing_36 : decode cX12_newThing 36 = .ok (.aload_n 0, 1) := dk_42 (by decide +kernel)
theorem dX12_newThing_37 : decode cX12_newThing 37 = .ok (.getfield 65, 3) := dk_180 (a := 0) (b := 65) (by decide +kernel) rfl
theorem dX12_newThing_40 : decode cX12_newThing 40 = .ok (.bipush 16, 2) := dk_16 (a := 16) (by decide +kernel) rfl
theorem dX12_newThing_42 : decode cX12_newThing 42 = .ok (.iload_n 3, 1) := dk_29 (by decide +kernel)
theorem dX12_newThing_43 : decode cX12_newThing 43 = .ok (.imul, 1) := dk_104 (by decide +kernel)
theorem dX12_newThing_44 : decode cX12_newThing 44 = .ok (.iload 4, 2) := dk_21 (by decide +kernel)
theorem dX12_newThing_46 : decode cX12_newThing 46 = .ok (.iadd, 1) := dk_96 (by decide +kernel)
theorem dX12_newThing_47 : decode cX12_newThing 47 = .ok (.iconst 0, 1) := dk_3 (by decide +kernel)
theorem dX12_newThing_48 : decode cX12_newThing 48 = .ok (.iastore, 1) := dk_79 (by decide +kernel)
theorem dX12_newThing_49 : decode cX12_newThing 49 = .ok (.iinc 4 1, 3) := dk_132 (b := 1) (by decide +kernel) rfl
theorem dX12_newThing_52 : decode cX12_newThing 52 = .ok (.goto (-23), 3) := dk_167 (a := 255) (b := 233) (by decide +kernel) rfl
theorem dX12_newThing_55 : decode cX12_newThing 55 = .ok (.aload_n 0, 1) := dk_42 (by decide +kernel)
theorem dX12_newThing_56 : decode cX12_newThing 56 = .ok (.dup, 1) := dk_89 (by decide +kernel)
theorem dX12_newThing_57 : decode cX12_newThing 57 = .ok (.getfield 185, 3) := dk_180 (a := 0) (b := 185) (by decide +kernel) rfl
theorem dX12_newThing_60 : decode cX12_newThing 60 = .ok (.iconst 1, 1) := dk_4 (by decide +kernel)
theorem dX12_newThing_61 : decode cX12_newThing 61 = .ok (.iadd, 1) := dk_96 (by decide +kernel)
theorem dX12_newThing_62 : decode cX12_newThing 62 = .ok (.putfield 185, 3) := dk_181 (a := 0) (b := 185) (by decide +kernel) rfl
theorem dX12_newThing_65 : decode cX12_newThing 65 = .ok (.iload_n 3, 1) := dk_29 (by decide +kernel)
theorem dX12_newThing_66 : decode cX12_newThing 66 = .ok (.ireturn, 1) := dk_172 (by decide +kernel)
theorem dX12_why_0 : decode cX12_why 0 = .ok (.iload_n 2, 1) := dk_28 (by decide +kernel)
theorem dX12_why_1 : decode cX12_why 1 = .ok (.tableswitch 460 3 18 #[79, 79, 79, 460, 104, 119, 174, 235, 304, 319, 352, 386, 386, 422, 447, 449], 79) := by decide +kernel
theorem dX12_why_80 : decode cX12_why 80 = .ok (.aload_n 0, 1) := dk_42 (by decide +kernel)
theorem dX12_why_81 : decode cX12_why 81 = .ok (.getfield 37, 3) := dk_180 (a := 0) (b := 37) (by decide +kernel) rfl
theorem dX12_why_84 : decode cX12_why 84 = .ok (.iload_n 3, 1) := dk_29 (by decide +kernel)
theorem dX12_why_85 : decode cX12_why 85 = .ok (.iaload, 1) := dk_46 (by decide +kernel)
theorem dX12_why_86 : decode cX12_why 86 = .ok (.ifCond .ne 13, 3) := dk_154 (a := 0) (b := 13) (by decide +kernel) rfl
theorem dX12_why_89 : decode cX12_why 89 = .ok (.aload_n 0, 1) := dk_42 (by decide +kernel)
theorem dX12_why_90 : decode cX12_why 90 = .ok (.getfield 37, 3) := dk_180 (a := 0) (b := 37) (by decide +kernel) rfl
theorem dX12_why_93 : decode cX12_why 93 = .ok (.iload 4, 2) := dk_21 (by decide +kernel)
theorem dX12_why_95 : decode cX12_why 95 = .ok (.iaload, 1) := dk_46 (by decide +kernel)
theorem dX12_why_96 : decode cX12_why 96 = .ok (.ifCond .eq 7, 3) := dk_153 (a := 0) (b := 7) (by decide +kernel) rfl
theorem dX12_why_99 : decode cX12_why 99 = .ok (.iconst 1, 1) := dk_4 (by decide +kernel)
theorem dX12_why_100 : decode cX12_why 100 = .ok (.goto 4, 3) := dk_167 (a := 0) (b := 4) (by decide +kernel) rfl
theorem dX12_why_103 : decode cX12_why 103 = .ok (.iconst 0, 1) := dk_3 (by decide +kernel)
theorem dX12_why_104 : decode cX12_why 104 = .ok (.ireturn, 1) := dk_172 (by decide +kernel)
theorem dX12_why_105 : decode cX12_why 105 = .ok (.aload_n 0, 1) := dk_42 (by decide +kernel)
theorem dX12_why_106 : decode cX12_why 106 = .ok (.getfield 37, 3) := dk_180 (a := 0) (b := 37) (by decide +kernel) rfl
theorem dX12_why_109 : decode cX12_why 109 = .ok (.iload_n 3, 1) := dk_29 (by decide +kernel)
theorem dX12_why_110 : decode cX12_why 110 = .ok (.iaload, 1) := dk_46 (by decide +kernel)
theorem dX12_why_111 : decode cX12_why 111 = .ok (.ifCond .eq 7, 3) := dk_153 (a := 0) (b := 7) (by decide +kernel) rfl
theorem dX12_why_114 : decode cX12_why 114 = .ok (.iconst 1, 1) := dk_4 (by decide +kernel)
theorem dX12_why_115 : decode cX12_why 115 = .ok (.goto 4, 3) := dk_167 (a := 0) (b := 4) (by decide +kernel) rfl
theorem dX12_why_118 : decode cX12_why 118 = .ok (.iconst 0, 1) := dk_3 (by decide +kernel)
theorem dX12_why_119 : decode cX12_why 119 = .ok (.ireturn, 1) := dk_172 (by decide +kernel)
theorem dX12_why_120 : decode cX12_why 120 = .ok (.aload_n 0, 1) := dk_42 (by decide +kernel)
theorem dX12_why_121 : decode cX12_why 121 = .ok (.getfield 37, 3) := dk_180 (a := 0) (b := 37) (by decide +kernel) rfl
theorem dX12_why_124 : decode cX12_why 124 = .ok (.iload 4, 2) := dk_21 (by decide +kernel)
theorem dX12_why_126 : decode cX12_why 126 = .ok (.iaload, 1) := dk_46 (by decide +kernel)
theorem dX12_why_127 : decode cX12_why 127 = .ok (.ifCond .eq 7, 3) := dk_153 (a := 0) (b := 7) (by decide +kernel) rfl
theorem dX12_why_130 : decode cX12_why 130 = .ok (.iconst 1, 1) := dk_4 (by decide +kernel)
theorem dX12_why_131 : decode cX12_why 131 = .ok (.goto 43, 3) := dk_167 (a := 0) (b := 43) (by decide +kernel) rfl
theorem dX12_why_134 : decode cX12_why 134 = .ok (.aload_n 0, 1) := dk_42 (by decide +kernel)
theorem dX12_why_135 : decode cX12_why 135 = .ok (.getfield 40, 3) := dk_180 (a := 0) (b := 40) (by decide +kernel) rfl
theorem dX12_why_138 : decode cX12_why 138 = .ok (.iload 4, 2) := dk_21 (by decide +kernel)
theorem dX12_why_140 : decode cX12_why 140 = .ok (.iaload, 1) := dk_46 (by decide +kernel)
theorem dX12_why_141 : decode cX12_why 141 = .ok (.ifCond .ge 7, 3) := dk_156 (a := 0) (b := 7) (by decide +kernel) rfl
theorem dX12_why_144 : decode cX12_why 144 = .ok (.iconst 2, 1) := dk_5 (by decide +kernel)
theorem dX12_why_145 : decode cX12_why 145 = .ok (.goto 29, 3) := dk_167 (a := 0) (b := 29) (by decide +kernel) rfl
theorem dX12_why_148 : decode cX12_why 148 = .ok (.aload_n 0, 1) := dk_42 (by decide +kernel)
theorem dX12_why_149 : decode cX12_why 149 = .ok (.getfield 40, 3) := dk_180 (a := 0) (b := 40) (by decide +kernel) rfl
theorem dX12_why_152 : decode cX12_why 152 = .ok (.iload 4, 2) := dk_21 (by decide +kernel)
theorem dX12_why_154 : decode cX12_why 154 = .ok (.iaload, 1) := dk_46 (by decide +kernel)
theorem dX12_why_155 : decode cX12_why 155 = .ok (.bipush 16, 2) := dk_16 (a := 16) (by decide +kernel) rfl
theorem dX12_why_157 : decode cX12_why 157 = .ok (.if_icmp .gt 12, 3) := dk_163 (a := 0) (b := 12) (by decide +kernel) rfl
theorem dX12_why_160 : decode cX12_why 160 = .ok (.aload_n 0, 1) := dk_42 (by decide +kernel)
theorem dX12_why_161 : decode cX12_why 161 = .ok (.getfield 185, 3) := dk_180 (a := 0) (b := 185) (by decide +kernel) rfl
theorem dX12_why_164 : decode cX12_why 164 = .ok (.bipush 12, 2) := dk_16 (a := 12) (by decide +kernel) rfl
theorem dX12_why_166 : decode cX12_why 166 = .ok (.if_icmp .ne 7, 3) := dk_160 (a := 0) (b := 7) (by decide +kernel) rfl
theorem dX12_why_169 : decode cX12_why 169 = .ok (.iconst 3, 1) := dk_6 (by decide +kernel)
theorem dX12_why_170 : decode cX12_why 170 = .ok (.goto 4, 3) := dk_167 (a := 0) (b := 4) (by decide +kernel) rfl
theorem dX12_why_173 : decode cX12_why 173 = .ok (.iconst 0, 1) := dk_3 (by decide +kernel)
theorem dX12_why_174 : decode cX12_why 174 = .ok (.ireturn, 1) := dk_172 (by decide +kernel)
theorem dX12_why_175 : decode cX12_why 175 = .ok (.aload_n 0, 1) := dk_42 (by decide +kernel)
theorem dX12_why_176 : decode cX12_why 176 = .ok (.getfield 37, 3) := dk_180 (a := 0) (b := 37) (by decide +kernel) rfl
theorem dX12_why_179 : decode cX12_why 179 = .ok (.iload 4, 2) := dk_21 (by decide +kernel)
theorem dX12_why_181 : decode cX12_why 181 = .ok (.iaload, 1) := dk_46 (by decide +kernel)
theorem dX12_why_182 : decode cX12_why 182 = .ok (.iconst 1, 1) := dk_4 (by decide +kernel)
theorem dX12_why_183 : decode cX12_why 183 = .ok (.if_icmp .ne 13, 3) := dk_160 (a := 0) (b := 13) (by decide +kernel) rfl
theorem dX12_why_186 : decode cX12_why 186 = .ok (.aload_n 0, 1) := dk_42 (by decide +kernel)
theorem dX12_why_187 : decode cX12_why 187 = .ok (.getfield 37, 3) := dk_180 (a := 0) (b := 37) (by decide +kernel) rfl
theorem dX12_why_190 : decode cX12_why 190 = .ok (.iload 5, 2) := dk_21 (by decide +kernel)
theorem dX12_why_192 : decode cX12_why 192 = .ok (.iaload, 1) := dk_46 (by decide +kernel)
theorem dX12_why_193 : decode cX12_why 193 = .ok (.ifCond .eq 7, 3) := dk_153 (a := 0) (b := 7) (by decide +kernel) rfl
theorem dX12_why_196 : decode cX12_why 196 = .ok (.iconst 1, 1) := dk_4 (by decide +kernel)
theorem dX12_why_197 : decode cX12_why 197 = .ok (.goto 38, 3) := dk_167 (a := 0) (b := 38) (by decide +kernel) rfl
theorem dX12_why_200 : decode cX12_why 200 = .ok (.aload_n 0, 1) := dk_42 (by decide +kernel)
theorem dX12_why_201 : decode cX12_why 201 = .ok (.getfield 40, 3) := dk_180 (a := 0) (b := 40) (by decide +kernel) rfl
theorem dX12_why_204 : decode cX12_why 204 = .ok (.iload 5, 2) := dk_21 (by decide +kernel)
theorem dX12_why_206 : decode cX12_why 206 = .ok (.iaload, 1) := dk_46 (by decide +kernel)
theorem dX12_why_207 : decode cX12_why 207 = .ok (.i2l, 1) := dk_133 (by decide +kernel)
theorem dX12_why_208 : decode cX12_why 208 = .ok (.lconst 0, 1) := dk_9 (by decide +kernel)
theorem dX12_why_209 : decode cX12_why 209 = .ok (.aload_n 0, 1) := dk_42 (by decide +kernel)
theorem dX12_why_210 : decode cX12_why 210 = .ok (.getfield 62, 3) := dk_180 (a := 0) (b := 62) (by decide +kernel) rfl
theorem dX12_why_213 : decode cX12_why 213 = .ok (.aload_n 0, 1) := dk_42 (by decide +kernel)
theorem dX12_why_214 : decode cX12_why 214 = .ok (.getfield 40, 3) := dk_180 (a := 0) (b := 40) (by decide +kernel) rfl
theorem dX12_why_217 : decode cX12_why 217 = .ok (.iload 4, 2) := dk_21 (by decide +kernel)
theorem dX12_why_219 : decode cX12_why 219 = .ok (.iaload, 1) := dk_46 (by decide +kernel)
theorem dX12_why_220 : decode cX12_why 220 = .ok (.iaload, 1) := dk_46 (by decide +kernel)
theorem dX12_why_221 : decode cX12_why 221 = .ok (.iconst 1, 1) := dk_4 (by decide +kernel)
theorem dX12_why_222 : decode cX12_why 222 = .ok (.isub, 1) := dk_100 (by decide +kernel)
theorem dX12_why_223 : decode cX12_why 223 = .ok (.i2l, 1) := dk_133 (by decide +kernel)
theorem dX12_why_224 : decode cX12_why 224 = .ok (.invokestatic 169, 3) := dk_184 (a := 0) (b := 169) (by decide +kernel) rfl
theorem dX12_why_227 : decode cX12_why 227 = .ok (.ifCond .ne 7, 3) := dk_154 (a := 0) (b := 7) (by decide +kernel) rfl
theorem dX12_why_230 : decode cX12_why 230 = .ok (.iconst 4, 1) := dk_7 (by decide +kernel)
theorem dX12_why_231 : decode cX12_why 231 = .ok (.goto 4, 3) := dk_167 (a := 0) (b := 4) (by decide +kernel) rfl
theorem dX12_why_234 : decode cX12_why 234 = .ok (.iconst 0, 1) := dk_3 (by decide +kernel)
theorem dX12_why_235 : decode cX12_why 235 = .ok (.ireturn, 1) := dk_172 (by decide +kernel)
theorem dX12_why_236 : decode cX12_why 236 = .ok (.aload_n 0, 1) := dk_42 (by decide +kernel)
theorem dX12_why_237 : decode cX12_why 237 = .ok (.getfield 37, 3) := dk_180 (a := 0) (b := 37) (by decide +kernel) rfl
theorem dX12_why_240 : decode cX12_why 240 = .ok (.iload_n 3, 1) := dk_29 (by decide +kernel)
theorem dX12_why_241 : decode cX12_why 241 = .ok (.iaload, 1) := dk_46 (by decide +kernel)
theorem dX12_why_242 : decode cX12_why 242 = .ok (.iconst 1, 1) := dk_4 (by decide +kernel)
theorem dX12_why_243 : decode cX12_why 243 = .ok (.if_icmp .ne 23, 3) := dk_160 (a := 0) (b := 23) (by decide +kernel) rfl
theorem dX12_why_246 : decode cX12_why 246 = .ok (.aload_n 0, 1) := dk_42 (by decide +kernel)
theorem dX12_why_247 : decode cX12_why 247 = .ok (.getfield 37, 3) := dk_180 (a := 0) (b := 37) (by decide +kernel) rfl
theorem dX12_why_250 : decode cX12_why 250 = .ok (.iload 4, 2) := dk_21 (by decide +kernel)
theorem dX12_why_252 : decode cX12_why 252 = .ok (.iaload, 1) := dk_46 (by decide +kernel)
theorem dX12_why_253 : decode cX12_why 253 = .ok (.ifCond .ne 13, 3) := dk_154 (a := 0) (b := 13) (by decide +kernel) rfl
theorem dX12_why_256 : decode cX12_why 256 = .ok (.aload_n 0, 1) := dk_42 (by decide +kernel)
theorem dX12_why_257 : decode cX12_why 257 = .ok (.getfield 37, 3) := dk_180 (a := 0) (b := 37) (by decide +kernel) rfl
theorem dX12_why_260 : decode cX12_why 260 = .ok (.iload 5, 2) := dk_21 (by decide +kernel)
theorem dX12_why_262 : decode cX12_why 262 = .ok (.iaload, 1) := dk_46 (by decide +kernel)
theorem dX12_why_263 : decode cX12_why 263 = .ok (.ifCond .eq 7, 3) := dk_153 (a := 0) (b := 7) (by decide +kernel) rfl
theorem dX12_why_266 : decode cX12_why 266 = .ok (.iconst 1, 1) := dk_4 (by decide +kernel)
theorem dX12_why_267 : decode cX12_why 267 = .ok (.goto 37, 3) := dk_167 (a := 0) (b := 37) (by decide +kernel) rfl
theorem dX12_why_270 : decode cX12_why 270 = .ok (.aload_n 0, 1) := dk_42 (by decide +kernel)
theorem dX12_why_271 : decode cX12_why 271 = .ok (.getfield 40, 3) := dk_180 (a := 0) (b := 40) (by decide +kernel) rfl
theorem dX12_why_274 : decode cX12_why 274 = .ok (.iload 4, 2) := dk_21 (by decide +kernel)
theorem dX12_why_276 : decode cX12_why 276 = .ok (.iaload, 1) := dk_46 (by decide +kernel)
theorem dX12_why_277 : decode cX12_why 277 = .ok (.i2l, 1) := dk_133 (by decide +kernel)
theorem dX12_why_278 : decode cX12_why 278 = .ok (.lconst 0, 1) := dk_9 (by decide +kernel)
theorem dX12_why_279 : decode cX12_why 279 = .ok (.aload_n 0, 1) := dk_42 (by decide +kernel)
theorem dX12_why_280 : decode cX12_why 280 = .ok (.getfield 62, 3) := dk_180 (a := 0) (b := 62) (by decide +kernel) rfl
theorem dX12_why_283 : decode cX12_why 283 = .ok (.aload_n 0, 1) := dk_42 (by decide +kernel)
theorem dX12_why_284 : decode cX12_why 284 = .ok (.getfield 40, 3) := dk_180 (a := 0) (b := 40) (by decide +kernel) rfl
theorem dX12_why_287 : decode cX12_why 287 = .ok (.iload_n 3, 1) := dk_29 (by decide +kernel)
theorem dX12_why_288 : decode cX12_why 288 = .ok (.iaload, 1) := dk_46 (by decide +kernel)
theorem dX12_why_289 : decode cX12_why 289 = .ok (.iaload, 1) := dk_46 (by decide +kernel)
theorem dX12_why_290 : decode cX12_why 290 = .ok (.iconst 1, 1) := dk_4 (by decide +kernel)
theorem dX12_why_291 : decode cX12_why 291 = .ok (.isub, 1) := dk_100 (by decide +kernel)
theorem dX12_why_292 : decode cX12_why 292 = .ok (.i2l, 1) := dk_133 (by decide +kernel)
theorem dX12_why_293 : decode cX12_why 293 = .ok (.invokestatic 169, 3) := dk_184 (a := 0) (b := 169) (by decide +kernel) rfl
theorem dX12_why_296 : decode cX12_why 296 = .ok (.ifCond .ne 7, 3) := dk_154 (a := 0) (b := 7) (by decide +kernel) rfl
theorem dX12_why_299 : decode cX12_why 299 = .ok (.iconst 4, 1) := dk_7 (by decide +kernel)
theorem dX12_why_300 : decode cX12_why 300 = .ok (.goto 4, 3) := dk_167 (a := 0) (b := 4) (by decide +kernel) rfl
theorem dX12_why_303 : decode cX12_why 303 = .ok (.iconst 0, 1) := dk_3 (by decide +kernel)
theorem dX12_why_304 : decode cX12_why 304 = .ok (.ireturn, 1) := dk_172 (by decide +kernel)
theorem dX12_why_305 : decode cX12_why 305 = .ok (.aload_n 0, 1) := dk_42 (by decide +kernel)
theorem dX12_why_306 : decode cX12_why 306 = .ok (.getfield 185, 3) := dk_180 (a := 0) (b := 185) (by decide +kernel) rfl
theorem dX12_why_309 : decode cX12_why 309 = .ok (.bipush 12, 2) := dk_16 (a := 12) (by decide +kernel) rfl
theorem dX12_why_311 : decode cX12_why 311 = .ok (.if_icmp .ne 7, 3) := dk_160 (a := 0) (b := 7) (by decide +kernel) rfl
theorem dX12_why_314 : decode cX12_why 314 = .ok (.iconst 3, 1) := dk_6 (by decide +kernel)
theorem dX12_why_315 : decode cX12_why 315 = .ok (.goto 4, 3) := dk_167 (a := 0) (b := 4) (by decide +kernel) rfl
theorem dX12_why_318 : decode cX12_why 318 = .ok (.iconst 0, 1) := dk_3 (by decide +kernel)
theorem dX12_why_319 : decode cX12_why 319 = .ok (.ireturn, 1) := dk_172 (by decide +kernel)
theorem dX12_why_320 : decode cX12_why 320 = .ok (.aload_n 0, 1) := dk_42 (by decide +kernel)
theorem dX12_why_321 : decode cX12_why 321 = .ok (.iload_n 3, 1) := dk_29 (by decide +kernel)
theorem dX12_why_322 : decode cX12_why 322 = .ok (.invokevirtual 211, 3) := dk_182 (a := 0) (b := 211) (by decide +kernel) rfl
theorem dX12_why_325 : decode cX12_why 325 = .ok (.ifCond .ne 7, 3) := dk_154 (a := 0) (b := 7) (by decide +kernel) rfl
theorem dX12_why_328 : decode cX12_why 328 = .ok (.iconst 1, 1) := dk_4 (by decide +kernel)
theorem dX12_why_329 : decode cX12_why 329 = .ok (.goto 23, 3) := dk_167 (a := 0) (b := 23) (by decide +kernel) rfl
theorem dX12_why_332 : decode cX12_why 332 = .ok (.aload_n 0, 1) := dk_42 (by decide +kernel)
theorem dX12_why_333 : decode cX12_why 333 = .ok (.getfield 59, 3) := dk_180 (a := 0) (b := 59) (by decide +kernel) rfl
theorem dX12_why_336 : decode cX12_why 336 = .ok (.aload_n 0, 1) := dk_42 (by decide +kernel)
theorem dX12_why_337 : decode cX12_why 337 = .ok (.getfield 40, 3) := dk_180 (a := 0) (b := 40) (by decide +kernel) rfl
theorem dX12_why_340 : decode cX12_why 340 = .ok (.iload_n 3, 1) := dk_29 (by decide +kernel)
theorem dX12_why_341 : decode cX12_why 341 = .ok (.iaload, 1) := dk_46 (by decide +kernel)
theorem dX12_why_342 : decode cX12_why 342 = .ok (.iaload, 1) := dk_46 (by decide +kernel)
theorem dX12_why_343 : decode cX12_why 343 = .ok (.iload_n 1, 1) := dk_27 (by decide +kernel)
theorem dX12_why_344 : decode cX12_why 344 = .ok (.if_icmp .ne 7, 3) := dk_160 (a := 0) (b := 7) (by decide +kernel) rfl
theorem dX12_why_347 : decode cX12_why 347 = .ok (.iconst 5, 1) := dk_8 (by decide +kernel)
theorem dX12_why_348 : decode cX12_why 348 = .ok (.goto 4, 3) := dk_167 (a := 0) (b := 4) (by decide +kernel) rfl
theorem dX12_why_351 : decode cX12_why 351 = .ok (.iconst 0, 1) := dk_3 (by decide +kernel)
theorem dX12_why_352 : decode cX12_why 352 = .ok (.ireturn, 1) := dk_172 (by decide +kernel)
theorem dX12_why_353 : decode cX12_why 353 = .ok (.aload_n 0, 1) := dk_42 (by decide +kernel)
theorem dX12_why_354 : decode cX12_why 354 = .ok (.iload_n 3, 1) := dk_29 (by decide +kernel)
theorem dX12_why_355 : decode cX12_why 355 = .ok (.invokevirtual 211, 3) := dk_182 (a := 0) (b := 211) (by decide +kernel) rfl
theorem dX12_why_358 : decode cX12_why 358 = .ok (.ifCond .ne 7, 3) := dk_154 (a := 0) (b := 7) (by decide +kernel) rfl
theorem dX12_why_361 : decode cX12_why 361 = .ok (.iconst 1, 1) := dk_4 (by decide +kernel)
theorem dX12_why_362 : decode cX12_why 362 = .ok (.goto 24, 3) := dk_167 (a := 0) (b := 24) (by decide +kernel) rfl
theorem dX12_why_365 : decode cX12_why 365 = .ok (.aload_n 0, 1) := dk_42 (by decide +kernel)
theorem dX12_why_366 : decode cX12_why 366 = .ok (.getfield 59, 3) := dk_180 (a := 0) (b := 59) (by decide +kernel) rfl
theorem dX12_why_369 : decode cX12_why 369 = .ok (.aload_n 0, 1) := dk_42 (by decide +kernel)
theorem dX12_why_370 : decode cX12_why 370 = .ok (.getfield 40, 3) := dk_180 (a := 0) (b := 40) (by decide +kernel) rfl
theorem dX12_why_373 : decode cX12_why 373 = .ok (.iload_n 3, 1) := dk_29 (by decide +kernel)
theorem dX12_why_374 : decode cX12_why 374 = .ok (.iaload, 1) := dk_46 (by decide +kernel)
theorem dX12_why_375 : decode cX12_why 375 = .ok (.iaload, 1) := dk_46 (by decide +kernel)
theorem dX12_why_376 : decode cX12_why 376 = .ok (.iload_n 1, 1) := dk_27 (by decide +kernel)
theorem dX12_why_377 : decode cX12_why 377 = .ok (.if_icmp .eq 8, 3) := dk_159 (a := 0) (b := 8) (by decide +kernel) rfl
theorem dX12_why_380 : decode cX12_why 380 = .ok (.bipush 6, 2) := dk_16 (a := 6) (by decide +kernel) rfl
theorem dX12_why_382 : decode cX12_why 382 = .ok (.goto 4, 3) := dk_167 (a := 0) (b := 4) (by decide +kernel) rfl
theorem dX12_why_385 : decode cX12_why 385 = .ok (.iconst 0, 1) := dk_3 (by decide +kernel)
theorem dX12_why_386 : decode cX12_why 386 = .ok (.ireturn, 1) := dk_172 (by decide +kernel)
theorem dX12_why_387 : decode cX12_why 387 = .ok (.aload_n 0, 1) := dk_42 (by decide +kernel)
theorem dX12_why_388 : decode cX12_why 388 = .ok (.getfield 37, 3) := dk_180 (a := 0) (b := 37) (by decide +kernel) rfl
theorem dX12_why_391 : decode cX12_why 391 = .ok (.iload_n 3, 1) := dk_29 (by decide +kernel)
theorem dX12_why_392 : decode cX12_why 392 = .ok (.iaload, 1) := dk_46 (by decide +kernel)
theorem dX12_why_393 : decode cX12_why 393 = .ok (.iconst 3, 1) := dk_6 (by decide +kernel)
theorem dX12_why_394 : decode cX12_why 394 = .ok (.if_icmp .eq 7, 3) := dk_159 (a := 0) (b := 7) (by decide +kernel) rfl
theorem dX12_why_397 : decode cX12_why 397 = .ok (.iconst 1, 1) := dk_4 (by decide +kernel)
theorem dX12_why_398 : decode cX12_why 398 = .ok (.goto 24, 3) := dk_167 (a := 0) (b := 24) (by decide +kernel) rfl
theorem dX12_why_401 : decode cX12_why 401 = .ok (.aload_n 0, 1) := dk_42 (by decide +kernel)
theorem dX12_why_402 : decode cX12_why 402 = .ok (.getfield 59, 3) := dk_180 (a := 0) (b := 59) (by decide +kernel) rfl
theorem dX12_why_405 : decode cX12_why 405 = .ok (.aload_n 0, 1) := dk_42 (by decide +kernel)
theorem dX12_why_406 : decode cX12_why 406 = .ok (.getfield 40, 3) := dk_180 (a := 0) (b := 40) (by decide +kernel) rfl
theorem dX12_why_409 : decode cX12_why 409 = .ok (.iload_n 3, 1) := dk_29 (by decide +kernel)
theorem dX12_why_410 : decode cX12_why 410 = .ok (.iaload, 1) := dk_46 (by decide +kernel)
theorem dX12_why_411 : decode cX12_why 411 = .ok (.iaload, 1) := dk_46 (by decide +kernel)
theorem dX12_why_412 : decode cX12_why 412 = .ok (.iload_n 1, 1) := dk_27 (by decide +kernel)
theorem dX12_why_413 : decode cX12_why 413 = .ok (.if_icmp .eq 8, 3) := dk_159 (a := 0) (b := 8) (by decide +kernel) rfl
theorem dX12_why_416 : decode cX12_why 416 = .ok (.bipush 6, 2) := dk_16 (a := 6) (by decide +kernel) rfl
theorem dX12_why_418 : decode cX12_why 418 = .ok (.goto 4, 3) := dk_167 (a := 0) (b := 4) (by decide +kernel) rfl
theorem dX12_why_421 : decode cX12_why 421 = .ok (.iconst 0, 1) := dk_3 (by decide +kernel)
theorem dX12_why_422 : decode cX12_why 422 = .ok (.ireturn, 1) := dk_172 (by decide +kernel)
theorem dX12_why_423 : decode cX12_why 423 = .ok (.aload_n 0, 1) := dk_42 (by decide +kernel)
theorem dX12_why_424 : decode cX12_why 424 = .ok (.getfield 218, 3) := dk_180 (a := 0) (b := 218) (by decide +kernel) rfl
theorem dX12_why_427 : decode cX12_why 427 = .ok (.ifCond .ne 19, 3) := dk_154 (a := 0) (b := 19) (by decide +kernel) rfl
theorem dX12_why_430 : decode cX12_why 430 = .ok (.aload_n 0, 1) := dk_42 (by decide +kernel)
theorem dX12_why_431 : decode cX12_why 431 = .ok (.getfield 188, 3) := dk_180 (a := 0) (b := 188) (by decide +kernel) rfl
theorem dX12_why_434 : decode cX12_why 434 = .ok (.aload_n 0, 1) := dk_42 (by decide +kernel)
theorem dX12_why_435 : decode cX12_why 435 = .ok (.getfield 177, 3) := dk_180 (a := 0) (b := 177) (by decide +kernel) rfl
theorem dX12_why_438 : decode cX12_why 438 = .ok (.if_icmp .ne 8, 3) := dk_160 (a := 0) (b := 8) (by decide +kernel) rfl
theorem dX12_why_441 : decode cX12_why 441 = .ok (.bipush 7, 2) := dk_16 (a := 7) (by decide +kernel) rfl
theorem dX12_why_443 : decode cX12_why 443 = .ok (.goto 4, 3) := dk_167 (a := 0) (b := 4) (by decide +kernel) rfl
theorem dX12_why_446 : decode cX12_why 446 = .ok (.iconst 0, 1) := dk_3 (by decide +kernel)
theorem dX12_why_447 : decode cX12_why 447 = .ok (.ireturn, 1) := dk_172 (by decide +kernel)
theorem dX12_why_448 : decode cX12_why 448 = .ok (.iconst 0, 1) := dk_3 (by decide +kernel)
theorem dX12_why_449 : decode cX12_why 449 = .ok (.ireturn, 1) := dk_172 (by decide +kernel)
theorem dX12_why_450 : decode cX12_why 450 = .ok (.bipush 10, 2) := dk_16 (a := 10) (by decide +kernel) rfl
theorem dX12_why_452 : decode cX12_why 452 = .ok (.iload 6, 2) := dk_21 (by decide +kernel)
theorem dX12_why_454 : decode cX12_why 454 = .ok (.bipush 10, 2) := dk_16 (a := 10) (by decide +kernel) rfl
theorem dX12_why_456 : decode cX12_why 456 = .ok (.invokestatic 204, 3) := dk_184 (a := 0) (b := 204) (by decide +kernel) rfl
theorem dX12_why_459 : decode cX12_why 459 = .ok (.iadd, 1) := dk_96 (by decide +kernel)
theorem dX12_why_460 : decode cX12_why 460 = .ok (.ireturn, 1) := dk_172 (by decide +kernel)
theorem dX12_why_461 : decode cX12_why 461 = .ok (.iconst 0, 1) := dk_3 (by decide +kernel)
theorem dX12_why_462 : decode cX12_why 462 = .ok (.ireturn, 1) := dk_172 (by decide +kernel)
theorem dX12_work_0 : decode cX12_work 0 = .ok (.iload_n 2, 1) := dk_28 (by decide +kernel)
theorem dX12_work_1 : decode cX12_work 1 = .ok (.tableswitch 443 3 15 #[67, 90, 113, 443, 443, 136, 157, 214, 443, 270, 300, 330, 372], 67) := by decide +kernel
theorem dX12_work_68 : decode cX12_work 68 = .ok (.aload_n 0, 1) := dk_42 (by decide +kernel)
theorem dX12_work_69 : decode cX12_work 69 = .ok (.iload_n 3, 1) := dk_29 (by decide +kernel)
theorem dX12_work_70 : decode cX12_work 70 = .ok (.iconst 0, 1) := dk_3 (by decide +kernel)
theorem dX12_work_71 : decode cX12_work 71 = .ok (.aload_n 0, 1) := dk_42 (by decide +kernel)
theorem dX12_work_72 : decode cX12_work 72 = .ok (.getfield 40, 3) := dk_180 (a := 0) (b := 40) (by decide +kernel) rfl
theorem dX12_work_75 : decode cX12_work 75 = .ok (.iload_n 3, 1) := dk_29 (by decide +kernel)
theorem dX12_work_76 : decode cX12_work 76 = .ok (.iaload, 1) := dk_46 (by decide +kernel)
theorem dX12_work_77 : decode cX12_work 77 = .ok (.aload_n 0, 1) := dk_42 (by decide +kernel)
theorem dX12_work_78 : decode cX12_work 78 = .ok (.getfield 40, 3) := dk_180 (a := 0) (b := 40) (by decide +kernel) rfl
theorem dX12_work_81 : decode cX12_work 81 = .ok (.iload 4, 2) := dk_21 (by decide +kernel)
theorem dX12_work_83 : decode cX12_work 83 = .ok (.iaload, 1) := dk_46 (by decide +kernel)
theorem dX12_work_84 : decode cX12_work 84 = .ok (.iadd, 1) := dk_96 (by decide +kernel)
theorem dX12_work_85 : decode cX12_work 85 = .ok (.invokevirtual 221, 3) := dk_182 (a := 0) (b := 221) (by decide +kernel) rfl
theorem dX12_work_88 : decode cX12_work 88 = .ok (.goto 356, 3) := dk_167 (a := 1) (b := 100) (by decide +kernel) rfl
theorem dX12_work_91 : decode cX12_work 91 = .ok (.aload_n 0, 1) := dk_42 (by decide +kernel)
theorem dX12_work_92 : decode cX12_work 92 = .ok (.iload_n 3, 1) := dk_29 (by decide +kernel)
theorem dX12_work_93 : decode cX12_work 93 = .ok (.iconst 0, 1) := dk_3 (by decide +kernel)
theorem dX12_work_94 : decode cX12_work 94 = .ok (.aload_n 0, 1) := dk_42 (by decide +kernel)
theorem dX12_work_95 : decode cX12_work 95 = .ok (.getfield 40, 3) := dk_180 (a := 0) (b := 40) (by decide +kernel) rfl
theorem dX12_work_98 : decode cX12_work 98 = .ok (.iload_n 3, 1) := dk_29 (by decide +kernel)
theorem dX12_work_99 : decode cX12_work 99 = .ok (.iaload, 1) := dk_46 (by decide +kernel)
theorem dX12_work_100 : decode cX12_work 100 = .ok (.aload_n 0, 1) := dk_42 (by decide +kernel)
theorem dX12_work_101 : decode cX12_work 101 = .ok (.getfield 40, 3) := dk_180 (a := 0) (b := 40) (by decide +kernel) rfl
theorem dX12_work_104 : decode cX12_work 104 = .ok (.iload 4, 2) := dk_21 (by decide +kernel)
theorem dX12_work_106 : decode cX12_work 106 = .ok (.iaload, 1) := dk_46 (by decide +kernel)
theorem dX12_work_107 : decode cX12_work 107 = .ok (.isub, 1) := dk_100 (by decide +kernel)
theorem dX12_work_108 : decode cX12_work 108 = .ok (.invokevirtual 221, 3) := dk_182 (a := 0) (b := 221) (by decide +kernel) rfl
theorem dX12_work_111 : decode cX12_work 111 = .ok (.goto 333, 3) := dk_167 (a := 1) (b := 77) (by decide +kernel) rfl
theorem dX12_work_114 : decode cX12_work 114 = .ok (.aload_n 0, 1) := dk_42 (by decide +kernel)
theorem dX12_work_115 : decode cX12_work 115 = .ok (.iload_n 3, 1) := dk_29 (by decide +kernel)
theorem dX12_work_116 : decode cX12_work 116 = .ok (.iconst 0, 1) := dk_3 (by decide +kernel)
theorem dX12_work_117 : decode cX12_work 117 = .ok (.aload_n 0, 1) := dk_42 (by decide +kernel)
theorem dX12_work_118 : decode cX12_work 118 = .ok (.getfield 40, 3) := dk_180 (a := 0) (b := 40) (by decide +kernel) rfl
theorem dX12_work_121 : decode cX12_work 121 = .ok (.iload_n 3, 1) := dk_29 (by decide +kernel)
theorem dX12_work_122 : decode cX12_work 122 = .ok (.iaload, 1) := dk_46 (by decide +kernel)
theorem dX12_work_123 : decode cX12_work 123 = .ok (.aload_n 0, 1) := dk_42 (by decide +kernel)
theorem dX12_work_124 : decode cX12_work 124 = .ok (.getfield 40, 3) := dk_180 (a := 0) (b := 40) (by decide +kernel) rfl
theorem dX12_work_127 : decode cX12_work 127 = .ok (.iload 4, 2) := dk_21 (by decide +kernel)
theorem dX12_work_129 : decode cX12_work 129 = .ok (.iaload, 1) := dk_46 (by decide +kernel)
theorem dX12_work_130 : decode cX12_work 130 = .ok (.imul, 1) := dk_104 (by decide +kernel)
theorem dX12_work_131 : decode cX12_work 131 = .ok (.invokevirtual 221, 3) := dk_182 (a := 0) (b := 221) (by decide +kernel) rfl
theorem dX12_work_134 : decode cX12_work 134 = .ok (.goto 310, 3) := dk_167 (a := 1) (b := 54) (by decide +kernel) rfl
theorem dX12_work_137 : decode cX12_work 137 = .ok (.aload_n 0, 1) := dk_42 (by decide +kernel)
theorem dX12_work_138 : decode cX12_work 138 = .ok (.iload_n 3, 1) := dk_29 (by decide +kernel)
theorem dX12_work_139 : decode cX12_work 139 = .ok (.iconst 1, 1) := dk_4 (by decide +kernel)
theorem dX12_work_140 : decode cX12_work 140 = .ok (.aload_n 0, 1) := dk_42 (by decide +kernel)
theorem dX12_work_141 : decode cX12_work 141 = .ok (.iconst 1, 1) := dk_4 (by decide +kernel)
theorem dX12_work_142 : decode cX12_work 142 = .ok (.aload_n 0, 1) := dk_42 (by decide +kernel)
theorem dX12_work_143 : decode cX12_work 143 = .ok (.getfield 40, 3) := dk_180 (a := 0) (b := 40) (by decide +kernel) rfl
theorem dX12_work_146 : decode cX12_work 146 = .ok (.iload 4, 2) := dk_21 (by decide +kernel)
theorem dX12_work_148 : decode cX12_work 148 = .ok (.iaload, 1) := dk_46 (by decide +kernel)
theorem dX12_work_149 : decode cX12_work 149 = .ok (.invokevirtual 225, 3) := dk_182 (a := 0) (b := 225) (by decide +kernel) rfl
theorem dX12_work_152 : decode cX12_work 152 = .ok (.invokevirtual 221, 3) := dk_182 (a := 0) (b := 221) (by decide +kernel) rfl
theorem dX12_work_155 : decode cX12_work 155 = .ok (.goto 289, 3) := dk_167 (a := 1) (b := 33) (by decide +kernel) rfl
theorem dX12_work_158 : decode cX12_work 158 = .ok (.aload_n 0, 1) := dk_42 (by decide +kernel)
theorem dX12_work_159 : decode cX12_work 159 = .ok (.bipush 100, 2) := dk_16 (a := 100) (by decide +kernel) rfl
theorem dX12_work_161 : decode cX12_work 161 = .ok (.bipush 20, 2) := dk_16 (a := 20) (by decide +kernel) rfl
theorem dX12_work_163 : decode cX12_work 163 = .ok (.aload_n 0, 1) := dk_42 (by decide +kernel)
theorem dX12_work_164 : decode cX12_work 164 = .ok (.getfield 40, 3) := dk_180 (a := 0) (b := 40) (by decide +kernel) rfl
theorem dX12_work_167 : decode cX12_work 167 = .ok (.iload 4, 2) := dk_21 (by decide +kernel)
theorem dX12_work_169 : decode cX12_work 169 = .ok (.iaload, 1) := dk_46 (by decide +kernel)
theorem dX12_work_170 : decode cX12_work 170 = .ok (.imul, 1) := dk_104 (by decide +kernel)
theorem dX12_work_171 : decode cX12_work 171 = .ok (.iadd, 1) := dk_96 (by decide +kernel)
theorem dX12_work_172 : decode cX12_work 172 = .ok (.aload_n 0, 1) := dk_42 (by decide +kernel)
theorem dX12_work_173 : decode cX12_work 173 = .ok (.getfield 40, 3) := dk_180 (a := 0) (b := 40) (by decide +kernel) rfl
theorem dX12_work_176 : decode cX12_work 176 = .ok (.iload 5, 2) := dk_21 (by decide +kernel)
theorem dX12_work_178 : decode cX12_work 178 = .ok (.iaload, 1) := dk_46 (by decide +kernel)
theorem dX12_work_179 : decode cX12_work 179 = .ok (.iadd, 1) := dk_96 (by decide +kernel)
theorem dX12_work_180 : decode cX12_work 180 = .ok (.putfield 228, 3) := dk_181 (a := 0) (b := 228) (by decide +kernel) rfl
theorem dX12_work_183 : decode cX12_work 183 = .ok (.aload_n 0, 1) := dk_42 (by decide +kernel)
theorem dX12_work_184 : decode cX12_work 184 = .ok (.iload_n 3, 1) := dk_29 (by decide +kernel)
theorem dX12_work_185 : decode cX12_work 185 = .ok (.iconst 0, 1) := dk_3 (by decide +kernel)
theorem dX12_work_186 : decode cX12_work 186 = .ok (.aload_n 0, 1) := dk_42 (by decide +kernel)
theorem dX12_work_187 : decode cX12_work 187 = .ok (.getfield 65, 3) := dk_180 (a := 0) (b := 65) (by decide +kernel) rfl
theorem dX12_work_190 : decode cX12_work 190 = .ok (.bipush 16, 2) := dk_16 (a := 16) (by decide +kernel) rfl
theorem dX12_work_192 : decode cX12_work 192 = .ok (.aload_n 0, 1) := dk_42 (by decide +kernel)
theorem dX12_work_193 : decode cX12_work 193 = .ok (.getfield 40, 3) := dk_180 (a := 0) (b := 40) (by decide +kernel) rfl
theorem dX12_work_196 : decode cX12_work 196 = .ok (.iload 4, 2) := dk_21 (by decide +kernel)
theorem dX12_work_198 : decode cX12_work 198 = .ok (.iaload, 1) := dk_46 (by decide +kernel)
theorem dX12_work_199 : decode cX12_work 199 = .ok (.imul, 1) := dk_104 (by decide +kernel)
theorem dX12_work_200 : decode cX12_work 200 = .ok (.aload_n 0, 1) := dk_42 (by decide +kernel)
theorem dX12_work_201 : decode cX12_work 201 = .ok (.getfield 40, 3) := dk_180 (a := 0) (b := 40) (by decide +kernel) rfl
theorem dX12_work_204 : decode cX12_work 204 = .ok (.iload 5, 2) := dk_21 (by decide +kernel)
theorem dX12_work_206 : decode cX12_work 206 = .ok (.iaload, 1) := dk_46 (by decide +kernel)
theorem dX12_work_207 : decode cX12_work 207 = .ok (.iadd, 1) := dk_96 (by decide +kernel)
theorem dX12_work_208 : decode cX12_work 208 = .ok (.iaload, 1) := dk_46 (by decide +kernel)
theorem dX12_work_209 : decode cX12_work 209 = .ok (.invokevirtual 221, 3) := dk_182 (a := 0) (b := 221) (by decide +kernel) rfl
theorem dX12_work_212 : decode cX12_work 212 = .ok (.goto 232, 3) := dk_167 (a := 0) (b := 232) (by decide +kernel) rfl
theorem dX12_work_215 : decode cX12_work 215 = .ok (.aload_n 0, 1) := dk_42 (by decide +kernel)
theorem dX12_work_216 : decode cX12_work 216 = .ok (.bipush 100, 2) := dk_16 (a := 100) (by decide +kernel) rfl
theorem dX12_work_218 : decode cX12_work 218 = .ok (.bipush 20, 2) := dk_16 (a := 20) (by decide +kernel) rfl
theorem dX12_work_220 : decode cX12_work 220 = .ok (.aload_n 0, 1) := dk_42 (by decide +kernel)
theorem dX12_work_221 : decode cX12_work 221 = .ok (.getfield 40, 3) := dk_180 (a := 0) (b := 40) (by decide +kernel) rfl
theorem dX12_work_224 : decode cX12_work 224 = .ok (.iload_n 3, 1) := dk_29 (by decide +kernel)
theorem dX12_work_225 : decode cX12_work 225 = .ok (.iaload, 1) := dk_46 (by decide +kernel)
theorem dX12_work_226 : decode cX12_work 226 = .ok (.imul, 1) := dk_104 (by decide +kernel)
theorem dX12_work_227 : decode cX12_work 227 = .ok (.iadd, 1) := dk_96 (by decide +kernel)
theorem dX12_work_228 : decode cX12_work 228 = .ok (.aload_n 0, 1) := dk_42 (by decide +kernel)
theorem dX12_work_229 : decode cX12_work 229 = .ok (.getfield 40, 3) := dk_180 (a := 0) (b := 40) (by decide +kernel) rfl
theorem dX12_work_232 : decode cX12_work 232 = .ok (.iload 4, 2) := dk_21 (by decide +kernel)
theorem dX12_work_234 : decode cX12_work 234 = .ok (.iaload, 1) := dk_46 (by decide +kernel)
theorem dX12_work_235 : decode cX12_work 235 = .ok (.iadd, 1) := dk_96 (by decide +kernel)
theorem dX12_work_236 : decode cX12_work 236 = .ok (.putfield 231, 3) := dk_181 (a := 0) (b := 231) (by decide +kernel) rfl
theorem dX12_work_239 : decode cX12_work 239 = .ok (.aload_n 0, 1) := dk_42 (by decide +kernel)
theorem dX12_work_240 : decode cX12_work 240 = .ok (.getfield 65, 3) := dk_180 (a := 0) (b := 65) (by decide +kernel) rfl
theorem dX12_work_243 : decode cX12_work 243 = .ok (.bipush 16, 2) := dk_16 (a := 16) (by decide +kernel) rfl
theorem dX12_work_245 : decode cX12_work 245 = .ok (.aload_n 0, 1) := dk_42 (by decide +kernel)
theorem dX12_work_246 : decode cX12_work 246 = .ok (.getfield 40, 3) := dk_180 (a := 0) (b := 40) (by decide +kernel) rfl
theorem dX12_work_249 : decode cX12_work 249 = .ok (.iload_n 3, 1) := dk_29 (by decide +kernel)
theorem dX12_work_250 : decode cX12_work 250 = .ok (.iaload, 1) := dk_46 (by decide +kernel)
theorem dX12_work_251 : decode cX12_work 251 = .ok (.imul, 1) := dk_104 (by decide +kernel)
theorem dX12_work_252 : decode cX12_work 252 = .ok (.aload_n 0, 1) := dk_42 (by decide +kernel)
theorem dX12_work_253 : decode cX12_work 253 = .ok (.getfield 40, 3) := dk_180 (a := 0) (b := 40) (by decide +kernel) rfl
theorem dX12_work_256 : decode cX12_work 256 = .ok (.iload 4, 2) := dk_21 (by decide +kernel)
theorem dX12_work_258 : decode cX12_work 258 = .ok (.iaload, 1) := dk_46 (by decide +kernel)
theorem dX12_work_259 : decode cX12_work 259 = .ok (.iadd, 1) := dk_96 (by decide +kernel)
theorem dX12_work_260 : decode cX12_work 260 = .ok (.aload_n 0, 1) := dk_42 (by decide +kernel)
theorem dX12_work_261 : decode cX12_work 261 = .ok (.getfield 40, 3) := dk_180 (a := 0) (b := 40) (by decide +kernel) rfl
theorem dX12_work_264 : decode cX12_work 264 = .ok (.iload 5, 2) := dk_21 (by decide +kernel)
theorem dX12_work_266 : decode cX12_work 266 = .ok (.iaload, 1) := dk_46 (by decide +kernel)
theorem dX12_work_267 : decode cX12_work 267 = .ok (.iastore, 1) := dk_79 (by decide +kernel)
theorem dX12_work_268 : decode cX12_work 268 = .ok (.goto 176, 3) := dk_167 (a := 0) (b := 176) (by decide +kernel) rfl
theorem dX12_work_271 : decode cX12_work 271 = .ok (.aload_n 0, 1) := dk_42 (by decide +kernel)
theorem dX12_work_272 : decode cX12_work 272 = .ok (.getfield 59, 3) := dk_180 (a := 0) (b := 59) (by decide +kernel) rfl
theorem dX12_work_275 : decode cX12_work 275 = .ok (.aload_n 0, 1) := dk_42 (by decide +kernel)
theorem dX12_work_276 : decode cX12_work 276 = .ok (.getfield 40, 3) := dk_180 (a := 0) (b := 40) (by decide +kernel) rfl
theorem dX12_work_279 : decode cX12_work 279 = .ok (.iload_n 3, 1) := dk_29 (by decide +kernel)
theorem dX12_work_280 : decode cX12_work 280 = .ok (.iaload, 1) := dk_46 (by decide +kernel)
theorem dX12_work_281 : decode cX12_work 281 = .ok (.iload_n 1, 1) := dk_27 (by decide +kernel)
theorem dX12_work_282 : decode cX12_work 282 = .ok (.iastore, 1) := dk_79 (by decide +kernel)
theorem dX12_work_283 : decode cX12_work 283 = .ok (.aload_n 0, 1) := dk_42 (by decide +kernel)
theorem dX12_work_284 : decode cX12_work 284 = .ok (.iconst 1, 1) := dk_4 (by decide +kernel)
theorem dX12_work_285 : decode cX12_work 285 = .ok (.putfield 234, 3) := dk_181 (a := 0) (b := 234) (by decide +kernel) rfl
theorem dX12_work_288 : decode cX12_work 288 = .ok (.aload_n 0, 1) := dk_42 (by decide +kernel)
theorem dX12_work_289 : decode cX12_work 289 = .ok (.aload_n 0, 1) := dk_42 (by decide +kernel)
theorem dX12_work_290 : decode cX12_work 290 = .ok (.getfield 40, 3) := dk_180 (a := 0) (b := 40) (by decide +kernel) rfl
theorem dX12_work_293 : decode cX12_work 293 = .ok (.iload_n 3, 1) := dk_29 (by decide +kernel)
theorem dX12_work_294 : decode cX12_work 294 = .ok (.iaload, 1) := dk_46 (by decide +kernel)
theorem dX12_work_295 : decode cX12_work 295 = .ok (.putfield 237, 3) := dk_181 (a := 0) (b := 237) (by decide +kernel) rfl
theorem dX12_work_298 : decode cX12_work 298 = .ok (.goto 146, 3) := dk_167 (a := 0) (b := 146) (by decide +kernel) rfl
theorem dX12_work_301 : decode cX12_work 301 = .ok (.aload_n 0, 1) := dk_42 (by decide +kernel)
theorem dX12_work_302 : decode cX12_work 302 = .ok (.getfield 59, 3) := dk_180 (a := 0) (b := 59) (by decide +kernel) rfl
theorem dX12_work_305 : decode cX12_work 305 = .ok (.aload_n 0, 1) := dk_42 (by decide +kernel)
theorem dX12_work_306 : decode cX12_work 306 = .ok (.getfield 40, 3) := dk_180 (a := 0) (b := 40) (by decide +kernel) rfl
theorem dX12_work_309 : decode cX12_work 309 = .ok (.iload_n 3, 1) := dk_29 (by decide +kernel)
theorem dX12_work_310 : decode cX12_work 310 = .ok (.iaload, 1) := dk_46 (by decide +kernel)
theorem dX12_work_311 : decode cX12_work 311 = .ok (.iconst (-1), 1) := dk_2 (by decide +kernel)
theorem dX12_work_312 : decode cX12_work 312 = .ok (.iastore, 1) := dk_79 (by decide +kernel)
theorem dX12_work_313 : decode cX12_work 313 = .ok (.aload_n 0, 1) := dk_42 (by decide +kernel)
theorem dX12_work_314 : decode cX12_work 314 = .ok (.iconst 2, 1) := dk_5 (by decide +kernel)
theorem dX12_work_315 : decode cX12_work 315 = .ok (.putfield 234, 3) := dk_181 (a := 0) (b := 234) (by decide +kernel) rfl
theorem dX12_work_318 : decode cX12_work 318 = .ok (.aload_n 0, 1) := dk_42 (by decide +kernel)
theorem dX12_work_319 : decode cX12_work 319 = .ok (.aload_n 0, 1) := dk_42 (by decide +kernel)
theorem dX12_work_320 : decode cX12_work 320 = .ok (.getfield 40, 3) := dk_180 (a := 0) (b := 40) (by decide +kernel) rfl
theorem dX12_work_323 : decode cX12_work 323 = .ok (.iload_n 3, 1) := dk_29 (by decide +kernel)
theorem dX12_work_324 : decode cX12_work 324 = .ok (.iaload, 1) := dk_46 (by decide +kernel)
theorem dX12_work_325 : decode cX12_work 325 = .ok (.putfield 237, 3) := dk_181 (a := 0) (b := 237) (by decide +kernel) rfl
theorem dX12_work_328 : decode cX12_work 328 = .ok (.goto 116, 3) := dk_167 (a := 0) (b := 116) (by decide +kernel) rfl
theorem dX12_work_331 : decode cX12_work 331 = .ok (.aload_n 0, 1) := dk_42 (by decide +kernel)
theorem dX12_work_332 : decode cX12_work 332 = .ok (.getfield 59, 3) := dk_180 (a := 0) (b := 59) (by decide +kernel) rfl
theorem dX12_work_335 : decode cX12_work 335 = .ok (.aload_n 0, 1) := dk_42 (by decide +kernel)
theorem dX12_work_336 : decode cX12_work 336 = .ok (.getfield 40, 3) := dk_180 (a := 0) (b := 40) (by decide +kernel) rfl
theorem dX12_work_339 : decode cX12_work 339 = .ok (.iload_n 3, 1) := dk_29 (by decide +kernel)
theorem dX12_work_340 : decode cX12_work 340 = .ok (.iaload, 1) := dk_46 (by decide +kernel)
theorem dX12_work_341 : decode cX12_work 341 = .ok (.iconst (-1), 1) := dk_2 (by decide +kernel)
theorem dX12_work_342 : decode cX12_work 342 = .ok (.iastore, 1) := dk_79 (by decide +kernel)
theorem dX12_work_343 : decode cX12_work 343 = .ok (.aload_n 0, 1) := dk_42 (by decide +kernel)
theorem dX12_work_344 : decode cX12_work 344 = .ok (.getfield 50, 3) := dk_180 (a := 0) (b := 50) (by decide +kernel) rfl
theorem dX12_work_347 : decode cX12_work 347 = .ok (.iload_n 1, 1) := dk_27 (by decide +kernel)
theorem dX12_work_348 : decode cX12_work 348 = .ok (.aload_n 0, 1) := dk_42 (by decide +kernel)
theorem dX12_work_349 : decode cX12_work 349 = .ok (.getfield 40, 3) := dk_180 (a := 0) (b := 40) (by decide +kernel) rfl
theorem dX12_work_352 : decode cX12_work 352 = .ok (.iload_n 3, 1) := dk_29 (by decide +kernel)
theorem dX12_work_353 : decode cX12_work 353 = .ok (.iaload, 1) := dk_46 (by decide +kernel)
theorem dX12_work_354 : decode cX12_work 354 = .ok (.iastore, 1) := dk_79 (by decide +kernel)
theorem dX12_work_355 : decode cX12_work 355 = .ok (.aload_n 0, 1) := dk_42 (by decide +kernel)
theorem dX12_work_356 : decode cX12_work 356 = .ok (.iconst 2, 1) := dk_5 (by decide +kernel)
theorem dX12_work_357 : decode cX12_work 357 = .ok (.putfield 234, 3) := dk_181 (a := 0) (b := 234) (by decide +kernel) rfl
theorem dX12_work_360 : decode cX12_work 360 = .ok (.aload_n 0, 1) := dk_42 (by decide +kernel)
theorem dX12_work_361 : decode cX12_work 361 = .ok (.aload_n 0, 1) := dk_42 (by decide +kernel)
theorem dX12_work_362 : decode cX12_work 362 = .ok (.getfield 40, 3) := dk_180 (a := 0) (b := 40) (by decide +kernel) rfl
theorem dX12_work_365 : decode cX12_work 365 = .ok (.iload_n 3, 1) := dk_29 (by decide +kernel)
theorem dX12_work_366 : decode cX12_work 366 = .ok (.iaload, 1) := dk_46 (by decide +kernel)
theorem dX12_work_367 : decode cX12_work 367 = .ok (.putfield 237, 3) := dk_181 (a := 0) (b := 237) (by decide +kernel) rfl
theorem dX12_work_370 : decode cX12_work 370 = .ok (.goto 74, 3) := dk_167 (a := 0) (b := 74) (by decide +kernel) rfl
theorem dX12_work_373 : decode cX12_work 373 = .ok (.aload_n 0, 1) := dk_42 (by decide +kernel)
theorem dX12_work_374 : decode cX12_work 374 = .ok (.iconst 3, 1) := dk_6 (by decide +kernel)
theorem dX12_work_375 : decode cX12_work 375 = .ok (.putfield 234, 3) := dk_181 (a := 0) (b := 234) (by decide +kernel) rfl
theorem dX12_work_378 : decode cX12_work 378 = .ok (.aload_n 0, 1) := dk_42 (by decide +kernel)
theorem dX12_work_379 : decode cX12_work 379 = .ok (.aload_n 0, 1) := dk_42 (by decide +kernel)
theorem dX12_work_380 : decode cX12_work 380 = .ok (.getfield 40, 3) := dk_180 (a := 0) (b := 40) (by decide +kernel) rfl
theorem dX12_work_383 : decode cX12_work 383 = .ok (.iload_n 3, 1) := dk_29 (by decide +kernel)
theorem dX12_work_384 : decode cX12_work 384 = .ok (.iaload, 1) := dk_46 (by decide +kernel)
theorem dX12_work_385 : decode cX12_work 385 = .ok (.putfield 237, 3) := dk_181 (a := 0) (b := 237) (by decide +kernel) rfl
theorem dX12_work_388 : decode cX12_work 388 = .ok (.iconst 0, 1) := dk_3 (by decide +kernel)
theorem dX12_work_389 : decode cX12_work 389 = .ok (.istore 6, 2) := dk_54 (by decide +kernel)
theorem dX12_work_391 : decode cX12_work 391 = .ok (.iload 6, 2) := dk_21 (by decide +kernel)
theorem dX12_work_393 : decode cX12_work 393 = .ok (.iconst 4, 1) := dk_7 (by decide +kernel)
theorem dX12_work_394 : decode cX12_work 394 = .ok (.if_icmp .ge 47, 3) := dk_162 (a := 0) (b := 47) (by decide +kernel) rfl
theorem dX12_work_397 : decode cX12_work 397 = .ok (.aload_n 0, 1) := dk_42 (by decide +kernel)
theorem dX12_work_398 : decode cX12_work 398 = .ok (.getfield 50, 3) := dk_180 (a := 0) (b := 50) (by decide +kernel) rfl
theorem dX12_work_401 : decode cX12_work 401 = .ok (.iload 6, 2) := dk_21 (by decide +kernel)
theorem dX12_work_403 : decode cX12_work 403 = .ok (.iaload, 1) := dk_46 (by decide +kernel)
theorem dX12_work_404 : decode cX12_work 404 = .ok (.aload_n 0, 1) := dk_42 (by decide +kernel)
theorem dX12_work_405 : decode cX12_work 405 = .ok (.getfield 40, 3) := dk_180 (a := 0) (b := 40) (by decide +kernel) rfl
theorem dX12_work_408 : decode cX12_work 408 = .ok (.iload_n 3, 1) := dk_29 (by decide +kernel)
theorem dX12_work_409 : decode cX12_work 409 = .ok (.iaload, 1) := dk_46 (by decide +kernel)
theorem dX12_work_410 : decode cX12_work 410 = .ok (.if_icmp .ne 25, 3) := dk_160 (a := 0) (b := 25) (by decide +kernel) rfl
theorem dX12_work_413 : decode cX12_work 413 = .ok (.aload_n 0, 1) := dk_42 (by decide +kernel)
theorem dX12_work_414 : decode cX12_work 414 = .ok (.getfield 53, 3) := dk_180 (a := 0) (b := 53) (by decide +kernel) rfl
theorem dX12_work_417 : decode cX12_work 417 = .ok (.iload 6, 2) := dk_21 (by decide +kernel)
theorem dX12_work_419 : decode cX12_work 419 = .ok (.aload_n 0, 1) := dk_42 (by decide +kernel)
theorem dX12_work_420 : decode cX12_work 420 = .ok (.getfield 50, 3) := dk_180 (a := 0) (b := 50) (by decide +kernel) rfl
theorem dX12_work_423 : decode cX12_work 423 = .ok (.iload 6, 2) := dk_21 (by decide +kernel)
theorem dX12_work_425 : decode cX12_work 425 = .ok (.iaload, 1) := dk_46 (by decide +kernel)
theorem dX12_work_426 : decode cX12_work 426 = .ok (.iastore, 1) := dk_79 (by decide +kernel)
theorem dX12_work_427 : decode cX12_work 427 = .ok (.aload_n 0, 1) := dk_42 (by decide +kernel)
theorem dX12_work_428 : decode cX12_work 428 = .ok (.getfield 50, 3) := dk_180 (a := 0) (b := 50) (by decide +kernel) rfl
theorem dX12_work_431 : decode cX12_work 431 = .ok (.iload 6, 2) := dk_21 (by decide +kernel)
theorem dX12_work_433 : decode cX12_work 433 = .ok (.iconst (-1), 1) := dk_2 (by decide +kernel)
theorem dX12_work_434 : decode cX12_work 434 = .ok (.iastore, 1) := dk_79 (by decide +kernel)
theorem dX12_work_435 : decode cX12_work 435 = .ok (.iinc 6 1, 3) := dk_132 (b := 1) (by decide +kernel) rfl
theorem dX12_work_438 : decode cX12_work 438 = .ok (.goto (-47), 3) := dk_167 (a := 255) (b := 209) (by decide +kernel) rfl
theorem dX12_work_441 : decode cX12_work 441 = .ok (.goto 3, 3) := dk_167 (a := 0) (b := 3) (by decide +kernel) rfl
theorem dX12_work_444 : decode cX12_work 444 = .ok (.return_, 1) := dk_177 (by decide +kernel)
theorem dX12_workPlain_0 : decode cX12_workPlain 0 = .ok (.aload_n 0, 1) := dk_42 (by decide +kernel)
theorem dX12_workPlain_1 : decode cX12_workPlain 1 = .ok (.getfield 16, 3) := dk_180 (a := 0) (b := 16) (by decide +kernel) rfl
theorem dX12_workPlain_4 : decode cX12_workPlain 4 = .ok (.iload_n 2, 1) := dk_28 (by decide +kernel)
theorem dX12_workPlain_5 : decode cX12_workPlain 5 = .ok (.iaload, 1) := dk_46 (by decide +kernel)
theorem dX12_workPlain_6 : decode cX12_workPlain 6 = .ok (.istore 5, 2) := dk_54 (by decide +kernel)
theorem dX12_workPlain_8 : decode cX12_workPlain 8 = .ok (.aload_n 0, 1) := dk_42 (by decide +kernel)
theorem dX12_workPlain_9 : decode cX12_workPlain 9 = .ok (.getfield 19, 3) := dk_180 (a := 0) (b := 19) (by decide +kernel) rfl
theorem dX12_workPlain_12 : decode cX12_workPlain 12 = .ok (.iload_n 2, 1) := dk_28 (by decide +kernel)
theorem dX12_workPlain_13 : decode cX12_workPlain 13 = .ok (.iaload, 1) := dk_46 (by decide +kernel)
theorem dX12_workPlain_14 : decode cX12_workPlain 14 = .ok (.istore 6, 2) := dk_54 (by decide +kernel)
theorem dX12_workPlain_16 : decode cX12_workPlain 16 = .ok (.aload_n 0, 1) := dk_42 (by decide +kernel)
theorem dX12_workPlain_17 : decode cX12_workPlain 17 = .ok (.getfield 13, 3) := dk_180 (a := 0) (b := 13) (by decide +kernel) rfl
theorem dX12_workPlain_20 : decode cX12_workPlain 20 = .ok (.iload_n 2, 1) := dk_28 (by decide +kernel)
theorem dX12_workPlain_21 : decode cX12_workPlain 21 = .ok (.iaload, 1) := dk_46 (by decide +kernel)
theorem dX12_workPlain_22 : decode cX12_workPlain 22 = .ok (.tableswitch 280 0 17 #[86, 97, 134, 280, 280, 280, 280, 280, 280, 280, 280, 172, 280, 280, 280, 280, 203, 250], 86) := by decide +kernel
theorem dX12_workPlain_108 : decode cX12_workPlain 108 = .ok (.aload_n 0, 1) := dk_42 (by decide +kernel)
theorem dX12_workPlain_109 : decode cX12_workPlain 109 = .ok (.iload_n 3, 1) := dk_29 (by decide +kernel)
theorem dX12_workPlain_110 : decode cX12_workPlain 110 = .ok (.iconst 0, 1) := dk_3 (by decide +kernel)
theorem dX12_workPlain_111 : decode cX12_workPlain 111 = .ok (.iload 6, 2) := dk_21 (by decide +kernel)
theorem dX12_workPlain_113 : decode cX12_workPlain 113 = .ok (.invokevirtual 221, 3) := dk_182 (a := 0) (b := 221) (by decide +kernel) rfl
theorem dX12_workPlain_116 : decode cX12_workPlain 116 = .ok (.goto 186, 3) := dk_167 (a := 0) (b := 186) (by decide +kernel) rfl
theorem dX12_workPlain_119 : decode cX12_workPlain 119 = .ok (.iload 6, 2) := dk_21 (by decide +kernel)
theorem dX12_workPlain_121 : decode cX12_workPlain 121 = .ok (.bipush 12, 2) := dk_16 (a := 12) (by decide +kernel) rfl
theorem dX12_workPlain_123 : decode cX12_workPlain 123 = .ok (.invokestatic 204, 3) := dk_184 (a := 0) (b := 204) (by decide +kernel) rfl
theorem dX12_workPlain_126 : decode cX12_workPlain 126 = .ok (.istore 7, 2) := dk_54 (by decide +kernel)
theorem dX12_workPlain_128 : decode cX12_workPlain 128 = .ok (.aload_n 0, 1) := dk_42 (by decide +kernel)
theorem dX12_workPlain_129 : decode cX12_workPlain 129 = .ok (.iload 7, 2) := dk_21 (by decide +kernel)
theorem dX12_workPlain_131 : decode cX12_workPlain 131 = .ok (.putfield 228, 3) := dk_181 (a := 0) (b := 228) (by decide +kernel) rfl
theorem dX12_workPlain_134 : decode cX12_workPlain 134 = .ok (.aload_n 0, 1) := dk_42 (by decide +kernel)
theorem dX12_workPlain_135 : decode cX12_workPlain 135 = .ok (.iload_n 3, 1) := dk_29 (by decide +kernel)
theorem dX12_workPlain_136 : decode cX12_workPlain 136 = .ok (.aload_n 0, 1) := dk_42 (by decide +kernel)
theorem dX12_workPlain_137 : decode cX12_workPlain 137 = .ok (.getfield 37, 3) := dk_180 (a := 0) (b := 37) (by decide +kernel) rfl
theorem dX12_workPlain_140 : decode cX12_workPlain 140 = .ok (.iload 7, 2) := dk_21 (by decide +kernel)
theorem dX12_workPlain_142 : decode cX12_workPlain 142 = .ok (.iaload, 1) := dk_46 (by decide +kernel)
theorem dX12_workPlain_143 : decode cX12_workPlain 143 = .ok (.aload_n 0, 1) := dk_42 (by decide +kernel)
theorem dX12_workPlain_144 : decode cX12_workPlain 144 = .ok (.getfield 40, 3) := dk_180 (a := 0) (b := 40) (by decide +kernel) rfl
theorem dX12_workPlain_147 : decode cX12_workPlain 147 = .ok (.iload 7, 2) := dk_21 (by decide +kernel)
theorem dX12_workPlain_149 : decode cX12_workPlain 149 = .ok (.iaload, 1) := dk_46 (by decide +kernel)
theorem dX12_workPlain_150 : decode cX12_workPlain 150 = .ok (.invokevirtual 221, 3) := dk_182 (a := 0) (b := 221) (by decide +kernel) rfl
theorem dX12_workPlain_153 : decode cX12_workPlain 153 = .ok (.goto 149, 3) := dk_167 (a := 0) (b := 149) (by decide +kernel) rfl
theorem dX12_workPlain_156 : decode cX12_workPlain 156 = .ok (.iload 5, 2) := dk_21 (by decide +kernel)
theorem dX12_workPlain_158 : decode cX12_workPlain 158 = .ok (.bipush 12, 2) := dk_16 (a := 12) (by decide +kernel) rfl
theorem dX12_workPlain_160 : decode cX12_workPlain 160 = .ok (.invokestatic 204, 3) := dk_184 (a := 0) (b := 204) (by decide +kernel) rfl
theorem dX12_workPlain_163 : decode cX12_workPlain 163 = .ok (.istore 7, 2) := dk_54 (by decide +kernel)
theorem dX12_workPlain_165 : decode cX12_workPlain 165 = .ok (.aload_n 0, 1) := dk_42 (by decide +kernel)
theorem dX12_workPlain_166 : decode cX12_workPlain 166 = .ok (.iload 7, 2) := dk_21 (by decide +kernel)
theorem dX12_workPlain_168 : decode cX12_workPlain 168 = .ok (.putfield 231, 3) := dk_181 (a := 0) (b := 231) (by decide +kernel) rfl
theorem dX12_workPlain_171 : decode cX12_workPlain 171 = .ok (.aload_n 0, 1) := dk_42 (by decide +kernel)
theorem dX12_workPlain_172 : decode cX12_workPlain 172 = .ok (.iload 7, 2) := dk_21 (by decide +kernel)
theorem dX12_workPlain_174 : decode cX12_workPlain 174 = .ok (.aload_n 0, 1) := dk_42 (by decide +kernel)
theorem dX12_workPlain_175 : decode cX12_workPlain 175 = .ok (.getfield 37, 3) := dk_180 (a := 0) (b := 37) (by decide +kernel) rfl
theorem dX12_workPlain_178 : decode cX12_workPlain 178 = .ok (.iload 4, 2) := dk_21 (by decide +kernel)
theorem dX12_workPlain_180 : decode cX12_workPlain 180 = .ok (.iaload, 1) := dk_46 (by decide +kernel)
theorem dX12_workPlain_181 : decode cX12_workPlain 181 = .ok (.aload_n 0, 1) := dk_42 (by decide +kernel)
theorem dX12_workPlain_182 : decode cX12_workPlain 182 = .ok (.getfield 40, 3) := dk_180 (a := 0) (b := 40) (by decide +kernel) rfl
theorem dX12_workPlain_185 : decode cX12_workPlain 185 = .ok (.iload 4, 2) := dk_21 (by decide +kernel)
theorem dX12_workPlain_187 : decode cX12_workPlain 187 = .ok (.iaload, 1) := dk_46 (by decide +kernel)
theorem dX12_workPlain_188 : decode cX12_workPlain 188 = .ok (.invokevirtual 221, 3) := dk_182 (a := 0) (b := 221) (by decide +kernel) rfl
theorem dX12_workPlain_191 : decode cX12_workPlain 191 = .ok (.goto 111, 3) := dk_167 (a := 0) (b := 111) (by decide +kernel) rfl
theorem dX12_workPlain_194 : decode cX12_workPlain 194 = .ok (.iload 6, 2) := dk_21 (by decide +kernel)
theorem dX12_workPlain_196 : decode cX12_workPlain 196 = .ok (.iconst 2, 1) := dk_5 (by decide +kernel)
theorem dX12_workPlain_197 : decode cX12_workPlain 197 = .ok (.irem, 1) := dk_112 (by decide +kernel)
theorem dX12_workPlain_198 : decode cX12_workPlain 198 = .ok (.ifCond .ne 7, 3) := dk_154 (a := 0) (b := 7) (by decide +kernel) rfl
theorem dX12_workPlain_201 : decode cX12_workPlain 201 = .ok (.iconst 2, 1) := dk_5 (by decide +kernel)
theorem dX12_workPlain_202 : decode cX12_workPlain 202 = .ok (.goto 4, 3) := dk_167 (a := 0) (b := 4) (by decide +kernel) rfl
theorem dX12_workPlain_205 : decode cX12_workPlain 205 = .ok (.iconst 3, 1) := dk_6 (by decide +kernel)
theorem dX12_workPlain_206 : decode cX12_workPlain 206 = .ok (.istore 7, 2) := dk_54 (by decide +kernel)
theorem dX12_workPlain_208 : decode cX12_workPlain 208 = .ok (.aload_n 0, 1) := dk_42 (by decide +kernel)
theorem dX12_workPlain_209 : decode cX12_workPlain 209 = .ok (.iload_n 3, 1) := dk_29 (by decide +kernel)
theorem dX12_workPlain_210 : decode cX12_workPlain 210 = .ok (.iload 7, 2) := dk_21 (by decide +kernel)
theorem dX12_workPlain_212 : decode cX12_workPlain 212 = .ok (.aload_n 0, 1) := dk_42 (by decide +kernel)
theorem dX12_workPlain_213 : decode cX12_workPlain 213 = .ok (.iload 7, 2) := dk_21 (by decide +kernel)
theorem dX12_workPlain_215 : decode cX12_workPlain 215 = .ok (.iconst 0, 1) := dk_3 (by decide +kernel)
theorem dX12_workPlain_216 : decode cX12_workPlain 216 = .ok (.invokevirtual 225, 3) := dk_182 (a := 0) (b := 225) (by decide +kernel) rfl
theorem dX12_workPlain_219 : decode cX12_workPlain 219 = .ok (.invokevirtual 221, 3) := dk_182 (a := 0) (b := 221) (by decide +kernel) rfl
theorem dX12_workPlain_222 : decode cX12_workPlain 222 = .ok (.goto 80, 3) := dk_167 (a := 0) (b := 80) (by decide +kernel) rfl
theorem dX12_workPlain_225 : decode cX12_workPlain 225 = .ok (.aload_n 0, 1) := dk_42 (by decide +kernel)
theorem dX12_workPlain_226 : decode cX12_workPlain 226 = .ok (.iload_n 3, 1) := dk_29 (by decide +kernel)
theorem dX12_workPlain_227 : decode cX12_workPlain 227 = .ok (.iconst 0, 1) := dk_3 (by decide +kernel)
theorem dX12_workPlain_228 : decode cX12_workPlain 228 = .ok (.aload_n 0, 1) := dk_42 (by decide +kernel)
theorem dX12_workPlain_229 : decode cX12_workPlain 229 = .ok (.getfield 218, 3) := dk_180 (a := 0) (b := 218) (by decide +kernel) rfl
theorem dX12_workPlain_232 : decode cX12_workPlain 232 = .ok (.ifCond .eq 15, 3) := dk_153 (a := 0) (b := 15) (by decide +kernel) rfl
theorem dX12_workPlain_235 : decode cX12_workPlain 235 = .ok (.aload_n 0, 1) := dk_42 (by decide +kernel)
theorem dX12_workPlain_236 : decode cX12_workPlain 236 = .ok (.getfield 117, 3) := dk_180 (a := 0) (b := 117) (by decide +kernel) rfl
theorem dX12_workPlain_239 : decode cX12_workPlain 239 = .ok (.aload_n 0, 1) := dk_42 (by decide +kernel)
theorem dX12_workPlain_240 : decode cX12_workPlain 240 = .ok (.getfield 188, 3) := dk_180 (a := 0) (b := 188) (by decide +kernel) rfl
theorem dX12_workPlain_243 : decode cX12_workPlain 243 = .ok (.iaload, 1) := dk_46 (by decide +kernel)
theorem dX12_workPlain_244 : decode cX12_workPlain 244 = .ok (.goto 12, 3) := dk_167 (a := 0) (b := 12) (by decide +kernel) rfl
theorem dX12_workPlain_247 : decode cX12_workPlain 247 = .ok (.aload_n 0, 1) := dk_42 (by decide +kernel)
theorem dX12_workPlain_248 : decode cX12_workPlain 248 = .ok (.getfield 28, 3) := dk_180 (a := 0) (b := 28) (by decide +kernel) rfl
theorem dX12_workPlain_251 : decode cX12_workPlain 251 = .ok (.aload_n 0, 1) := dk_42 (by decide +kernel)
theorem dX12_workPlain_252 : decode cX12_workPlain 252 = .ok (.getfield 188, 3) := dk_180 (a := 0) (b := 188) (by decide +kernel) rfl
theorem dX12_workPlain_255 : decode cX12_workPlain 255 = .ok (.iaload, 1) := dk_46 (by decide +kernel)
theorem dX12_workPlain_256 : decode cX12_workPlain 256 = .ok (.invokevirtual 221, 3) := dk_182 (a := 0) (b := 221) (by decide +kernel) rfl
theorem dX12_workPlain_259 : decode cX12_workPlain 259 = .ok (.aload_n 0, 1) := dk_42 (by decide +kernel)
theorem dX12_workPlain_260 : decode cX12_workPlain 260 = .ok (.dup, 1) := dk_89 (by decide +kernel)
theorem dX12_workPlain_261 : decode cX12_workPlain 261 = .ok (.getfield 188, 3) := dk_180 (a := 0) (b := 188) (by decide +kernel) rfl
theorem dX12_workPlain_264 : decode cX12_workPlain 264 = .ok (.iconst 1, 1) := dk_4 (by decide +kernel)
theorem dX12_workPlain_265 : decode cX12_workPlain 265 = .ok (.iadd, 1) := dk_96 (by decide +kernel)
theorem dX12_workPlain_266 : decode cX12_workPlain 266 = .ok (.putfield 188, 3) := dk_181 (a := 0) (b := 188) (by decide +kernel) rfl
theorem dX12_workPlain_269 : decode cX12_workPlain 269 = .ok (.goto 33, 3) := dk_167 (a := 0) (b := 33) (by decide +kernel) rfl
theorem dX12_workPlain_272 : decode cX12_workPlain 272 = .ok (.aload_n 0, 1) := dk_42 (by decide +kernel)
theorem dX12_workPlain_273 : decode cX12_workPlain 273 = .ok (.getfield 46, 3) := dk_180 (a := 0) (b := 46) (by decide +kernel) rfl
theorem dX12_workPlain_276 : decode cX12_workPlain 276 = .ok (.iload 5, 2) := dk_21 (by decide +kernel)
theorem dX12_workPlain_278 : decode cX12_workPlain 278 = .ok (.iconst 4, 1) := dk_7 (by decide +kernel)
theorem dX12_workPlain_279 : decode cX12_workPlain 279 = .ok (.invokestatic 204, 3) := dk_184 (a := 0) (b := 204) (by decide +kernel) rfl
theorem dX12_workPlain_282 : decode cX12_workPlain 282 = .ok (.iconst 1, 1) := dk_4 (by decide +kernel)
theorem dX12_workPlain_283 : decode cX12_workPlain 283 = .ok (.bastore, 1) := dk_84 (by decide +kernel)
theorem dX12_workPlain_284 : decode cX12_workPlain 284 = .ok (.aload_n 0, 1) := dk_42 (by decide +kernel)
theorem dX12_workPlain_285 : decode cX12_workPlain 285 = .ok (.iconst 4, 1) := dk_7 (by decide +kernel)
theorem dX12_workPlain_286 : decode cX12_workPlain 286 = .ok (.putfield 234, 3) := dk_181 (a := 0) (b := 234) (by decide +kernel) rfl
theorem dX12_workPlain_289 : decode cX12_workPlain 289 = .ok (.aload_n 0, 1) := dk_42 (by decide +kernel)
theorem dX12_workPlain_290 : decode cX12_workPlain 290 = .ok (.iload 5, 2) := dk_21 (by decide +kernel)
theorem dX12_workPlain_292 : decode cX12_workPlain 292 = .ok (.iconst 4, 1) := dk_7 (by decide +kernel)
theorem dX12_workPlain_293 : decode cX12_workPlain 293 = .ok (.invokestatic 204, 3) := dk_184 (a := 0) (b := 204) (by decide +kernel) rfl
theorem dX12_workPlain_296 : decode cX12_workPlain 296 = .ok (.putfield 237, 3) := dk_181 (a := 0) (b := 237) (by decide +kernel) rfl
theorem dX12_workPlain_299 : decode cX12_workPlain 299 = .ok (.goto 3, 3) := dk_167 (a := 0) (b := 3) (by decide +kernel) rfl
theorem dX12_workPlain_302 : decode cX12_workPlain 302 = .ok (.return_, 1) := dk_177 (by decide +kernel)
theorem dX12_step_0 : decode cX12_step 0 = .ok (.bipush 24, 2) := dk_16 (a := 24) (by decide +kernel) rfl
theorem dX12_step_2 : decode cX12_step 2 = .ok (.iload_n 1, 1) := dk_27 (by decide +kernel)
theorem dX12_step_3 : decode cX12_step 3 = .ok (.imul, 1) := dk_104 (by decide +kernel)
theorem dX12_step_4 : decode cX12_step 4 = .ok (.aload_n 0, 1) := dk_42 (by decide +kernel)
theorem dX12_step_5 : decode cX12_step 5 = .ok (.getfield 43, 3) := dk_180 (a := 0) (b := 43) (by decide +kernel) rfl
theorem dX12_step_8 : decode cX12_step 8 = .ok (.iload_n 1, 1) := dk_27 (by decide +kernel)
theorem dX12_step_9 : decode cX12_step 9 = .ok (.iaload, 1) := dk_46 (by decide +kernel)
theorem dX12_step_10 : decode cX12_step 10 = .ok (.iadd, 1) := dk_96 (by decide +kernel)
theorem dX12_step_11 : decode cX12_step 11 = .ok (.istore_n 2, 1) := dk_61 (by decide +kernel)
theorem dX12_step_12 : decode cX12_step 12 = .ok (.aload_n 0, 1) := dk_42 (by decide +kernel)
theorem dX12_step_13 : decode cX12_step 13 = .ok (.aload_n 0, 1) := dk_42 (by decide +kernel)
theorem dX12_step_14 : decode cX12_step 14 = .ok (.getfield 43, 3) := dk_180 (a := 0) (b := 43) (by decide +kernel) rfl
theorem dX12_step_17 : decode cX12_step 17 = .ok (.iload_n 1, 1) := dk_27 (by decide +kernel)
theorem dX12_step_18 : decode cX12_step 18 = .ok (.iaload, 1) := dk_46 (by decide +kernel)
theorem dX12_step_19 : decode cX12_step 19 = .ok (.putfield 240, 3) := dk_181 (a := 0) (b := 240) (by decide +kernel) rfl
theorem dX12_step_22 : decode cX12_step 22 = .ok (.aload_n 0, 1) := dk_42 (by decide +kernel)
theorem dX12_step_23 : decode cX12_step 23 = .ok (.aload_n 0, 1) := dk_42 (by decide +kernel)
theorem dX12_step_24 : decode cX12_step 24 = .ok (.getfield 13, 3) := dk_180 (a := 0) (b := 13) (by decide +kernel) rfl
theorem dX12_step_27 : decode cX12_step 27 = .ok (.iload_n 2, 1) := dk_28 (by decide +kernel)
theorem dX12_step_28 : decode cX12_step 28 = .ok (.iaload, 1) := dk_46 (by decide +kernel)
theorem dX12_step_29 : decode cX12_step 29 = .ok (.putfield 243, 3) := dk_181 (a := 0) (b := 243) (by decide +kernel) rfl
theorem dX12_step_32 : decode cX12_step 32 = .ok (.aload_n 0, 1) := dk_42 (by decide +kernel)
theorem dX12_step_33 : decode cX12_step 33 = .ok (.bipush (-2), 2) := dk_16 (a := 254) (by decide +kernel) rfl
theorem dX12_step_35 : decode cX12_step 35 = .ok (.putfield 228, 3) := dk_181 (a := 0) (b := 228) (by decide +kernel) rfl
theorem dX12_step_38 : decode cX12_step 38 = .ok (.aload_n 0, 1) := dk_42 (by decide +kernel)
theorem dX12_step_39 : decode cX12_step 39 = .ok (.bipush (-2), 2) := dk_16 (a := 254) (by decide +kernel) rfl
theorem dX12_step_41 : decode cX12_step 41 = .ok (.putfield 231, 3) := dk_181 (a := 0) (b := 231) (by decide +kernel) rfl
theorem dX12_step_44 : decode cX12_step 44 = .ok (.aload_n 0, 1) := dk_42 (by decide +kernel)
theorem dX12_step_45 : decode cX12_step 45 = .ok (.iconst 0, 1) := dk_3 (by decide +kernel)
theorem dX12_step_46 : decode cX12_step 46 = .ok (.putfield 234, 3) := dk_181 (a := 0) (b := 234) (by decide +kernel) rfl
theorem dX12_step_49 : decode cX12_step 49 = .ok (.aload_n 0, 1) := dk_42 (by decide +kernel)
theorem dX12_step_50 : decode cX12_step 50 = .ok (.iconst (-1), 1) := dk_2 (by decide +kernel)
theorem dX12_step_51 : decode cX12_step 51 = .ok (.putfield 237, 3) := dk_181 (a := 0) (b := 237) (by decide +kernel) rfl
theorem dX12_step_54 : decode cX12_step 54 = .ok (.aload_n 0, 1) := dk_42 (by decide +kernel)
theorem dX12_step_55 : decode cX12_step 55 = .ok (.getfield 53, 3) := dk_180 (a := 0) (b := 53) (by decide +kernel) rfl
theorem dX12_step_58 : decode cX12_step 58 = .ok (.iload_n 1, 1) := dk_27 (by decide +kernel)
theorem dX12_step_59 : decode cX12_step 59 = .ok (.iaload, 1) := dk_46 (by decide +kernel)
theorem dX12_step_60 : decode cX12_step 60 = .ok (.ifCond .lt 53, 3) := dk_155 (a := 0) (b := 53) (by decide +kernel) rfl
theorem dX12_step_63 : decode cX12_step 63 = .ok (.aload_n 0, 1) := dk_42 (by decide +kernel)
theorem dX12_step_64 : decode cX12_step 64 = .ok (.getfield 59, 3) := dk_180 (a := 0) (b := 59) (by decide +kernel) rfl
theorem dX12_step_67 : decode cX12_step 67 = .ok (.aload_n 0, 1) := dk_42 (by decide +kernel)
theorem dX12_step_68 : decode cX12_step 68 = .ok (.getfield 53, 3) := dk_180 (a := 0) (b := 53) (by decide +kernel) rfl
theorem dX12_step_71 : decode cX12_step 71 = .ok (.iload_n 1, 1) := dk_27 (by decide +kernel)
theorem dX12_step_72 : decode cX12_step 72 = .ok (.iaload, 1) := dk_46 (by decide +kernel)
theorem dX12_step_73 : decode cX12_step 73 = .ok (.iload_n 1, 1) := dk_27 (by decide +kernel)
theorem dX12_step_74 : decode cX12_step 74 = .ok (.iastore, 1) := dk_79 (by decide +kernel)
theorem dX12_step_75 : decode cX12_step 75 = .ok (.aload_n 0, 1) := dk_42 (by decide +kernel)
theorem dX12_step_76 : decode cX12_step 76 = .ok (.iconst 1, 1) := dk_4 (by decide +kernel)
theorem dX12_step_77 : decode cX12_step 77 = .ok (.putfield 234, 3) := dk_181 (a := 0) (b := 234) (by decide +kernel) rfl
theorem dX12_step_80 : decode cX12_step 80 = .ok (.aload_n 0, 1) := dk_42 (by decide +kernel)
theorem dX12_step_81 : decode cX12_step 81 = .ok (.aload_n 0, 1) := dk_42 (by decide +kernel)
theorem dX12_step_82 : decode cX12_step 82 = .ok (.getfield 53, 3) := dk_180 (a := 0) (b := 53) (by decide +kernel) rfl
theorem dX12_step_85 : decode cX12_step 85 = .ok (.iload_n 1, 1) := dk_27 (by decide +kernel)
theorem dX12_step_86 : decode cX12_step 86 = .ok (.iaload, 1) := dk_46 (by decide +kernel)
theorem dX12_step_87 : decode cX12_step 87 = .ok (.putfield 237, 3) := dk_181 (a := 0) (b := 237) (by decide +kernel) rfl
theorem dX12_step_90 : decode cX12_step 90 = .ok (.aload_n 0, 1) := dk_42 (by decide +kernel)
theorem dX12_step_91 : decode cX12_step 91 = .ok (.getfield 53, 3) := dk_180 (a := 0) (b := 53) (by decide +kernel) rfl
theorem dX12_step_94 : decode cX12_step 94 = .ok (.iload_n 1, 1) := dk_27 (by decide +kernel)
theorem dX12_step_95 : decode cX12_step 95 = .ok (.iconst (-1), 1) := dk_2 (by decide +kernel)
theorem dX12_step_96 : decode cX12_step 96 = .ok (.iastore, 1) := dk_79 (by decide +kernel)
theorem dX12_step_97 : decode cX12_step 97 = .ok (.aload_n 0, 1) := dk_42 (by decide +kernel)
theorem dX12_step_98 : decode cX12_step 98 = .ok (.iload_n 1, 1) := dk_27 (by decide +kernel)
theorem dX12_step_99 : decode cX12_step 99 = .ok (.aload_n 0, 1) := dk_42 (by decide +kernel)
theorem dX12_step_100 : decode cX12_step 100 = .ok (.getfield 43, 3) := dk_180 (a := 0) (b := 43) (by decide +kernel) rfl
theorem dX12_step_103 : decode cX12_step 103 = .ok (.iload_n 1, 1) := dk_27 (by decide +kernel)
theorem dX12_step_104 : decode cX12_step 104 = .ok (.iaload, 1) := dk_46 (by decide +kernel)
theorem dX12_step_105 : decode cX12_step 105 = .ok (.iconst 1, 1) := dk_4 (by decide +kernel)
theorem dX12_step_106 : decode cX12_step 106 = .ok (.iadd, 1) := dk_96 (by decide +kernel)
theorem dX12_step_107 : decode cX12_step 107 = .ok (.invokevirtual 246, 3) := dk_182 (a := 0) (b := 246) (by decide +kernel) rfl
theorem dX12_step_110 : decode cX12_step 110 = .ok (.goto 44, 3) := dk_167 (a := 0) (b := 44) (by decide +kernel) rfl
theorem dX12_step_113 : decode cX12_step 113 = .ok (.aload_n 0, 1) := dk_42 (by decide +kernel)
theorem dX12_step_114 : decode cX12_step 114 = .ok (.getfield 13, 3) := dk_180 (a := 0) (b := 13) (by decide +kernel) rfl
theorem dX12_step_117 : decode cX12_step 117 = .ok (.iload_n 2, 1) := dk_28 (by decide +kernel)
theorem dX12_step_118 : decode cX12_step 118 = .ok (.iaload, 1) := dk_46 (by decide +kernel)
theorem dX12_step_119 : decode cX12_step 119 = .ok (.bipush 16, 2) := dk_16 (a := 16) (by decide +kernel) rfl
theorem dX12_step_121 : decode cX12_step 121 = .ok (.if_icmp .ne 27, 3) := dk_160 (a := 0) (b := 27) (by decide +kernel) rfl
theorem dX12_step_124 : decode cX12_step 124 = .ok (.aload_n 0, 1) := dk_42 (by decide +kernel)
theorem dX12_step_125 : decode cX12_step 125 = .ok (.getfield 218, 3) := dk_180 (a := 0) (b := 218) (by decide +kernel) rfl
theorem dX12_step_128 : decode cX12_step 128 = .ok (.ifCond .eq 20, 3) := dk_153 (a := 0) (b := 20) (by decide +kernel) rfl
theorem dX12_step_131 : decode cX12_step 131 = .ok (.aload_n 0, 1) := dk_42 (by decide +kernel)
theorem dX12_step_132 : decode cX12_step 132 = .ok (.getfield 188, 3) := dk_180 (a := 0) (b := 188) (by decide +kernel) rfl
theorem dX12_step_135 : decode cX12_step 135 = .ok (.aload_n 0, 1) := dk_42 (by decide +kernel)
theorem dX12_step_136 : decode cX12_step 136 = .ok (.getfield 250, 3) := dk_180 (a := 0) (b := 250) (by decide +kernel) rfl
theorem dX12_step_139 : decode cX12_step 139 = .ok (.if_icmp .ne 9, 3) := dk_160 (a := 0) (b := 9) (by decide +kernel) rfl
theorem dX12_step_142 : decode cX12_step 142 = .ok (.aload_n 0, 1) := dk_42 (by decide +kernel)
theorem dX12_step_143 : decode cX12_step 143 = .ok (.iconst 1, 1) := dk_4 (by decide +kernel)
theorem dX12_step_144 : decode cX12_step 144 = .ok (.putfield 200, 3) := dk_181 (a := 0) (b := 200) (by decide +kernel) rfl
theorem dX12_step_147 : decode cX12_step 147 = .ok (.return_, 1) := dk_177 (by decide +kernel)
theorem dX12_step_148 : decode cX12_step 148 = .ok (.aload_n 0, 1) := dk_42 (by decide +kernel)
theorem dX12_step_149 : decode cX12_step 149 = .ok (.iload_n 1, 1) := dk_27 (by decide +kernel)
theorem dX12_step_150 : decode cX12_step 150 = .ok (.iload_n 2, 1) := dk_28 (by decide +kernel)
theorem dX12_step_151 : decode cX12_step 151 = .ok (.invokevirtual 253, 3) := dk_182 (a := 0) (b := 253) (by decide +kernel) rfl
theorem dX12_step_154 : decode cX12_step 154 = .ok (.aload_n 0, 1) := dk_42 (by decide +kernel)
theorem dX12_step_155 : decode cX12_step 155 = .ok (.dup, 1) := dk_89 (by decide +kernel)
theorem dX12_step_156 : decode cX12_step 156 = .ok (.getfield 191, 3) := dk_180 (a := 0) (b := 191) (by decide +kernel) rfl
theorem dX12_step_159 : decode cX12_step 159 = .ok (.iconst 1, 1) := dk_4 (by decide +kernel)
theorem dX12_step_160 : decode cX12_step 160 = .ok (.iadd, 1) := dk_96 (by decide +kernel)
theorem dX12_step_161 : decode cX12_step 161 = .ok (.putfield 191, 3) := dk_181 (a := 0) (b := 191) (by decide +kernel) rfl
theorem dX12_step_164 : decode cX12_step 164 = .ok (.aload_n 0, 1) := dk_42 (by decide +kernel)
theorem dX12_step_165 : decode cX12_step 165 = .ok (.iload_n 1, 1) := dk_27 (by decide +kernel)
theorem dX12_step_166 : decode cX12_step 166 = .ok (.putfield 197, 3) := dk_181 (a := 0) (b := 197) (by decide +kernel) rfl
theorem dX12_step_169 : decode cX12_step 169 = .ok (.return_, 1) := dk_177 (by decide +kernel)
theorem dX12_instruct_0 : decode cX12_instruct 0 = .ok (.aload_n 0, 1) := dk_42 (by decide +kernel)
theorem dX12_instruct_1 : decode cX12_instruct 1 = .ok (.iload_n 1, 1) := dk_27 (by decide +kernel)
theorem dX12_instruct_2 : decode cX12_instruct 2 = .ok (.aload_n 0, 1) := dk_42 (by decide +kernel)
theorem dX12_instruct_3 : decode cX12_instruct 3 = .ok (.getfield 16, 3) := dk_180 (a := 0) (b := 16) (by decide +kernel) rfl
theorem dX12_instruct_6 : decode cX12_instruct 6 = .ok (.iload_n 2, 1) := dk_28 (by decide +kernel)
theorem dX12_instruct_7 : decode cX12_instruct 7 = .ok (.iaload, 1) := dk_46 (by decide +kernel)
theorem dX12_instruct_8 : decode cX12_instruct 8 = .ok (.invokevirtual 208, 3) := dk_182 (a := 0) (b := 208) (by decide +kernel) rfl
theorem dX12_instruct_11 : decode cX12_instruct 11 = .ok (.istore_n 3, 1) := dk_62 (by decide +kernel)
theorem dX12_instruct_12 : decode cX12_instruct 12 = .ok (.aload_n 0, 1) := dk_42 (by decide +kernel)
theorem dX12_instruct_13 : decode cX12_instruct 13 = .ok (.iload_n 1, 1) := dk_27 (by decide +kernel)
theorem dX12_instruct_14 : decode cX12_instruct 14 = .ok (.aload_n 0, 1) := dk_42 (by decide +kernel)
theorem dX12_instruct_15 : decode cX12_instruct 15 = .ok (.getfield 19, 3) := dk_180 (a := 0) (b := 19) (by decide +kernel) rfl
theorem dX12_instruct_18 : decode cX12_instruct 18 = .ok (.iload_n 2, 1) := dk_28 (by decide +kernel)
theorem dX12_instruct_19 : decode cX12_instruct 19 = .ok (.iaload, 1) := dk_46 (by decide +kernel)
theorem dX12_instruct_20 : decode cX12_instruct 20 = .ok (.invokevirtual 208, 3) := dk_182 (a := 0) (b := 208) (by decide +kernel) rfl
theorem dX12_instruct_23 : decode cX12_instruct 23 = .ok (.istore 4, 2) := dk_54 (by decide +kernel)
theorem dX12_instruct_25 : decode cX12_instruct 25 = .ok (.aload_n 0, 1) := dk_42 (by decide +kernel)
theorem dX12_instruct_26 : decode cX12_instruct 26 = .ok (.iload_n 1, 1) := dk_27 (by decide +kernel)
theorem dX12_instruct_27 : decode cX12_instruct 27 = .ok (.aload_n 0, 1) := dk_42 (by decide +kernel)
theorem dX12_instruct_28 : decode cX12_instruct 28 = .ok (.getfield 22, 3) := dk_180 (a := 0) (b := 22) (by decide +kernel) rfl
theorem dX12_instruct_31 : decode cX12_instruct 31 = .ok (.iload_n 2, 1) := dk_28 (by decide +kernel)
theorem dX12_instruct_32 : decode cX12_instruct 32 = .ok (.iaload, 1) := dk_46 (by decide +kernel)
theorem dX12_instruct_33 : decode cX12_instruct 33 = .ok (.invokevirtual 208, 3) := dk_182 (a := 0) (b := 208) (by decide +kernel) rfl
theorem dX12_instruct_36 : decode cX12_instruct 36 = .ok (.istore 5, 2) := dk_54 (by decide +kernel)
theorem dX12_instruct_38 : decode cX12_instruct 38 = .ok (.aload_n 0, 1) := dk_42 (by decide +kernel)
theorem dX12_instruct_39 : decode cX12_instruct 39 = .ok (.aload_n 0, 1) := dk_42 (by decide +kernel)
theorem dX12_instruct_40 : decode cX12_instruct 40 = .ok (.iload_n 1, 1) := dk_27 (by decide +kernel)
theorem dX12_instruct_41 : decode cX12_instruct 41 = .ok (.aload_n 0, 1) := dk_42 (by decide +kernel)
theorem dX12_instruct_42 : decode cX12_instruct 42 = .ok (.getfield 13, 3) := dk_180 (a := 0) (b := 13) (by decide +kernel) rfl
theorem dX12_instruct_45 : decode cX12_instruct 45 = .ok (.iload_n 2, 1) := dk_28 (by decide +kernel)
theorem dX12_instruct_46 : decode cX12_instruct 46 = .ok (.iaload, 1) := dk_46 (by decide +kernel)
theorem dX12_instruct_47 : decode cX12_instruct 47 = .ok (.iload_n 3, 1) := dk_29 (by decide +kernel)
theorem dX12_instruct_48 : decode cX12_instruct 48 = .ok (.iload 4, 2) := dk_21 (by decide +kernel)
theorem dX12_instruct_50 : decode cX12_instruct 50 = .ok (.iload 5, 2) := dk_21 (by decide +kernel)
theorem dX12_instruct_52 : decode cX12_instruct 52 = .ok (.aload_n 0, 1) := dk_42 (by decide +kernel)
theorem dX12_instruct_53 : decode cX12_instruct 53 = .ok (.getfield 19, 3) := dk_180 (a := 0) (b := 19) (by decide +kernel) rfl
theorem dX12_instruct_56 : decode cX12_instruct 56 = .ok (.iload_n 2, 1) := dk_28 (by decide +kernel)
theorem dX12_instruct_57 : decode cX12_instruct 57 = .ok (.iaload, 1) := dk_46 (by decide +kernel)
theorem dX12_instruct_58 : decode cX12_instruct 58 = .ok (.invokevirtual 256, 3) := dk_182 (a := 1) (b := 0) (by decide +kernel) rfl
theorem dX12_instruct_61 : decode cX12_instruct 61 = .ok (.putfield 194, 3) := dk_181 (a := 0) (b := 194) (by decide +kernel) rfl
theorem dX12_instruct_64 : decode cX12_instruct 64 = .ok (.aload_n 0, 1) := dk_42 (by decide +kernel)
theorem dX12_instruct_65 : decode cX12_instruct 65 = .ok (.aload_n 0, 1) := dk_42 (by decide +kernel)
theorem dX12_instruct_66 : decode cX12_instruct 66 = .ok (.getfield 13, 3) := dk_180 (a := 0) (b := 13) (by decide +kernel) rfl
theorem dX12_instruct_69 : decode cX12_instruct 69 = .ok (.iload_n 2, 1) := dk_28 (by decide +kernel)
theorem dX12_instruct_70 : decode cX12_instruct 70 = .ok (.iaload, 1) := dk_46 (by decide +kernel)
theorem dX12_instruct_71 : decode cX12_instruct 71 = .ok (.bipush 17, 2) := dk_16 (a := 17) (by decide +kernel) rfl
theorem dX12_instruct_73 : decode cX12_instruct 73 = .ok (.if_icmp .ne 25, 3) := dk_160 (a := 0) (b := 25) (by decide +kernel) rfl
theorem dX12_instruct_76 : decode cX12_instruct 76 = .ok (.aload_n 0, 1) := dk_42 (by decide +kernel)
theorem dX12_instruct_77 : decode cX12_instruct 77 = .ok (.getfield 46, 3) := dk_180 (a := 0) (b := 46) (by decide +kernel) rfl
theorem dX12_instruct_80 : decode cX12_instruct 80 = .ok (.aload_n 0, 1) := dk_42 (by decide +kernel)
theorem dX12_instruct_81 : decode cX12_instruct 81 = .ok (.getfield 16, 3) := dk_180 (a := 0) (b := 16) (by decide +kernel) rfl
theorem dX12_instruct_84 : decode cX12_instruct 84 = .ok (.iload_n 2, 1) := dk_28 (by decide +kernel)
theorem dX12_instruct_85 : decode cX12_instruct 85 = .ok (.iaload, 1) := dk_46 (by decide +kernel)
theorem dX12_instruct_86 : decode cX12_instruct 86 = .ok (.iconst 4, 1) := dk_7 (by decide +kernel)
theorem dX12_instruct_87 : decode cX12_instruct 87 = .ok (.invokestatic 204, 3) := dk_184 (a := 0) (b := 204) (by decide +kernel) rfl
theorem dX12_instruct_90 : decode cX12_instruct 90 = .ok (.baload, 1) := dk_51 (by decide +kernel)
theorem dX12_instruct_91 : decode cX12_instruct 91 = .ok (.ifCond .eq 7, 3) := dk_153 (a := 0) (b := 7) (by decide +kernel) rfl
theorem dX12_instruct_94 : decode cX12_instruct 94 = .ok (.iconst 5, 1) := dk_8 (by decide +kernel)
theorem dX12_instruct_95 : decode cX12_instruct 95 = .ok (.goto 7, 3) := dk_167 (a := 0) (b := 7) (by decide +kernel) rfl
theorem dX12_instruct_98 : decode cX12_instruct 98 = .ok (.aload_n 0, 1) := dk_42 (by decide +kernel)
theorem dX12_instruct_99 : decode cX12_instruct 99 = .ok (.getfield 194, 3) := dk_180 (a := 0) (b := 194) (by decide +kernel) rfl
theorem dX12_instruct_102 : decode cX12_instruct 102 = .ok (.putfield 194, 3) := dk_181 (a := 0) (b := 194) (by decide +kernel) rfl
theorem dX12_instruct_105 : decode cX12_instruct 105 = .ok (.aload_n 0, 1) := dk_42 (by decide +kernel)
theorem dX12_instruct_106 : decode cX12_instruct 106 = .ok (.getfield 194, 3) := dk_180 (a := 0) (b := 194) (by decide +kernel) rfl
theorem dX12_instruct_109 : decode cX12_instruct 109 = .ok (.ifCond .le 4, 3) := dk_158 (a := 0) (b := 4) (by decide +kernel) rfl
theorem dX12_instruct_112 : decode cX12_instruct 112 = .ok (.return_, 1) := dk_177 (by decide +kernel)
theorem dX12_instruct_113 : decode cX12_instruct 113 = .ok (.aload_n 0, 1) := dk_42 (by decide +kernel)
theorem dX12_instruct_114 : decode cX12_instruct 114 = .ok (.getfield 13, 3) := dk_180 (a := 0) (b := 13) (by decide +kernel) rfl
theorem dX12_instruct_117 : decode cX12_instruct 117 = .ok (.iload_n 2, 1) := dk_28 (by decide +kernel)
theorem dX12_instruct_118 : decode cX12_instruct 118 = .ok (.iaload, 1) := dk_46 (by decide +kernel)
theorem dX12_instruct_119 : decode cX12_instruct 119 = .ok (.bipush 6, 2) := dk_16 (a := 6) (by decide +kernel) rfl
theorem dX12_instruct_121 : decode cX12_instruct 121 = .ok (.if_icmp .eq 23, 3) := dk_159 (a := 0) (b := 23) (by decide +kernel) rfl
theorem dX12_instruct_124 : decode cX12_instruct 124 = .ok (.aload_n 0, 1) := dk_42 (by decide +kernel)
theorem dX12_instruct_125 : decode cX12_instruct 125 = .ok (.getfield 13, 3) := dk_180 (a := 0) (b := 13) (by decide +kernel) rfl
theorem dX12_instruct_128 : decode cX12_instruct 128 = .ok (.iload_n 2, 1) := dk_28 (by decide +kernel)
theorem dX12_instruct_129 : decode cX12_instruct 129 = .ok (.iaload, 1) := dk_46 (by decide +kernel)
theorem dX12_instruct_130 : decode cX12_instruct 130 = .ok (.bipush 7, 2) := dk_16 (a := 7) (by decide +kernel) rfl
theorem dX12_instruct_132 : decode cX12_instruct 132 = .ok (.if_icmp .ne 16, 3) := dk_160 (a := 0) (b := 16) (by decide +kernel) rfl
theorem dX12_instruct_135 : decode cX12_instruct 135 = .ok (.aload_n 0, 1) := dk_42 (by decide +kernel)
theorem dX12_instruct_136 : decode cX12_instruct 136 = .ok (.getfield 40, 3) := dk_180 (a := 0) (b := 40) (by decide +kernel) rfl
theorem dX12_instruct_139 : decode cX12_instruct 139 = .ok (.iload_n 3, 1) := dk_29 (by decide +kernel)
theorem dX12_instruct_140 : decode cX12_instruct 140 = .ok (.iaload, 1) := dk_46 (by decide +kernel)
theorem dX12_instruct_141 : decode cX12_instruct 141 = .ok (.ifCond .ne 7, 3) := dk_154 (a := 0) (b := 7) (by decide +kernel) rfl
theorem dX12_instruct_144 : decode cX12_instruct 144 = .ok (.iconst 1, 1) := dk_4 (by decide +kernel)
theorem dX12_instruct_145 : decode cX12_instruct 145 = .ok (.goto 4, 3) := dk_167 (a := 0) (b := 4) (by decide +kernel) rfl
theorem dX12_instruct_148 : decode cX12_instruct 148 = .ok (.iconst 0, 1) := dk_3 (by decide +kernel)
theorem dX12_instruct_149 : decode cX12_instruct 149 = .ok (.istore 6, 2) := dk_54 (by decide +kernel)
theorem dX12_instruct_151 : decode cX12_instruct 151 = .ok (.aload_n 0, 1) := dk_42 (by decide +kernel)
theorem dX12_instruct_152 : decode cX12_instruct 152 = .ok (.getfield 13, 3) := dk_180 (a := 0) (b := 13) (by decide +kernel) rfl
theorem dX12_instruct_155 : decode cX12_instruct 155 = .ok (.iload_n 2, 1) := dk_28 (by decide +kernel)
theorem dX12_instruct_156 : decode cX12_instruct 156 = .ok (.iaload, 1) := dk_46 (by decide +kernel)
theorem dX12_instruct_157 : decode cX12_instruct 157 = .ok (.bipush 6, 2) := dk_16 (a := 6) (by decide +kernel) rfl
theorem dX12_instruct_159 : decode cX12_instruct 159 = .ok (.if_icmp .ne 12, 3) := dk_160 (a := 0) (b := 12) (by decide +kernel) rfl
theorem dX12_instruct_162 : decode cX12_instruct 162 = .ok (.aload_n 0, 1) := dk_42 (by decide +kernel)
theorem dX12_instruct_163 : decode cX12_instruct 163 = .ok (.getfield 16, 3) := dk_180 (a := 0) (b := 16) (by decide +kernel) rfl
theorem dX12_instruct_166 : decode cX12_instruct 166 = .ok (.iload_n 2, 1) := dk_28 (by decide +kernel)
theorem dX12_instruct_167 : decode cX12_instruct 167 = .ok (.iaload, 1) := dk_46 (by decide +kernel)
theorem dX12_instruct_168 : decode cX12_instruct 168 = .ok (.goto 9, 3) := dk_167 (a := 0) (b := 9) (by decide +kernel) rfl
theorem dX12_instruct_171 : decode cX12_instruct 171 = .ok (.aload_n 0, 1) := dk_42 (by decide +kernel)
theorem dX12_instruct_172 : decode cX12_instruct 172 = .ok (.getfield 19, 3) := dk_180 (a := 0) (b := 19) (by decide +kernel) rfl
theorem dX12_instruct_175 : decode cX12_instruct 175 = .ok (.iload_n 2, 1) := dk_28 (by decide +kernel)
theorem dX12_instruct_176 : decode cX12_instruct 176 = .ok (.iaload, 1) := dk_46 (by decide +kernel)
theorem dX12_instruct_177 : decode cX12_instruct 177 = .ok (.istore 7, 2) := dk_54 (by decide +kernel)
theorem dX12_instruct_179 : decode cX12_instruct 179 = .ok (.aload_n 0, 1) := dk_42 (by decide +kernel)
theorem dX12_instruct_180 : decode cX12_instruct 180 = .ok (.iload_n 1, 1) := dk_27 (by decide +kernel)
theorem dX12_instruct_181 : decode cX12_instruct 181 = .ok (.aload_n 0, 1) := dk_42 (by decide +kernel)
theorem dX12_instruct_182 : decode cX12_instruct 182 = .ok (.getfield 13, 3) := dk_180 (a := 0) (b := 13) (by decide +kernel) rfl
theorem dX12_instruct_185 : decode cX12_instruct 185 = .ok (.iload_n 2, 1) := dk_28 (by decide +kernel)
theorem dX12_instruct_186 : decode cX12_instruct 186 = .ok (.iaload, 1) := dk_46 (by decide +kernel)
theorem dX12_instruct_187 : decode cX12_instruct 187 = .ok (.iload_n 3, 1) := dk_29 (by decide +kernel)
theorem dX12_instruct_188 : decode cX12_instruct 188 = .ok (.iload 4, 2) := dk_21 (by decide +kernel)
theorem dX12_instruct_190 : decode cX12_instruct 190 = .ok (.iload 5, 2) := dk_21 (by decide +kernel)
theorem dX12_instruct_192 : decode cX12_instruct 192 = .ok (.invokevirtual 260, 3) := dk_182 (a := 1) (b := 4) (by decide +kernel) rfl
theorem dX12_instruct_195 : decode cX12_instruct 195 = .ok (.aload_n 0, 1) := dk_42 (by decide +kernel)
theorem dX12_instruct_196 : decode cX12_instruct 196 = .ok (.iload_n 1, 1) := dk_27 (by decide +kernel)
theorem dX12_instruct_197 : decode cX12_instruct 197 = .ok (.iload_n 2, 1) := dk_28 (by decide +kernel)
theorem dX12_instruct_198 : decode cX12_instruct 198 = .ok (.iload_n 3, 1) := dk_29 (by decide +kernel)
theorem dX12_instruct_199 : decode cX12_instruct 199 = .ok (.iload 4, 2) := dk_21 (by decide +kernel)
theorem dX12_instruct_201 : decode cX12_instruct 201 = .ok (.invokevirtual 264, 3) := dk_182 (a := 1) (b := 8) (by decide +kernel) rfl
theorem dX12_instruct_204 : decode cX12_instruct 204 = .ok (.aload_n 0, 1) := dk_42 (by decide +kernel)
theorem dX12_instruct_205 : decode cX12_instruct 205 = .ok (.getfield 13, 3) := dk_180 (a := 0) (b := 13) (by decide +kernel) rfl
theorem dX12_instruct_208 : decode cX12_instruct 208 = .ok (.iload_n 2, 1) := dk_28 (by decide +kernel)
theorem dX12_instruct_209 : decode cX12_instruct 209 = .ok (.iaload, 1) := dk_46 (by decide +kernel)
theorem dX12_instruct_210 : decode cX12_instruct 210 = .ok (.bipush 14, 2) := dk_16 (a := 14) (by decide +kernel) rfl
theorem dX12_instruct_212 : decode cX12_instruct 212 = .ok (.if_icmp .eq 42, 3) := dk_159 (a := 0) (b := 42) (by decide +kernel) rfl
theorem dX12_instruct_215 : decode cX12_instruct 215 = .ok (.aload_n 0, 1) := dk_42 (by decide +kernel)
theorem dX12_instruct_216 : decode cX12_instruct 216 = .ok (.iload_n 1, 1) := dk_27 (by decide +kernel)
theorem dX12_instruct_217 : decode cX12_instruct 217 = .ok (.aload_n 0, 1) := dk_42 (by decide +kernel)
theorem dX12_instruct_218 : decode cX12_instruct 218 = .ok (.getfield 13, 3) := dk_180 (a := 0) (b := 13) (by decide +kernel) rfl
theorem dX12_instruct_221 : decode cX12_instruct 221 = .ok (.iload_n 2, 1) := dk_28 (by decide +kernel)
theorem dX12_instruct_222 : decode cX12_instruct 222 = .ok (.iaload, 1) := dk_46 (by decide +kernel)
theorem dX12_instruct_223 : decode cX12_instruct 223 = .ok (.bipush 19, 2) := dk_16 (a := 19) (by decide +kernel) rfl
theorem dX12_instruct_225 : decode cX12_instruct 225 = .ok (.if_icmp .ne 8, 3) := dk_160 (a := 0) (b := 8) (by decide +kernel) rfl
theorem dX12_instruct_228 : decode cX12_instruct 228 = .ok (.bipush 24, 2) := dk_16 (a := 24) (by decide +kernel) rfl
theorem dX12_instruct_230 : decode cX12_instruct 230 = .ok (.goto 21, 3) := dk_167 (a := 0) (b := 21) (by decide +kernel) rfl
theorem dX12_instruct_233 : decode cX12_instruct 233 = .ok (.iload 6, 2) := dk_21 (by decide +kernel)
theorem dX12_instruct_235 : decode cX12_instruct 235 = .ok (.ifCond .eq 8, 3) := dk_153 (a := 0) (b := 8) (by decide +kernel) rfl
theorem dX12_instruct_238 : decode cX12_instruct 238 = .ok (.iload 7, 2) := dk_21 (by decide +kernel)
theorem dX12_instruct_240 : decode cX12_instruct 240 = .ok (.goto 11, 3) := dk_167 (a := 0) (b := 11) (by decide +kernel) rfl
theorem dX12_instruct_243 : decode cX12_instruct 243 = .ok (.aload_n 0, 1) := dk_42 (by decide +kernel)
theorem dX12_instruct_244 : decode cX12_instruct 244 = .ok (.getfield 43, 3) := dk_180 (a := 0) (b := 43) (by decide +kernel) rfl
theorem dX12_instruct_247 : decode cX12_instruct 247 = .ok (.iload_n 1, 1) := dk_27 (by decide +kernel)
theorem dX12_instruct_248 : decode cX12_instruct 248 = .ok (.iaload, 1) := dk_46 (by decide +kernel)
theorem dX12_instruct_249 : decode cX12_instruct 249 = .ok (.iconst 1, 1) := dk_4 (by decide +kernel)
theorem dX12_instruct_250 : decode cX12_instruct 250 = .ok (.iadd, 1) := dk_96 (by decide +kernel)
theorem dX12_instruct_251 : decode cX12_instruct 251 = .ok (.invokevirtual 246, 3) := dk_182 (a := 0) (b := 246) (by decide +kernel) rfl
theorem dX12_instruct_254 : decode cX12_instruct 254 = .ok (.return_, 1) := dk_177 (by decide +kernel)
theorem dX12_free_0 : decode cX12_free 0 = .ok (.aload_n 0, 1) := dk_42 (by decide +kernel)
theorem dX12_free_1 : decode cX12_free 1 = .ok (.iload_n 1, 1) := dk_27 (by decide +kernel)
theorem dX12_free_2 : decode cX12_free 2 = .ok (.invokevirtual 215, 3) := dk_182 (a := 0) (b := 215) (by decide +kernel) rfl
theorem dX12_free_5 : decode cX12_free 5 = .ok (.ifCond .eq 5, 3) := dk_153 (a := 0) (b := 5) (by decide +kernel) rfl
theorem dX12_free_8 : decode cX12_free 8 = .ok (.iload_n 1, 1) := dk_27 (by decide +kernel)
theorem dX12_free_9 : decode cX12_free 9 = .ok (.ireturn, 1) := dk_172 (by decide +kernel)
theorem dX12_free_10 : decode cX12_free 10 = .ok (.iconst 0, 1) := dk_3 (by decide +kernel)
theorem dX12_free_11 : decode cX12_free 11 = .ok (.istore_n 2, 1) := dk_61 (by decide +kernel)
theorem dX12_free_12 : decode cX12_free 12 = .ok (.iload_n 2, 1) := dk_28 (by decide +kernel)
theorem dX12_free_13 : decode cX12_free 13 = .ok (.iconst 4, 1) := dk_7 (by decide +kernel)
theorem dX12_free_14 : decode cX12_free 14 = .ok (.if_icmp .ge 19, 3) := dk_162 (a := 0) (b := 19) (by decide +kernel) rfl
theorem dX12_free_17 : decode cX12_free 17 = .ok (.aload_n 0, 1) := dk_42 (by decide +kernel)
theorem dX12_free_18 : decode cX12_free 18 = .ok (.iload_n 2, 1) := dk_28 (by decide +kernel)
theorem dX12_free_19 : decode cX12_free 19 = .ok (.invokevirtual 215, 3) := dk_182 (a := 0) (b := 215) (by decide +kernel) rfl
theorem dX12_free_22 : decode cX12_free 22 = .ok (.ifCond .eq 5, 3) := dk_153 (a := 0) (b := 5) (by decide +kernel) rfl
theorem dX12_free_25 : decode cX12_free 25 = .ok (.iload_n 2, 1) := dk_28 (by decide +kernel)
theorem dX12_free_26 : decode cX12_free 26 = .ok (.ireturn, 1) := dk_172 (by decide +kernel)
theorem dX12_free_27 : decode cX12_free 27 = .ok (.iinc 2 1, 3) := dk_132 (b := 1) (by decide +kernel) rfl
theorem dX12_free_30 : decode cX12_free 30 = .ok (.goto (-18), 3) := dk_167 (a := 255) (b := 238) (by decide +kernel) rfl
theorem dX12_free_33 : decode cX12_free 33 = .ok (.iconst (-1), 1) := dk_2 (by decide +kernel)
theorem dX12_free_34 : decode cX12_free 34 = .ok (.ireturn, 1) := dk_172 (by decide +kernel)
theorem dX12_keep_0 : decode cX12_keep 0 = .ok (.iconst 0, 1) := dk_3 (by decide +kernel)
theorem dX12_keep_1 : decode cX12_keep 1 = .ok (.istore_n 2, 1) := dk_61 (by decide +kernel)
theorem dX12_keep_2 : decode cX12_keep 2 = .ok (.iload_n 2, 1) := dk_28 (by decide +kernel)
theorem dX12_keep_3 : decode cX12_keep 3 = .ok (.bipush 28, 2) := dk_16 (a := 28) (by decide +kernel) rfl
theorem dX12_keep_5 : decode cX12_keep 5 = .ok (.if_icmp .ge 43, 3) := dk_162 (a := 0) (b := 43) (by decide +kernel) rfl
theorem dX12_keep_8 : decode cX12_keep 8 = .ok (.aload_n 0, 1) := dk_42 (by decide +kernel)
theorem dX12_keep_9 : decode cX12_keep 9 = .ok (.getfield 68, 3) := dk_180 (a := 0) (b := 68) (by decide +kernel) rfl
theorem dX12_keep_12 : decode cX12_keep 12 = .ok (.bipush 28, 2) := dk_16 (a := 28) (by decide +kernel) rfl
theorem dX12_keep_14 : decode cX12_keep 14 = .ok (.iload_n 1, 1) := dk_27 (by decide +kernel)
theorem dX12_keep_15 : decode cX12_keep 15 = .ok (.imul, 1) := dk_104 (by decide +kernel)
theorem dX12_keep_16 : decode cX12_keep 16 = .ok (.iload_n 2, 1) := dk_28 (by decide +kernel)
theorem dX12_keep_17 : decode cX12_keep 17 = .ok (.iadd, 1) := dk_96 (by decide +kernel)
theorem dX12_keep_18 : decode cX12_keep 18 = .ok (.aload_n 0, 1) := dk_42 (by decide +kernel)
theorem dX12_keep_19 : decode cX12_keep 19 = .ok (.getfield 37, 3) := dk_180 (a := 0) (b := 37) (by decide +kernel) rfl
theorem dX12_keep_22 : decode cX12_keep 22 = .ok (.iload_n 2, 1) := dk_28 (by decide +kernel)
theorem dX12_keep_23 : decode cX12_keep 23 = .ok (.iaload, 1) := dk_46 (by decide +kernel)
theorem dX12_keep_24 : decode cX12_keep 24 = .ok (.iastore, 1) := dk_79 (by decide +kernel)
theorem dX12_keep_25 : decode cX12_keep 25 = .ok (.aload_n 0, 1) := dk_42 (by decide +kernel)
theorem dX12_keep_26 : decode cX12_keep 26 = .ok (.getfield 71, 3) := dk_180 (a := 0) (b := 71) (by decide +kernel) rfl
theorem dX12_keep_29 : decode cX12_keep 29 = .ok (.bipush 28, 2) := dk_16 (a := 28) (by decide +kernel) rfl
theorem dX12_keep_31 : decode cX12_keep 31 = .ok (.iload_n 1, 1) := dk_27 (by decide +kernel)
theorem dX12_keep_32 : decode cX12_keep 32 = .ok (.imul, 1) := dk_104 (by decide +kernel)
theorem dX12_keep_33 : decode cX12_keep 33 = .ok (.iload_n 2, 1) := dk_28 (by decide +kernel)
theorem dX12_keep_34 : decode cX12_keep 34 = .ok (.iadd, 1) := dk_96 (by decide +kernel)
theorem dX12_keep_35 : decode cX12_keep 35 = .ok (.aload_n 0, 1) := dk_42 (by decide +kernel)
theorem dX12_keep_36 : decode cX12_keep 36 = .ok (.getfield 40, 3) := dk_180 (a := 0) (b := 40) (by decide +kernel) rfl
theorem dX12_keep_39 : decode cX12_keep 39 = .ok (.iload_n 2, 1) := dk_28 (by decide +kernel)
theorem dX12_keep_40 : decode cX12_keep 40 = .ok (.iaload, 1) := dk_46 (by decide +kernel)
theorem dX12_keep_41 : decode cX12_keep 41 = .ok (.iastore, 1) := dk_79 (by decide +kernel)
theorem dX12_keep_42 : decode cX12_keep 42 = .ok (.iinc 2 1, 3) := dk_132 (b := 1) (by decide +kernel) rfl
theorem dX12_keep_45 : decode cX12_keep 45 = .ok (.goto (-43), 3) := dk_167 (a := 255) (b := 213) (by decide +kernel) rfl
theorem dX12_keep_48 : decode cX12_keep 48 = .ok (.iconst 0, 1) := dk_3 (by decide +kernel)
theorem dX12_keep_49 : decode cX12_keep 49 = .ok (.istore_n 2, 1) := dk_61 (by decide +kernel)
theorem dX12_keep_50 : decode cX12_keep 50 = .ok (.iload_n 2, 1) := dk_28 (by decide +kernel)
theorem dX12_keep_51 : decode cX12_keep 51 = .ok (.iconst 4, 1) := dk_7 (by decide +kernel)
theorem dX12_keep_52 : decode cX12_keep 52 = .ok (.if_icmp .ge 40, 3) := dk_162 (a := 0) (b := 40) (by decide +kernel) rfl
theorem dX12_keep_55 : decode cX12_keep 55 = .ok (.aload_n 0, 1) := dk_42 (by decide +kernel)
theorem dX12_keep_56 : decode cX12_keep 56 = .ok (.getfield 74, 3) := dk_180 (a := 0) (b := 74) (by decide +kernel) rfl
theorem dX12_keep_59 : decode cX12_keep 59 = .ok (.iconst 4, 1) := dk_7 (by decide +kernel)
theorem dX12_keep_60 : decode cX12_keep 60 = .ok (.iload_n 1, 1) := dk_27 (by decide +kernel)
theorem dX12_keep_61 : decode cX12_keep 61 = .ok (.imul, 1) := dk_104 (by decide +kernel)
theorem dX12_keep_62 : decode cX12_keep 62 = .ok (.iload_n 2, 1) := dk_28 (by decide +kernel)
theorem dX12_keep_63 : decode cX12_keep 63 = .ok (.iadd, 1) := dk_96 (by decide +kernel)
theorem dX12_keep_64 : decode cX12_keep 64 = .ok (.aload_n 0, 1) := dk_42 (by decide +kernel)
theorem dX12_keep_65 : decode cX12_keep 65 = .ok (.getfield 43, 3) := dk_180 (a := 0) (b := 43) (by decide +kernel) rfl
theorem dX12_keep_68 : decode cX12_keep 68 = .ok (.iload_n 2, 1) := dk_28 (by decide +kernel)
theorem dX12_keep_69 : decode cX12_keep 69 = .ok (.iaload, 1) := dk_46 (by decide +kernel)
theorem dX12_keep_70 : decode cX12_keep 70 = .ok (.iastore, 1) := dk_79 (by decide +kernel)
theorem dX12_keep_71 : decode cX12_keep 71 = .ok (.aload_n 0, 1) := dk_42 (by decide +kernel)
theorem dX12_keep_72 : decode cX12_keep 72 = .ok (.getfield 77, 3) := dk_180 (a := 0) (b := 77) (by decide +kernel) rfl
theorem dX12_keep_75 : decode cX12_keep 75 = .ok (.iconst 4, 1) := dk_7 (by decide +kernel)
theorem dX12_keep_76 : decode cX12_keep 76 = .ok (.iload_n 1, 1) := dk_27 (by decide +kernel)
theorem dX12_keep_77 : decode cX12_keep 77 = .ok (.imul, 1) := dk_104 (by decide +kernel)
theorem dX12_keep_78 : decode cX12_keep 78 = .ok (.iload_n 2, 1) := dk_28 (by decide +kernel)
theorem dX12_keep_79 : decode cX12_keep 79 = .ok (.iadd, 1) := dk_96 (by decide +kernel)
theorem dX12_keep_80 : decode cX12_keep 80 = .ok (.aload_n 0, 1) := dk_42 (by decide +kernel)
theorem dX12_keep_81 : decode cX12_keep 81 = .ok (.iload_n 2, 1) := dk_28 (by decide +kernel)
theorem dX12_keep_82 : decode cX12_keep 82 = .ok (.invokevirtual 268, 3) := dk_182 (a := 1) (b := 12) (by decide +kernel) rfl
theorem dX12_keep_85 : decode cX12_keep 85 = .ok (.iastore, 1) := dk_79 (by decide +kernel)
theorem dX12_keep_86 : decode cX12_keep 86 = .ok (.iinc 2 1, 3) := dk_132 (b := 1) (by decide +kernel) rfl
theorem dX12_keep_89 : decode cX12_keep 89 = .ok (.goto (-39), 3) := dk_167 (a := 255) (b := 217) (by decide +kernel) rfl
theorem dX12_keep_92 : decode cX12_keep 92 = .ok (.aload_n 0, 1) := dk_42 (by decide +kernel)
theorem dX12_keep_93 : decode cX12_keep 93 = .ok (.getfield 80, 3) := dk_180 (a := 0) (b := 80) (by decide +kernel) rfl
theorem dX12_keep_96 : decode cX12_keep 96 = .ok (.iload_n 1, 1) := dk_27 (by decide +kernel)
