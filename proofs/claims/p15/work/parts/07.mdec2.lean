theorem dX12_ahead_29 : decode cX12_ahead 29 = .ok (.iload_n 1, 1) := dk_27 (by decide +kernel)
theorem dX12_ahead_30 : decode cX12_ahead 30 = .ok (.i2l, 1) := dk_133 (by decide +kernel)
theorem dX12_ahead_31 : decode cX12_ahead 31 = .ok (.lconst 1, 1) := dk_10 (by decide +kernel)
theorem dX12_ahead_32 : decode cX12_ahead 32 = .ok (.iload_n 2, 1) := dk_28 (by decide +kernel)
theorem dX12_ahead_33 : decode cX12_ahead 33 = .ok (.iconst 1, 1) := dk_4 (by decide +kernel)
theorem dX12_ahead_34 : decode cX12_ahead 34 = .ok (.isub, 1) := dk_100 (by decide +kernel)
theorem dX12_ahead_35 : decode cX12_ahead 35 = .ok (.i2l, 1) := dk_133 (by decide +kernel)
theorem dX12_ahead_36 : decode cX12_ahead 36 = .ok (.invokestatic 169, 3) := dk_184 (a := 0) (b := 169) (by decide +kernel) rfl
theorem dX12_ahead_39 : decode cX12_ahead 39 = .ok (.ifCond .ne 5, 3) := dk_154 (a := 0) (b := 5) (by decide +kernel) rfl
theorem dX12_ahead_42 : decode cX12_ahead 42 = .ok (.iconst (-1), 1) := dk_2 (by decide +kernel)
theorem dX12_ahead_43 : decode cX12_ahead 43 = .ok (.ireturn, 1) := dk_172 (by decide +kernel)
theorem dX12_ahead_44 : decode cX12_ahead 44 = .ok (.aload_n 0, 1) := dk_42 (by decide +kernel)
theorem dX12_ahead_45 : decode cX12_ahead 45 = .ok (.invokevirtual 334, 3) := dk_182 (a := 1) (b := 78) (by decide +kernel) rfl
theorem dX12_ahead_48 : decode cX12_ahead 48 = .ok (.aload_n 0, 1) := dk_42 (by decide +kernel)
theorem dX12_ahead_49 : decode cX12_ahead 49 = .ok (.getfield 127, 3) := dk_180 (a := 0) (b := 127) (by decide +kernel) rfl
theorem dX12_ahead_52 : decode cX12_ahead 52 = .ok (.sipush 301, 3) := dk_17 (a := 1) (b := 45) (by decide +kernel) rfl
theorem dX12_ahead_55 : decode cX12_ahead 55 = .ok (.iload_n 1, 1) := dk_27 (by decide +kernel)
theorem dX12_ahead_56 : decode cX12_ahead 56 = .ok (.imul, 1) := dk_104 (by decide +kernel)
theorem dX12_ahead_57 : decode cX12_ahead 57 = .ok (.iload_n 2, 1) := dk_28 (by decide +kernel)
theorem dX12_ahead_58 : decode cX12_ahead 58 = .ok (.iadd, 1) := dk_96 (by decide +kernel)
theorem dX12_ahead_59 : decode cX12_ahead 59 = .ok (.baload, 1) := dk_51 (by decide +kernel)
theorem dX12_ahead_60 : decode cX12_ahead 60 = .ok (.ifCond .eq 7, 3) := dk_153 (a := 0) (b := 7) (by decide +kernel) rfl
theorem dX12_ahead_63 : decode cX12_ahead 63 = .ok (.iconst 1, 1) := dk_4 (by decide +kernel)
theorem dX12_ahead_64 : decode cX12_ahead 64 = .ok (.goto 4, 3) := dk_167 (a := 0) (b := 4) (by decide +kernel) rfl
theorem dX12_ahead_67 : decode cX12_ahead 67 = .ok (.iconst 0, 1) := dk_3 (by decide +kernel)
theorem dX12_ahead_68 : decode cX12_ahead 68 = .ok (.ireturn, 1) := dk_172 (by decide +kernel)
theorem dX12_racing_0 : decode cX12_racing 0 = .ok (.aload_n 0, 1) := dk_42 (by decide +kernel)
theorem dX12_racing_1 : decode cX12_racing 1 = .ok (.getfield 96, 3) := dk_180 (a := 0) (b := 96) (by decide +kernel) rfl
theorem dX12_racing_4 : decode cX12_racing 4 = .ok (.iload_n 1, 1) := dk_27 (by decide +kernel)
theorem dX12_racing_5 : decode cX12_racing 5 = .ok (.iaload, 1) := dk_46 (by decide +kernel)
theorem dX12_racing_6 : decode cX12_racing 6 = .ok (.aload_n 0, 1) := dk_42 (by decide +kernel)
theorem dX12_racing_7 : decode cX12_racing 7 = .ok (.getfield 96, 3) := dk_180 (a := 0) (b := 96) (by decide +kernel) rfl
theorem dX12_racing_10 : decode cX12_racing 10 = .ok (.iload_n 2, 1) := dk_28 (by decide +kernel)
theorem dX12_racing_11 : decode cX12_racing 11 = .ok (.iaload, 1) := dk_46 (by decide +kernel)
theorem dX12_racing_12 : decode cX12_racing 12 = .ok (.if_icmp .eq 18, 3) := dk_159 (a := 0) (b := 18) (by decide +kernel) rfl
theorem dX12_racing_15 : decode cX12_racing 15 = .ok (.aload_n 0, 1) := dk_42 (by decide +kernel)
theorem dX12_racing_16 : decode cX12_racing 16 = .ok (.getfield 127, 3) := dk_180 (a := 0) (b := 127) (by decide +kernel) rfl
theorem dX12_racing_19 : decode cX12_racing 19 = .ok (.sipush 301, 3) := dk_17 (a := 1) (b := 45) (by decide +kernel) rfl
theorem dX12_racing_22 : decode cX12_racing 22 = .ok (.iload_n 1, 1) := dk_27 (by decide +kernel)
theorem dX12_racing_23 : decode cX12_racing 23 = .ok (.imul, 1) := dk_104 (by decide +kernel)
theorem dX12_racing_24 : decode cX12_racing 24 = .ok (.iload_n 2, 1) := dk_28 (by decide +kernel)
theorem dX12_racing_25 : decode cX12_racing 25 = .ok (.iadd, 1) := dk_96 (by decide +kernel)
theorem dX12_racing_26 : decode cX12_racing 26 = .ok (.baload, 1) := dk_51 (by decide +kernel)
theorem dX12_racing_27 : decode cX12_racing 27 = .ok (.ifCond .eq 5, 3) := dk_153 (a := 0) (b := 5) (by decide +kernel) rfl
theorem dX12_racing_30 : decode cX12_racing 30 = .ok (.iconst (-1), 1) := dk_2 (by decide +kernel)
theorem dX12_racing_31 : decode cX12_racing 31 = .ok (.ireturn, 1) := dk_172 (by decide +kernel)
theorem dX12_racing_32 : decode cX12_racing 32 = .ok (.aload_n 0, 1) := dk_42 (by decide +kernel)
theorem dX12_racing_33 : decode cX12_racing 33 = .ok (.getfield 108, 3) := dk_180 (a := 0) (b := 108) (by decide +kernel) rfl
theorem dX12_racing_36 : decode cX12_racing 36 = .ok (.iload_n 1, 1) := dk_27 (by decide +kernel)
theorem dX12_racing_37 : decode cX12_racing 37 = .ok (.iaload, 1) := dk_46 (by decide +kernel)
theorem dX12_racing_38 : decode cX12_racing 38 = .ok (.ifCond .lt 12, 3) := dk_155 (a := 0) (b := 12) (by decide +kernel) rfl
theorem dX12_racing_41 : decode cX12_racing 41 = .ok (.aload_n 0, 1) := dk_42 (by decide +kernel)
theorem dX12_racing_42 : decode cX12_racing 42 = .ok (.getfield 108, 3) := dk_180 (a := 0) (b := 108) (by decide +kernel) rfl
theorem dX12_racing_45 : decode cX12_racing 45 = .ok (.iload_n 1, 1) := dk_27 (by decide +kernel)
theorem dX12_racing_46 : decode cX12_racing 46 = .ok (.iaload, 1) := dk_46 (by decide +kernel)
theorem dX12_racing_47 : decode cX12_racing 47 = .ok (.goto 9, 3) := dk_167 (a := 0) (b := 9) (by decide +kernel) rfl
theorem dX12_racing_50 : decode cX12_racing 50 = .ok (.aload_n 0, 1) := dk_42 (by decide +kernel)
theorem dX12_racing_51 : decode cX12_racing 51 = .ok (.getfield 105, 3) := dk_180 (a := 0) (b := 105) (by decide +kernel) rfl
theorem dX12_racing_54 : decode cX12_racing 54 = .ok (.iload_n 1, 1) := dk_27 (by decide +kernel)
theorem dX12_racing_55 : decode cX12_racing 55 = .ok (.iaload, 1) := dk_46 (by decide +kernel)
theorem dX12_racing_56 : decode cX12_racing 56 = .ok (.istore_n 3, 1) := dk_62 (by decide +kernel)
theorem dX12_racing_57 : decode cX12_racing 57 = .ok (.aload_n 0, 1) := dk_42 (by decide +kernel)
theorem dX12_racing_58 : decode cX12_racing 58 = .ok (.getfield 108, 3) := dk_180 (a := 0) (b := 108) (by decide +kernel) rfl
theorem dX12_racing_61 : decode cX12_racing 61 = .ok (.iload_n 1, 1) := dk_27 (by decide +kernel)
theorem dX12_racing_62 : decode cX12_racing 62 = .ok (.iaload, 1) := dk_46 (by decide +kernel)
theorem dX12_racing_63 : decode cX12_racing 63 = .ok (.ifCond .ge 12, 3) := dk_156 (a := 0) (b := 12) (by decide +kernel) rfl
theorem dX12_racing_66 : decode cX12_racing 66 = .ok (.aload_n 0, 1) := dk_42 (by decide +kernel)
theorem dX12_racing_67 : decode cX12_racing 67 = .ok (.getfield 108, 3) := dk_180 (a := 0) (b := 108) (by decide +kernel) rfl
theorem dX12_racing_70 : decode cX12_racing 70 = .ok (.iload_n 2, 1) := dk_28 (by decide +kernel)
theorem dX12_racing_71 : decode cX12_racing 71 = .ok (.iaload, 1) := dk_46 (by decide +kernel)
theorem dX12_racing_72 : decode cX12_racing 72 = .ok (.ifCond .lt 7, 3) := dk_155 (a := 0) (b := 7) (by decide +kernel) rfl
theorem dX12_racing_75 : decode cX12_racing 75 = .ok (.iconst 1, 1) := dk_4 (by decide +kernel)
theorem dX12_racing_76 : decode cX12_racing 76 = .ok (.goto 4, 3) := dk_167 (a := 0) (b := 4) (by decide +kernel) rfl
theorem dX12_racing_79 : decode cX12_racing 79 = .ok (.iconst 0, 1) := dk_3 (by decide +kernel)
theorem dX12_racing_80 : decode cX12_racing 80 = .ok (.istore 4, 2) := dk_54 (by decide +kernel)
theorem dX12_racing_82 : decode cX12_racing 82 = .ok (.iload_n 3, 1) := dk_29 (by decide +kernel)
theorem dX12_racing_83 : decode cX12_racing 83 = .ok (.ifCond .lt 32, 3) := dk_155 (a := 0) (b := 32) (by decide +kernel) rfl
theorem dX12_racing_86 : decode cX12_racing 86 = .ok (.iload 4, 2) := dk_21 (by decide +kernel)
theorem dX12_racing_88 : decode cX12_racing 88 = .ok (.ifCond .eq 27, 3) := dk_153 (a := 0) (b := 27) (by decide +kernel) rfl
theorem dX12_racing_91 : decode cX12_racing 91 = .ok (.aload_n 0, 1) := dk_42 (by decide +kernel)
theorem dX12_racing_92 : decode cX12_racing 92 = .ok (.getfield 108, 3) := dk_180 (a := 0) (b := 108) (by decide +kernel) rfl
theorem dX12_racing_95 : decode cX12_racing 95 = .ok (.iload_n 2, 1) := dk_28 (by decide +kernel)
theorem dX12_racing_96 : decode cX12_racing 96 = .ok (.iaload, 1) := dk_46 (by decide +kernel)
theorem dX12_racing_97 : decode cX12_racing 97 = .ok (.iload_n 3, 1) := dk_29 (by decide +kernel)
theorem dX12_racing_98 : decode cX12_racing 98 = .ok (.if_icmp .eq 13, 3) := dk_159 (a := 0) (b := 13) (by decide +kernel) rfl
theorem dX12_racing_101 : decode cX12_racing 101 = .ok (.aload_n 0, 1) := dk_42 (by decide +kernel)
theorem dX12_racing_102 : decode cX12_racing 102 = .ok (.getfield 105, 3) := dk_180 (a := 0) (b := 105) (by decide +kernel) rfl
theorem dX12_racing_105 : decode cX12_racing 105 = .ok (.iload_n 2, 1) := dk_28 (by decide +kernel)
theorem dX12_racing_106 : decode cX12_racing 106 = .ok (.iaload, 1) := dk_46 (by decide +kernel)
theorem dX12_racing_107 : decode cX12_racing 107 = .ok (.iload_n 3, 1) := dk_29 (by decide +kernel)
theorem dX12_racing_108 : decode cX12_racing 108 = .ok (.if_icmp .ne 7, 3) := dk_160 (a := 0) (b := 7) (by decide +kernel) rfl
theorem dX12_racing_111 : decode cX12_racing 111 = .ok (.iload_n 3, 1) := dk_29 (by decide +kernel)
theorem dX12_racing_112 : decode cX12_racing 112 = .ok (.goto 4, 3) := dk_167 (a := 0) (b := 4) (by decide +kernel) rfl
theorem dX12_racing_115 : decode cX12_racing 115 = .ok (.iconst (-1), 1) := dk_2 (by decide +kernel)
theorem dX12_racing_116 : decode cX12_racing 116 = .ok (.ireturn, 1) := dk_172 (by decide +kernel)
theorem dX12_race_0 : decode cX12_race 0 = .ok (.aload_n 0, 1) := dk_42 (by decide +kernel)
theorem dX12_race_1 : decode cX12_race 1 = .ok (.iconst 0, 1) := dk_3 (by decide +kernel)
theorem dX12_race_2 : decode cX12_race 2 = .ok (.putfield 164, 3) := dk_181 (a := 0) (b := 164) (by decide +kernel) rfl
theorem dX12_race_5 : decode cX12_race 5 = .ok (.aload_n 0, 1) := dk_42 (by decide +kernel)
theorem dX12_race_6 : decode cX12_race 6 = .ok (.getfield 294, 3) := dk_180 (a := 1) (b := 38) (by decide +kernel) rfl
theorem dX12_race_9 : decode cX12_race 9 = .ok (.ifCond .ne 6, 3) := dk_154 (a := 0) (b := 6) (by decide +kernel) rfl
theorem dX12_race_12 : decode cX12_race 12 = .ok (.bipush (-2), 2) := dk_16 (a := 254) (by decide +kernel) rfl
theorem dX12_race_14 : decode cX12_race 14 = .ok (.ireturn, 1) := dk_172 (by decide +kernel)
theorem dX12_race_15 : decode cX12_race 15 = .ok (.iload_n 2, 1) := dk_28 (by decide +kernel)
theorem dX12_race_16 : decode cX12_race 16 = .ok (.i2l, 1) := dk_133 (by decide +kernel)
theorem dX12_race_17 : decode cX12_race 17 = .ok (.lconst 0, 1) := dk_9 (by decide +kernel)
theorem dX12_race_18 : decode cX12_race 18 = .ok (.ldc2_w 167, 3) := dk_20 (a := 0) (b := 167) (by decide +kernel) rfl
theorem dX12_race_21 : decode cX12_race 21 = .ok (.invokestatic 169, 3) := dk_184 (a := 0) (b := 169) (by decide +kernel) rfl
theorem dX12_race_24 : decode cX12_race 24 = .ok (.ifCond .ne 5, 3) := dk_154 (a := 0) (b := 5) (by decide +kernel) rfl
theorem dX12_race_27 : decode cX12_race 27 = .ok (.iconst (-1), 1) := dk_2 (by decide +kernel)
theorem dX12_race_28 : decode cX12_race 28 = .ok (.ireturn, 1) := dk_172 (by decide +kernel)
theorem dX12_race_29 : decode cX12_race 29 = .ok (.aload_n 0, 1) := dk_42 (by decide +kernel)
theorem dX12_race_30 : decode cX12_race 30 = .ok (.invokevirtual 334, 3) := dk_182 (a := 1) (b := 78) (by decide +kernel) rfl
theorem dX12_race_33 : decode cX12_race 33 = .ok (.iconst 0, 1) := dk_3 (by decide +kernel)
theorem dX12_race_34 : decode cX12_race 34 = .ok (.istore_n 3, 1) := dk_62 (by decide +kernel)
theorem dX12_race_35 : decode cX12_race 35 = .ok (.iconst 2, 1) := dk_5 (by decide +kernel)
theorem dX12_race_36 : decode cX12_race 36 = .ok (.istore 4, 2) := dk_54 (by decide +kernel)
theorem dX12_race_38 : decode cX12_race 38 = .ok (.iload 4, 2) := dk_21 (by decide +kernel)
theorem dX12_race_40 : decode cX12_race 40 = .ok (.aload_n 0, 1) := dk_42 (by decide +kernel)
theorem dX12_race_41 : decode cX12_race 41 = .ok (.getfield 304, 3) := dk_180 (a := 1) (b := 48) (by decide +kernel) rfl
theorem dX12_race_44 : decode cX12_race 44 = .ok (.if_icmp .gt 85, 3) := dk_163 (a := 0) (b := 85) (by decide +kernel) rfl
theorem dX12_race_47 : decode cX12_race 47 = .ok (.iconst 1, 1) := dk_4 (by decide +kernel)
theorem dX12_race_48 : decode cX12_race 48 = .ok (.istore 5, 2) := dk_54 (by decide +kernel)
theorem dX12_race_50 : decode cX12_race 50 = .ok (.iload 5, 2) := dk_21 (by decide +kernel)
theorem dX12_race_52 : decode cX12_race 52 = .ok (.iload 4, 2) := dk_21 (by decide +kernel)
theorem dX12_race_54 : decode cX12_race 54 = .ok (.if_icmp .ge 69, 3) := dk_162 (a := 0) (b := 69) (by decide +kernel) rfl
theorem dX12_race_57 : decode cX12_race 57 = .ok (.aload_n 0, 1) := dk_42 (by decide +kernel)
theorem dX12_race_58 : decode cX12_race 58 = .ok (.iload 5, 2) := dk_21 (by decide +kernel)
theorem dX12_race_60 : decode cX12_race 60 = .ok (.iload 4, 2) := dk_21 (by decide +kernel)
theorem dX12_race_62 : decode cX12_race 62 = .ok (.invokevirtual 337, 3) := dk_182 (a := 1) (b := 81) (by decide +kernel) rfl
theorem dX12_race_65 : decode cX12_race 65 = .ok (.istore 6, 2) := dk_54 (by decide +kernel)
theorem dX12_race_67 : decode cX12_race 67 = .ok (.iload 6, 2) := dk_21 (by decide +kernel)
theorem dX12_race_69 : decode cX12_race 69 = .ok (.ifCond .lt 35, 3) := dk_155 (a := 0) (b := 35) (by decide +kernel) rfl
theorem dX12_race_72 : decode cX12_race 72 = .ok (.iload_n 3, 1) := dk_29 (by decide +kernel)
theorem dX12_race_73 : decode cX12_race 73 = .ok (.iload_n 1, 1) := dk_27 (by decide +kernel)
theorem dX12_race_74 : decode cX12_race 74 = .ok (.if_icmp .ne 30, 3) := dk_160 (a := 0) (b := 30) (by decide +kernel) rfl
theorem dX12_race_77 : decode cX12_race 77 = .ok (.iload_n 2, 1) := dk_28 (by decide +kernel)
theorem dX12_race_78 : decode cX12_race 78 = .ok (.ifCond .le 26, 3) := dk_158 (a := 0) (b := 26) (by decide +kernel) rfl
theorem dX12_race_81 : decode cX12_race 81 = .ok (.iload_n 2, 1) := dk_28 (by decide +kernel)
theorem dX12_race_82 : decode cX12_race 82 = .ok (.iconst 1, 1) := dk_4 (by decide +kernel)
theorem dX12_race_83 : decode cX12_race 83 = .ok (.if_icmp .ne 8, 3) := dk_160 (a := 0) (b := 8) (by decide +kernel) rfl
theorem dX12_race_86 : decode cX12_race 86 = .ok (.iload 5, 2) := dk_21 (by decide +kernel)
theorem dX12_race_88 : decode cX12_race 88 = .ok (.goto 15, 3) := dk_167 (a := 0) (b := 15) (by decide +kernel) rfl
theorem dX12_race_91 : decode cX12_race 91 = .ok (.iload_n 2, 1) := dk_28 (by decide +kernel)
theorem dX12_race_92 : decode cX12_race 92 = .ok (.iconst 2, 1) := dk_5 (by decide +kernel)
theorem dX12_race_93 : decode cX12_race 93 = .ok (.if_icmp .ne 8, 3) := dk_160 (a := 0) (b := 8) (by decide +kernel) rfl
theorem dX12_race_96 : decode cX12_race 96 = .ok (.iload 4, 2) := dk_21 (by decide +kernel)
theorem dX12_race_98 : decode cX12_race 98 = .ok (.goto 5, 3) := dk_167 (a := 0) (b := 5) (by decide +kernel) rfl
theorem dX12_race_101 : decode cX12_race 101 = .ok (.iload 6, 2) := dk_21 (by decide +kernel)
theorem dX12_race_103 : decode cX12_race 103 = .ok (.ireturn, 1) := dk_172 (by decide +kernel)
theorem dX12_race_104 : decode cX12_race 104 = .ok (.iload_n 3, 1) := dk_29 (by decide +kernel)
theorem dX12_race_105 : decode cX12_race 105 = .ok (.iload 6, 2) := dk_21 (by decide +kernel)
theorem dX12_race_107 : decode cX12_race 107 = .ok (.ifCond .lt 7, 3) := dk_155 (a := 0) (b := 7) (by decide +kernel) rfl
theorem dX12_race_110 : decode cX12_race 110 = .ok (.iconst 1, 1) := dk_4 (by decide +kernel)
theorem dX12_race_111 : decode cX12_race 111 = .ok (.goto 4, 3) := dk_167 (a := 0) (b := 4) (by decide +kernel) rfl
theorem dX12_race_114 : decode cX12_race 114 = .ok (.iconst 0, 1) := dk_3 (by decide +kernel)
theorem dX12_race_115 : decode cX12_race 115 = .ok (.iadd, 1) := dk_96 (by decide +kernel)
theorem dX12_race_116 : decode cX12_race 116 = .ok (.istore_n 3, 1) := dk_62 (by decide +kernel)
theorem dX12_race_117 : decode cX12_race 117 = .ok (.iinc 5 1, 3) := dk_132 (b := 1) (by decide +kernel) rfl
theorem dX12_race_120 : decode cX12_race 120 = .ok (.goto (-70), 3) := dk_167 (a := 255) (b := 186) (by decide +kernel) rfl
theorem dX12_race_123 : decode cX12_race 123 = .ok (.iinc 4 1, 3) := dk_132 (b := 1) (by decide +kernel) rfl
theorem dX12_race_126 : decode cX12_race 126 = .ok (.goto (-88), 3) := dk_167 (a := 255) (b := 168) (by decide +kernel) rfl
theorem dX12_race_129 : decode cX12_race 129 = .ok (.iload_n 2, 1) := dk_28 (by decide +kernel)
theorem dX12_race_130 : decode cX12_race 130 = .ok (.ifCond .ne 7, 3) := dk_154 (a := 0) (b := 7) (by decide +kernel) rfl
theorem dX12_race_133 : decode cX12_race 133 = .ok (.iload_n 3, 1) := dk_29 (by decide +kernel)
theorem dX12_race_134 : decode cX12_race 134 = .ok (.goto 4, 3) := dk_167 (a := 0) (b := 4) (by decide +kernel) rfl
theorem dX12_race_137 : decode cX12_race 137 = .ok (.iconst (-1), 1) := dk_2 (by decide +kernel)
theorem dX12_race_138 : decode cX12_race 138 = .ok (.ireturn, 1) := dk_172 (by decide +kernel)
theorem dX12_differ_0 : decode cX12_differ 0 = .ok (.aload_n 0, 1) := dk_42 (by decide +kernel)
theorem dX12_differ_1 : decode cX12_differ 1 = .ok (.iconst 0, 1) := dk_3 (by decide +kernel)
theorem dX12_differ_2 : decode cX12_differ 2 = .ok (.putfield 164, 3) := dk_181 (a := 0) (b := 164) (by decide +kernel) rfl
theorem dX12_differ_5 : decode cX12_differ 5 = .ok (.aload_n 0, 1) := dk_42 (by decide +kernel)
theorem dX12_differ_6 : decode cX12_differ 6 = .ok (.getfield 294, 3) := dk_180 (a := 1) (b := 38) (by decide +kernel) rfl
theorem dX12_differ_9 : decode cX12_differ 9 = .ok (.ifCond .ne 6, 3) := dk_154 (a := 0) (b := 6) (by decide +kernel) rfl
theorem dX12_differ_12 : decode cX12_differ 12 = .ok (.bipush (-2), 2) := dk_16 (a := 254) (by decide +kernel) rfl
theorem dX12_differ_14 : decode cX12_differ 14 = .ok (.ireturn, 1) := dk_172 (by decide +kernel)
theorem dX12_differ_15 : decode cX12_differ 15 = .ok (.iload_n 1, 1) := dk_27 (by decide +kernel)
theorem dX12_differ_16 : decode cX12_differ 16 = .ok (.i2l, 1) := dk_133 (by decide +kernel)
theorem dX12_differ_17 : decode cX12_differ 17 = .ok (.lconst 0, 1) := dk_9 (by decide +kernel)
theorem dX12_differ_18 : decode cX12_differ 18 = .ok (.aload_n 0, 1) := dk_42 (by decide +kernel)
theorem dX12_differ_19 : decode cX12_differ 19 = .ok (.getfield 304, 3) := dk_180 (a := 1) (b := 48) (by decide +kernel) rfl
theorem dX12_differ_22 : decode cX12_differ 22 = .ok (.i2l, 1) := dk_133 (by decide +kernel)
theorem dX12_differ_23 : decode cX12_differ 23 = .ok (.invokestatic 169, 3) := dk_184 (a := 0) (b := 169) (by decide +kernel) rfl
theorem dX12_differ_26 : decode cX12_differ 26 = .ok (.ifCond .eq 17, 3) := dk_153 (a := 0) (b := 17) (by decide +kernel) rfl
theorem dX12_differ_29 : decode cX12_differ 29 = .ok (.iload_n 2, 1) := dk_28 (by decide +kernel)
theorem dX12_differ_30 : decode cX12_differ 30 = .ok (.i2l, 1) := dk_133 (by decide +kernel)
theorem dX12_differ_31 : decode cX12_differ 31 = .ok (.lconst 0, 1) := dk_9 (by decide +kernel)
theorem dX12_differ_32 : decode cX12_differ 32 = .ok (.aload_n 0, 1) := dk_42 (by decide +kernel)
theorem dX12_differ_33 : decode cX12_differ 33 = .ok (.getfield 304, 3) := dk_180 (a := 1) (b := 48) (by decide +kernel) rfl
theorem dX12_differ_36 : decode cX12_differ 36 = .ok (.i2l, 1) := dk_133 (by decide +kernel)
theorem dX12_differ_37 : decode cX12_differ 37 = .ok (.invokestatic 169, 3) := dk_184 (a := 0) (b := 169) (by decide +kernel) rfl
theorem dX12_differ_40 : decode cX12_differ 40 = .ok (.ifCond .ne 5, 3) := dk_154 (a := 0) (b := 5) (by decide +kernel) rfl
theorem dX12_differ_43 : decode cX12_differ 43 = .ok (.iconst (-1), 1) := dk_2 (by decide +kernel)
theorem dX12_differ_44 : decode cX12_differ 44 = .ok (.ireturn, 1) := dk_172 (by decide +kernel)
theorem dX12_differ_45 : decode cX12_differ 45 = .ok (.iconst 0, 1) := dk_3 (by decide +kernel)
theorem dX12_differ_46 : decode cX12_differ 46 = .ok (.istore_n 3, 1) := dk_62 (by decide +kernel)
theorem dX12_differ_47 : decode cX12_differ 47 = .ok (.iconst 0, 1) := dk_3 (by decide +kernel)
theorem dX12_differ_48 : decode cX12_differ 48 = .ok (.istore 4, 2) := dk_54 (by decide +kernel)
theorem dX12_differ_50 : decode cX12_differ 50 = .ok (.iload 4, 2) := dk_21 (by decide +kernel)
theorem dX12_differ_52 : decode cX12_differ 52 = .ok (.bipush 28, 2) := dk_16 (a := 28) (by decide +kernel) rfl
theorem dX12_differ_54 : decode cX12_differ 54 = .ok (.if_icmp .ge 71, 3) := dk_162 (a := 0) (b := 71) (by decide +kernel) rfl
theorem dX12_differ_57 : decode cX12_differ 57 = .ok (.iload_n 3, 1) := dk_29 (by decide +kernel)
theorem dX12_differ_58 : decode cX12_differ 58 = .ok (.aload_n 0, 1) := dk_42 (by decide +kernel)
theorem dX12_differ_59 : decode cX12_differ 59 = .ok (.getfield 68, 3) := dk_180 (a := 0) (b := 68) (by decide +kernel) rfl
theorem dX12_differ_62 : decode cX12_differ 62 = .ok (.bipush 28, 2) := dk_16 (a := 28) (by decide +kernel) rfl
theorem dX12_differ_64 : decode cX12_differ 64 = .ok (.iload_n 1, 1) := dk_27 (by decide +kernel)
theorem dX12_differ_65 : decode cX12_differ 65 = .ok (.imul, 1) := dk_104 (by decide +kernel)
theorem dX12_differ_66 : decode cX12_differ 66 = .ok (.iload 4, 2) := dk_21 (by decide +kernel)
theorem dX12_differ_68 : decode cX12_differ 68 = .ok (.iadd, 1) := dk_96 (by decide +kernel)
theorem dX12_differ_69 : decode cX12_differ 69 = .ok (.iaload, 1) := dk_46 (by decide +kernel)
theorem dX12_differ_70 : decode cX12_differ 70 = .ok (.aload_n 0, 1) := dk_42 (by decide +kernel)
theorem dX12_differ_71 : decode cX12_differ 71 = .ok (.getfield 68, 3) := dk_180 (a := 0) (b := 68) (by decide +kernel) rfl
theorem dX12_differ_74 : decode cX12_differ 74 = .ok (.bipush 28, 2) := dk_16 (a := 28) (by decide +kernel) rfl
theorem dX12_differ_76 : decode cX12_differ 76 = .ok (.iload_n 2, 1) := dk_28 (by decide +kernel)
theorem dX12_differ_77 : decode cX12_differ 77 = .ok (.imul, 1) := dk_104 (by decide +kernel)
theorem dX12_differ_78 : decode cX12_differ 78 = .ok (.iload 4, 2) := dk_21 (by decide +kernel)
theorem dX12_differ_80 : decode cX12_differ 80 = .ok (.iadd, 1) := dk_96 (by decide +kernel)
theorem dX12_differ_81 : decode cX12_differ 81 = .ok (.iaload, 1) := dk_46 (by decide +kernel)
theorem dX12_differ_82 : decode cX12_differ 82 = .ok (.if_icmp .ne 30, 3) := dk_160 (a := 0) (b := 30) (by decide +kernel) rfl
theorem dX12_differ_85 : decode cX12_differ 85 = .ok (.aload_n 0, 1) := dk_42 (by decide +kernel)
theorem dX12_differ_86 : decode cX12_differ 86 = .ok (.getfield 71, 3) := dk_180 (a := 0) (b := 71) (by decide +kernel) rfl
theorem dX12_differ_89 : decode cX12_differ 89 = .ok (.bipush 28, 2) := dk_16 (a := 28) (by decide +kernel) rfl
theorem dX12_differ_91 : decode cX12_differ 91 = .ok (.iload_n 1, 1) := dk_27 (by decide +kernel)
theorem dX12_differ_92 : decode cX12_differ 92 = .ok (.imul, 1) := dk_104 (by decide +kernel)
theorem dX12_differ_93 : decode cX12_differ 93 = .ok (.iload 4, 2) := dk_21 (by decide +kernel)
theorem dX12_differ_95 : decode cX12_differ 95 = .ok (.iadd, 1) := dk_96 (by decide +kernel)
theorem dX12_differ_96 : decode cX12_differ 96 = .ok (.iaload, 1) := dk_46 (by decide +kernel)
theorem dX12_differ_97 : decode cX12_differ 97 = .ok (.aload_n 0, 1) := dk_42 (by decide +kernel)
theorem dX12_differ_98 : decode cX12_differ 98 = .ok (.getfield 71, 3) := dk_180 (a := 0) (b := 71) (by decide +kernel) rfl
theorem dX12_differ_101 : decode cX12_differ 101 = .ok (.bipush 28, 2) := dk_16 (a := 28) (by decide +kernel) rfl
theorem dX12_differ_103 : decode cX12_differ 103 = .ok (.iload_n 2, 1) := dk_28 (by decide +kernel)
theorem dX12_differ_104 : decode cX12_differ 104 = .ok (.imul, 1) := dk_104 (by decide +kernel)
theorem dX12_differ_105 : decode cX12_differ 105 = .ok (.iload 4, 2) := dk_21 (by decide +kernel)
theorem dX12_differ_107 : decode cX12_differ 107 = .ok (.iadd, 1) := dk_96 (by decide +kernel)
theorem dX12_differ_108 : decode cX12_differ 108 = .ok (.iaload, 1) := dk_46 (by decide +kernel)
theorem dX12_differ_109 : decode cX12_differ 109 = .ok (.if_icmp .eq 7, 3) := dk_159 (a := 0) (b := 7) (by decide +kernel) rfl
theorem dX12_differ_112 : decode cX12_differ 112 = .ok (.iconst 1, 1) := dk_4 (by decide +kernel)
theorem dX12_differ_113 : decode cX12_differ 113 = .ok (.goto 4, 3) := dk_167 (a := 0) (b := 4) (by decide +kernel) rfl
theorem dX12_differ_116 : decode cX12_differ 116 = .ok (.iconst 0, 1) := dk_3 (by decide +kernel)
theorem dX12_differ_117 : decode cX12_differ 117 = .ok (.iadd, 1) := dk_96 (by decide +kernel)
theorem dX12_differ_118 : decode cX12_differ 118 = .ok (.istore_n 3, 1) := dk_62 (by decide +kernel)
theorem dX12_differ_119 : decode cX12_differ 119 = .ok (.iinc 4 1, 3) := dk_132 (b := 1) (by decide +kernel) rfl
theorem dX12_differ_122 : decode cX12_differ 122 = .ok (.goto (-72), 3) := dk_167 (a := 255) (b := 184) (by decide +kernel) rfl
theorem dX12_differ_125 : decode cX12_differ 125 = .ok (.iconst 0, 1) := dk_3 (by decide +kernel)
theorem dX12_differ_126 : decode cX12_differ 126 = .ok (.istore 4, 2) := dk_54 (by decide +kernel)
theorem dX12_differ_128 : decode cX12_differ 128 = .ok (.iload 4, 2) := dk_21 (by decide +kernel)
theorem dX12_differ_130 : decode cX12_differ 130 = .ok (.iconst 4, 1) := dk_7 (by decide +kernel)
theorem dX12_differ_131 : decode cX12_differ 131 = .ok (.if_icmp .ge 42, 3) := dk_162 (a := 0) (b := 42) (by decide +kernel) rfl
theorem dX12_differ_134 : decode cX12_differ 134 = .ok (.iload_n 3, 1) := dk_29 (by decide +kernel)
theorem dX12_differ_135 : decode cX12_differ 135 = .ok (.aload_n 0, 1) := dk_42 (by decide +kernel)
theorem dX12_differ_136 : decode cX12_differ 136 = .ok (.getfield 74, 3) := dk_180 (a := 0) (b := 74) (by decide +kernel) rfl
theorem dX12_differ_139 : decode cX12_differ 139 = .ok (.iconst 4, 1) := dk_7 (by decide +kernel)
theorem dX12_differ_140 : decode cX12_differ 140 = .ok (.iload_n 1, 1) := dk_27 (by decide +kernel)
theorem dX12_differ_141 : decode cX12_differ 141 = .ok (.imul, 1) := dk_104 (by decide +kernel)
theorem dX12_differ_142 : decode cX12_differ 142 = .ok (.iload 4, 2) := dk_21 (by decide +kernel)
theorem dX12_differ_144 : decode cX12_differ 144 = .ok (.iadd, 1) := dk_96 (by decide +kernel)
theorem dX12_differ_145 : decode cX12_differ 145 = .ok (.iaload, 1) := dk_46 (by decide +kernel)
theorem dX12_differ_146 : decode cX12_differ 146 = .ok (.aload_n 0, 1) := dk_42 (by decide +kernel)
theorem dX12_differ_147 : decode cX12_differ 147 = .ok (.getfield 74, 3) := dk_180 (a := 0) (b := 74) (by decide +kernel) rfl
theorem dX12_differ_150 : decode cX12_differ 150 = .ok (.iconst 4, 1) := dk_7 (by decide +kernel)
theorem dX12_differ_151 : decode cX12_differ 151 = .ok (.iload_n 2, 1) := dk_28 (by decide +kernel)
theorem dX12_differ_152 : decode cX12_differ 152 = .ok (.imul, 1) := dk_104 (by decide +kernel)
theorem dX12_differ_153 : decode cX12_differ 153 = .ok (.iload 4, 2) := dk_21 (by decide +kernel)
theorem dX12_differ_155 : decode cX12_differ 155 = .ok (.iadd, 1) := dk_96 (by decide +kernel)
theorem dX12_differ_156 : decode cX12_differ 156 = .ok (.iaload, 1) := dk_46 (by decide +kernel)
theorem dX12_differ_157 : decode cX12_differ 157 = .ok (.if_icmp .eq 7, 3) := dk_159 (a := 0) (b := 7) (by decide +kernel) rfl
theorem dX12_differ_160 : decode cX12_differ 160 = .ok (.iconst 1, 1) := dk_4 (by decide +kernel)
theorem dX12_differ_161 : decode cX12_differ 161 = .ok (.goto 4, 3) := dk_167 (a := 0) (b := 4) (by decide +kernel) rfl
theorem dX12_differ_164 : decode cX12_differ 164 = .ok (.iconst 0, 1) := dk_3 (by decide +kernel)
theorem dX12_differ_165 : decode cX12_differ 165 = .ok (.iadd, 1) := dk_96 (by decide +kernel)
theorem dX12_differ_166 : decode cX12_differ 166 = .ok (.istore_n 3, 1) := dk_62 (by decide +kernel)
theorem dX12_differ_167 : decode cX12_differ 167 = .ok (.iinc 4 1, 3) := dk_132 (b := 1) (by decide +kernel) rfl
theorem dX12_differ_170 : decode cX12_differ 170 = .ok (.goto (-42), 3) := dk_167 (a := 255) (b := 214) (by decide +kernel) rfl
theorem dX12_differ_173 : decode cX12_differ 173 = .ok (.iload_n 3, 1) := dk_29 (by decide +kernel)
theorem dX12_differ_174 : decode cX12_differ 174 = .ok (.ireturn, 1) := dk_172 (by decide +kernel)
theorem dX12_tryRun_0 : decode cX12_tryRun 0 = .ok (.aload_n 0, 1) := dk_42 (by decide +kernel)
theorem dX12_tryRun_1 : decode cX12_tryRun 1 = .ok (.invokevirtual 285, 3) := dk_182 (a := 1) (b := 29) (by decide +kernel) rfl
theorem dX12_tryRun_4 : decode cX12_tryRun 4 = .ok (.iconst 0, 1) := dk_3 (by decide +kernel)
theorem dX12_tryRun_5 : decode cX12_tryRun 5 = .ok (.istore_n 1, 1) := dk_60 (by decide +kernel)
theorem dX12_tryRun_6 : decode cX12_tryRun 6 = .ok (.aload_n 0, 1) := dk_42 (by decide +kernel)
theorem dX12_tryRun_7 : decode cX12_tryRun 7 = .ok (.iconst 0, 1) := dk_3 (by decide +kernel)
theorem dX12_tryRun_8 : decode cX12_tryRun 8 = .ok (.invokevirtual 282, 3) := dk_182 (a := 1) (b := 26) (by decide +kernel) rfl
theorem dX12_tryRun_11 : decode cX12_tryRun 11 = .ok (.istore_n 2, 1) := dk_61 (by decide +kernel)
theorem dX12_tryRun_12 : decode cX12_tryRun 12 = .ok (.iload_n 2, 1) := dk_28 (by decide +kernel)
theorem dX12_tryRun_13 : decode cX12_tryRun 13 = .ok (.ifCond .lt 114, 3) := dk_155 (a := 0) (b := 114) (by decide +kernel) rfl
theorem dX12_tryRun_16 : decode cX12_tryRun 16 = .ok (.aload_n 0, 1) := dk_42 (by decide +kernel)
theorem dX12_tryRun_17 : decode cX12_tryRun 17 = .ok (.getfield 194, 3) := dk_180 (a := 0) (b := 194) (by decide +kernel) rfl
theorem dX12_tryRun_20 : decode cX12_tryRun 20 = .ok (.ifCond .ne 107, 3) := dk_154 (a := 0) (b := 107) (by decide +kernel) rfl
theorem dX12_tryRun_23 : decode cX12_tryRun 23 = .ok (.aload_n 0, 1) := dk_42 (by decide +kernel)
theorem dX12_tryRun_24 : decode cX12_tryRun 24 = .ok (.getfield 191, 3) := dk_180 (a := 0) (b := 191) (by decide +kernel) rfl
theorem dX12_tryRun_27 : decode cX12_tryRun 27 = .ok (.sipush 300, 3) := dk_17 (a := 1) (b := 44) (by decide +kernel) rfl
theorem dX12_tryRun_30 : decode cX12_tryRun 30 = .ok (.if_icmp .ge 97, 3) := dk_162 (a := 0) (b := 97) (by decide +kernel) rfl
theorem dX12_tryRun_33 : decode cX12_tryRun 33 = .ok (.aload_n 0, 1) := dk_42 (by decide +kernel)
theorem dX12_tryRun_34 : decode cX12_tryRun 34 = .ok (.iload_n 2, 1) := dk_28 (by decide +kernel)
theorem dX12_tryRun_35 : decode cX12_tryRun 35 = .ok (.invokevirtual 275, 3) := dk_182 (a := 1) (b := 19) (by decide +kernel) rfl
theorem dX12_tryRun_38 : decode cX12_tryRun 38 = .ok (.aload_n 0, 1) := dk_42 (by decide +kernel)
theorem dX12_tryRun_39 : decode cX12_tryRun 39 = .ok (.aload_n 0, 1) := dk_42 (by decide +kernel)
theorem dX12_tryRun_40 : decode cX12_tryRun 40 = .ok (.getfield 197, 3) := dk_180 (a := 0) (b := 197) (by decide +kernel) rfl
theorem dX12_tryRun_43 : decode cX12_tryRun 43 = .ok (.invokevirtual 282, 3) := dk_182 (a := 1) (b := 26) (by decide +kernel) rfl
theorem dX12_tryRun_46 : decode cX12_tryRun 46 = .ok (.istore_n 2, 1) := dk_61 (by decide +kernel)
theorem dX12_tryRun_47 : decode cX12_tryRun 47 = .ok (.iload_n 1, 1) := dk_27 (by decide +kernel)
theorem dX12_tryRun_48 : decode cX12_tryRun 48 = .ok (.aload_n 0, 1) := dk_42 (by decide +kernel)
theorem dX12_tryRun_49 : decode cX12_tryRun 49 = .ok (.getfield 340, 3) := dk_180 (a := 1) (b := 84) (by decide +kernel) rfl
theorem dX12_tryRun_52 : decode cX12_tryRun 52 = .ok (.if_icmp .ge (-40), 3) := dk_162 (a := 255) (b := 216) (by decide +kernel) rfl
theorem dX12_tryRun_55 : decode cX12_tryRun 55 = .ok (.aload_n 0, 1) := dk_42 (by decide +kernel)
theorem dX12_tryRun_56 : decode cX12_tryRun 56 = .ok (.getfield 191, 3) := dk_180 (a := 0) (b := 191) (by decide +kernel) rfl
theorem dX12_tryRun_59 : decode cX12_tryRun 59 = .ok (.aload_n 0, 1) := dk_42 (by decide +kernel)
theorem dX12_tryRun_60 : decode cX12_tryRun 60 = .ok (.getfield 140, 3) := dk_180 (a := 0) (b := 140) (by decide +kernel) rfl
theorem dX12_tryRun_63 : decode cX12_tryRun 63 = .ok (.iload_n 1, 1) := dk_27 (by decide +kernel)
theorem dX12_tryRun_64 : decode cX12_tryRun 64 = .ok (.iaload, 1) := dk_46 (by decide +kernel)
theorem dX12_tryRun_65 : decode cX12_tryRun 65 = .ok (.if_icmp .ne (-53), 3) := dk_160 (a := 255) (b := 203) (by decide +kernel) rfl
theorem dX12_tryRun_68 : decode cX12_tryRun 68 = .ok (.aload_n 0, 1) := dk_42 (by decide +kernel)
theorem dX12_tryRun_69 : decode cX12_tryRun 69 = .ok (.getfield 194, 3) := dk_180 (a := 0) (b := 194) (by decide +kernel) rfl
theorem dX12_tryRun_72 : decode cX12_tryRun 72 = .ok (.ifCond .gt 40, 3) := dk_157 (a := 0) (b := 40) (by decide +kernel) rfl
theorem dX12_tryRun_75 : decode cX12_tryRun 75 = .ok (.aload_n 0, 1) := dk_42 (by decide +kernel)
theorem dX12_tryRun_76 : decode cX12_tryRun 76 = .ok (.getfield 191, 3) := dk_180 (a := 0) (b := 191) (by decide +kernel) rfl
theorem dX12_tryRun_79 : decode cX12_tryRun 79 = .ok (.sipush 300, 3) := dk_17 (a := 1) (b := 44) (by decide +kernel) rfl
theorem dX12_tryRun_82 : decode cX12_tryRun 82 = .ok (.if_icmp .eq 30, 3) := dk_159 (a := 0) (b := 30) (by decide +kernel) rfl
theorem dX12_tryRun_85 : decode cX12_tryRun 85 = .ok (.iload_n 2, 1) := dk_28 (by decide +kernel)
theorem dX12_tryRun_86 : decode cX12_tryRun 86 = .ok (.ifCond .lt 26, 3) := dk_155 (a := 0) (b := 26) (by decide +kernel) rfl
theorem dX12_tryRun_89 : decode cX12_tryRun 89 = .ok (.aload_n 0, 1) := dk_42 (by decide +kernel)
theorem dX12_tryRun_90 : decode cX12_tryRun 90 = .ok (.getfield 143, 3) := dk_180 (a := 0) (b := 143) (by decide +kernel) rfl
theorem dX12_tryRun_93 : decode cX12_tryRun 93 = .ok (.iload_n 1, 1) := dk_27 (by decide +kernel)
theorem dX12_tryRun_94 : decode cX12_tryRun 94 = .ok (.iaload, 1) := dk_46 (by decide +kernel)
theorem dX12_tryRun_95 : decode cX12_tryRun 95 = .ok (.iload_n 2, 1) := dk_28 (by decide +kernel)
theorem dX12_tryRun_96 : decode cX12_tryRun 96 = .ok (.if_icmp .eq 16, 3) := dk_159 (a := 0) (b := 16) (by decide +kernel) rfl
theorem dX12_tryRun_99 : decode cX12_tryRun 99 = .ok (.aload_n 0, 1) := dk_42 (by decide +kernel)
theorem dX12_tryRun_100 : decode cX12_tryRun 100 = .ok (.aload_n 0, 1) := dk_42 (by decide +kernel)
theorem dX12_tryRun_101 : decode cX12_tryRun 101 = .ok (.getfield 143, 3) := dk_180 (a := 0) (b := 143) (by decide +kernel) rfl
theorem dX12_tryRun_104 : decode cX12_tryRun 104 = .ok (.iload_n 1, 1) := dk_27 (by decide +kernel)
theorem dX12_tryRun_105 : decode cX12_tryRun 105 = .ok (.iaload, 1) := dk_46 (by decide +kernel)
theorem dX12_tryRun_106 : decode cX12_tryRun 106 = .ok (.invokevirtual 215, 3) := dk_182 (a := 0) (b := 215) (by decide +kernel) rfl
theorem dX12_tryRun_109 : decode cX12_tryRun 109 = .ok (.ifCond .ne 5, 3) := dk_154 (a := 0) (b := 5) (by decide +kernel) rfl
theorem dX12_tryRun_112 : decode cX12_tryRun 112 = .ok (.iconst 0, 1) := dk_3 (by decide +kernel)
theorem dX12_tryRun_113 : decode cX12_tryRun 113 = .ok (.ireturn, 1) := dk_172 (by decide +kernel)
theorem dX12_tryRun_114 : decode cX12_tryRun 114 = .ok (.aload_n 0, 1) := dk_42 (by decide +kernel)
theorem dX12_tryRun_115 : decode cX12_tryRun 115 = .ok (.getfield 143, 3) := dk_180 (a := 0) (b := 143) (by decide +kernel) rfl
theorem dX12_tryRun_118 : decode cX12_tryRun 118 = .ok (.iload_n 1, 1) := dk_27 (by decide +kernel)
theorem dX12_tryRun_119 : decode cX12_tryRun 119 = .ok (.iaload, 1) := dk_46 (by decide +kernel)
theorem dX12_tryRun_120 : decode cX12_tryRun 120 = .ok (.istore_n 2, 1) := dk_61 (by decide +kernel)
theorem dX12_tryRun_121 : decode cX12_tryRun 121 = .ok (.iinc 1 1, 3) := dk_132 (b := 1) (by decide +kernel) rfl
theorem dX12_tryRun_124 : decode cX12_tryRun 124 = .ok (.goto (-112), 3) := dk_167 (a := 255) (b := 144) (by decide +kernel) rfl
theorem dX12_tryRun_127 : decode cX12_tryRun 127 = .ok (.iload_n 1, 1) := dk_27 (by decide +kernel)
theorem dX12_tryRun_128 : decode cX12_tryRun 128 = .ok (.aload_n 0, 1) := dk_42 (by decide +kernel)
theorem dX12_tryRun_129 : decode cX12_tryRun 129 = .ok (.getfield 340, 3) := dk_180 (a := 1) (b := 84) (by decide +kernel) rfl
theorem dX12_tryRun_132 : decode cX12_tryRun 132 = .ok (.if_icmp .ne 7, 3) := dk_160 (a := 0) (b := 7) (by decide +kernel) rfl
theorem dX12_tryRun_135 : decode cX12_tryRun 135 = .ok (.iconst 1, 1) := dk_4 (by decide +kernel)
theorem dX12_tryRun_136 : decode cX12_tryRun 136 = .ok (.goto 4, 3) := dk_167 (a := 0) (b := 4) (by decide +kernel) rfl
theorem dX12_tryRun_139 : decode cX12_tryRun 139 = .ok (.iconst 0, 1) := dk_3 (by decide +kernel)
theorem dX12_tryRun_140 : decode cX12_tryRun 140 = .ok (.ireturn, 1) := dk_172 (by decide +kernel)
theorem dX12_isOver_0 : decode cX12_isOver 0 = .ok (.aload_n 0, 1) := dk_42 (by decide +kernel)
theorem dX12_isOver_1 : decode cX12_isOver 1 = .ok (.dup, 1) := dk_89 (by decide +kernel)
theorem dX12_isOver_2 : decode cX12_isOver 2 = .ok (.getfield 343, 3) := dk_180 (a := 1) (b := 87) (by decide +kernel) rfl
theorem dX12_isOver_5 : decode cX12_isOver 5 = .ok (.iconst 1, 1) := dk_4 (by decide +kernel)
theorem dX12_isOver_6 : decode cX12_isOver 6 = .ok (.iadd, 1) := dk_96 (by decide +kernel)
theorem dX12_isOver_7 : decode cX12_isOver 7 = .ok (.putfield 343, 3) := dk_181 (a := 1) (b := 87) (by decide +kernel) rfl
theorem dX12_isOver_10 : decode cX12_isOver 10 = .ok (.aload_n 0, 1) := dk_42 (by decide +kernel)
theorem dX12_isOver_11 : decode cX12_isOver 11 = .ok (.getfield 194, 3) := dk_180 (a := 0) (b := 194) (by decide +kernel) rfl
theorem dX12_isOver_14 : decode cX12_isOver 14 = .ok (.ifCond .le 71, 3) := dk_158 (a := 0) (b := 71) (by decide +kernel) rfl
theorem dX12_isOver_17 : decode cX12_isOver 17 = .ok (.aload_n 0, 1) := dk_42 (by decide +kernel)
theorem dX12_isOver_18 : decode cX12_isOver 18 = .ok (.getfield 346, 3) := dk_180 (a := 1) (b := 90) (by decide +kernel) rfl
theorem dX12_isOver_21 : decode cX12_isOver 21 = .ok (.ifCond .ne 64, 3) := dk_154 (a := 0) (b := 64) (by decide +kernel) rfl
theorem dX12_isOver_24 : decode cX12_isOver 24 = .ok (.aload_n 0, 1) := dk_42 (by decide +kernel)
theorem dX12_isOver_25 : decode cX12_isOver 25 = .ok (.aload_n 0, 1) := dk_42 (by decide +kernel)
theorem dX12_isOver_26 : decode cX12_isOver 26 = .ok (.getfield 343, 3) := dk_180 (a := 1) (b := 87) (by decide +kernel) rfl
theorem dX12_isOver_29 : decode cX12_isOver 29 = .ok (.putfield 346, 3) := dk_181 (a := 1) (b := 90) (by decide +kernel) rfl
theorem dX12_isOver_32 : decode cX12_isOver 32 = .ok (.aload_n 0, 1) := dk_42 (by decide +kernel)
theorem dX12_isOver_33 : decode cX12_isOver 33 = .ok (.aload_n 0, 1) := dk_42 (by decide +kernel)
theorem dX12_isOver_34 : decode cX12_isOver 34 = .ok (.getfield 340, 3) := dk_180 (a := 1) (b := 84) (by decide +kernel) rfl
theorem dX12_isOver_37 : decode cX12_isOver 37 = .ok (.putfield 349, 3) := dk_181 (a := 1) (b := 93) (by decide +kernel) rfl
theorem dX12_isOver_40 : decode cX12_isOver 40 = .ok (.iconst 0, 1) := dk_3 (by decide +kernel)
theorem dX12_isOver_41 : decode cX12_isOver 41 = .ok (.istore_n 1, 1) := dk_60 (by decide +kernel)
theorem dX12_isOver_42 : decode cX12_isOver 42 = .ok (.iload_n 1, 1) := dk_27 (by decide +kernel)
theorem dX12_isOver_43 : decode cX12_isOver 43 = .ok (.iconst 2, 1) := dk_5 (by decide +kernel)
theorem dX12_isOver_44 : decode cX12_isOver 44 = .ok (.if_icmp .ge 33, 3) := dk_162 (a := 0) (b := 33) (by decide +kernel) rfl
theorem dX12_isOver_47 : decode cX12_isOver 47 = .ok (.aload_n 0, 1) := dk_42 (by decide +kernel)
theorem dX12_isOver_48 : decode cX12_isOver 48 = .ok (.getfield 134, 3) := dk_180 (a := 0) (b := 134) (by decide +kernel) rfl
theorem dX12_isOver_51 : decode cX12_isOver 51 = .ok (.iload_n 1, 1) := dk_27 (by decide +kernel)
theorem dX12_isOver_52 : decode cX12_isOver 52 = .ok (.aload_n 0, 1) := dk_42 (by decide +kernel)
theorem dX12_isOver_53 : decode cX12_isOver 53 = .ok (.getfield 140, 3) := dk_180 (a := 0) (b := 140) (by decide +kernel) rfl
theorem dX12_isOver_56 : decode cX12_isOver 56 = .ok (.iload_n 1, 1) := dk_27 (by decide +kernel)
theorem dX12_isOver_57 : decode cX12_isOver 57 = .ok (.iaload, 1) := dk_46 (by decide +kernel)
theorem dX12_isOver_58 : decode cX12_isOver 58 = .ok (.iastore, 1) := dk_79 (by decide +kernel)
theorem dX12_isOver_59 : decode cX12_isOver 59 = .ok (.aload_n 0, 1) := dk_42 (by decide +kernel)
theorem dX12_isOver_60 : decode cX12_isOver 60 = .ok (.getfield 137, 3) := dk_180 (a := 0) (b := 137) (by decide +kernel) rfl
theorem dX12_isOver_63 : decode cX12_isOver 63 = .ok (.iload_n 1, 1) := dk_27 (by decide +kernel)
theorem dX12_isOver_64 : decode cX12_isOver 64 = .ok (.aload_n 0, 1) := dk_42 (by decide +kernel)
theorem dX12_isOver_65 : decode cX12_isOver 65 = .ok (.getfield 143, 3) := dk_180 (a := 0) (b := 143) (by decide +kernel) rfl
theorem dX12_isOver_68 : decode cX12_isOver 68 = .ok (.iload_n 1, 1) := dk_27 (by decide +kernel)
theorem dX12_isOver_69 : decode cX12_isOver 69 = .ok (.iaload, 1) := dk_46 (by decide +kernel)
theorem dX12_isOver_70 : decode cX12_isOver 70 = .ok (.iastore, 1) := dk_79 (by decide +kernel)
theorem dX12_isOver_71 : decode cX12_isOver 71 = .ok (.iinc 1 1, 3) := dk_132 (b := 1) (by decide +kernel) rfl
theorem dX12_isOver_74 : decode cX12_isOver 74 = .ok (.goto (-32), 3) := dk_167 (a := 255) (b := 224) (by decide +kernel) rfl
theorem dX12_isOver_77 : decode cX12_isOver 77 = .ok (.aload_n 0, 1) := dk_42 (by decide +kernel)
theorem dX12_isOver_78 : decode cX12_isOver 78 = .ok (.aload_n 0, 1) := dk_42 (by decide +kernel)
theorem dX12_isOver_79 : decode cX12_isOver 79 = .ok (.getfield 194, 3) := dk_180 (a := 0) (b := 194) (by decide +kernel) rfl
theorem dX12_isOver_82 : decode cX12_isOver 82 = .ok (.putfield 352, 3) := dk_181 (a := 1) (b := 96) (by decide +kernel) rfl
theorem dX12_isOver_85 : decode cX12_isOver 85 = .ok (.aload_n 0, 1) := dk_42 (by decide +kernel)
theorem dX12_isOver_86 : decode cX12_isOver 86 = .ok (.getfield 346, 3) := dk_180 (a := 1) (b := 90) (by decide +kernel) rfl
theorem dX12_isOver_89 : decode cX12_isOver 89 = .ok (.ifCond .gt 14, 3) := dk_157 (a := 0) (b := 14) (by decide +kernel) rfl
theorem dX12_isOver_92 : decode cX12_isOver 92 = .ok (.aload_n 0, 1) := dk_42 (by decide +kernel)
theorem dX12_isOver_93 : decode cX12_isOver 93 = .ok (.getfield 343, 3) := dk_180 (a := 1) (b := 87) (by decide +kernel) rfl
theorem dX12_isOver_96 : decode cX12_isOver 96 = .ok (.aload_n 0, 1) := dk_42 (by decide +kernel)
theorem dX12_isOver_97 : decode cX12_isOver 97 = .ok (.getfield 355, 3) := dk_180 (a := 1) (b := 99) (by decide +kernel) rfl
theorem dX12_isOver_100 : decode cX12_isOver 100 = .ok (.if_icmp .ne 7, 3) := dk_160 (a := 0) (b := 7) (by decide +kernel) rfl
theorem dX12_isOver_103 : decode cX12_isOver 103 = .ok (.iconst 1, 1) := dk_4 (by decide +kernel)
theorem dX12_isOver_104 : decode cX12_isOver 104 = .ok (.goto 4, 3) := dk_167 (a := 0) (b := 4) (by decide +kernel) rfl
theorem dX12_isOver_107 : decode cX12_isOver 107 = .ok (.iconst 0, 1) := dk_3 (by decide +kernel)
theorem dX12_isOver_108 : decode cX12_isOver 108 = .ok (.ireturn, 1) := dk_172 (by decide +kernel)
theorem dX12_tryLast_0 : decode cX12_tryLast 0 = .ok (.iload_n 2, 1) := dk_28 (by decide +kernel)
theorem dX12_tryLast_1 : decode cX12_tryLast 1 = .ok (.istore 4, 2) := dk_54 (by decide +kernel)
theorem dX12_tryLast_3 : decode cX12_tryLast 3 = .ok (.iload 4, 2) := dk_21 (by decide +kernel)
theorem dX12_tryLast_5 : decode cX12_tryLast 5 = .ok (.iload_n 3, 1) := dk_29 (by decide +kernel)
theorem dX12_tryLast_6 : decode cX12_tryLast 6 = .ok (.if_icmp .ge 63, 3) := dk_162 (a := 0) (b := 63) (by decide +kernel) rfl
theorem dX12_tryLast_9 : decode cX12_tryLast 9 = .ok (.iconst 0, 1) := dk_3 (by decide +kernel)
theorem dX12_tryLast_10 : decode cX12_tryLast 10 = .ok (.istore 5, 2) := dk_54 (by decide +kernel)
theorem dX12_tryLast_12 : decode cX12_tryLast 12 = .ok (.iload 5, 2) := dk_21 (by decide +kernel)
theorem dX12_tryLast_14 : decode cX12_tryLast 14 = .ok (.iconst 4, 1) := dk_7 (by decide +kernel)
theorem dX12_tryLast_15 : decode cX12_tryLast 15 = .ok (.if_icmp .ge 48, 3) := dk_162 (a := 0) (b := 48) (by decide +kernel) rfl
theorem dX12_tryLast_18 : decode cX12_tryLast 18 = .ok (.aload_n 0, 1) := dk_42 (by decide +kernel)
theorem dX12_tryLast_19 : decode cX12_tryLast 19 = .ok (.iload_n 1, 1) := dk_27 (by decide +kernel)
theorem dX12_tryLast_20 : decode cX12_tryLast 20 = .ok (.iconst 1, 1) := dk_4 (by decide +kernel)
theorem dX12_tryLast_21 : decode cX12_tryLast 21 = .ok (.iadd, 1) := dk_96 (by decide +kernel)
theorem dX12_tryLast_22 : decode cX12_tryLast 22 = .ok (.putfield 340, 3) := dk_181 (a := 1) (b := 84) (by decide +kernel) rfl
theorem dX12_tryLast_25 : decode cX12_tryLast 25 = .ok (.aload_n 0, 1) := dk_42 (by decide +kernel)
theorem dX12_tryLast_26 : decode cX12_tryLast 26 = .ok (.getfield 140, 3) := dk_180 (a := 0) (b := 140) (by decide +kernel) rfl
theorem dX12_tryLast_29 : decode cX12_tryLast 29 = .ok (.iload_n 1, 1) := dk_27 (by decide +kernel)
theorem dX12_tryLast_30 : decode cX12_tryLast 30 = .ok (.iload 4, 2) := dk_21 (by decide +kernel)
theorem dX12_tryLast_32 : decode cX12_tryLast 32 = .ok (.iastore, 1) := dk_79 (by decide +kernel)
theorem dX12_tryLast_33 : decode cX12_tryLast 33 = .ok (.aload_n 0, 1) := dk_42 (by decide +kernel)
theorem dX12_tryLast_34 : decode cX12_tryLast 34 = .ok (.getfield 143, 3) := dk_180 (a := 0) (b := 143) (by decide +kernel) rfl
theorem dX12_tryLast_37 : decode cX12_tryLast 37 = .ok (.iload_n 1, 1) := dk_27 (by decide +kernel)
theorem dX12_tryLast_38 : decode cX12_tryLast 38 = .ok (.iload 5, 2) := dk_21 (by decide +kernel)
theorem dX12_tryLast_40 : decode cX12_tryLast 40 = .ok (.iastore, 1) := dk_79 (by decide +kernel)
theorem dX12_tryLast_41 : decode cX12_tryLast 41 = .ok (.aload_n 0, 1) := dk_42 (by decide +kernel)
theorem dX12_tryLast_42 : decode cX12_tryLast 42 = .ok (.invokevirtual 358, 3) := dk_182 (a := 1) (b := 102) (by decide +kernel) rfl
theorem dX12_tryLast_45 : decode cX12_tryLast 45 = .ok (.ifCond .eq 12, 3) := dk_153 (a := 0) (b := 12) (by decide +kernel) rfl
theorem dX12_tryLast_48 : decode cX12_tryLast 48 = .ok (.aload_n 0, 1) := dk_42 (by decide +kernel)
theorem dX12_tryLast_49 : decode cX12_tryLast 49 = .ok (.invokevirtual 362, 3) := dk_182 (a := 1) (b := 106) (by decide +kernel) rfl
theorem dX12_tryLast_52 : decode cX12_tryLast 52 = .ok (.ifCond .eq 5, 3) := dk_153 (a := 0) (b := 5) (by decide +kernel) rfl
theorem dX12_tryLast_55 : decode cX12_tryLast 55 = .ok (.iconst 1, 1) := dk_4 (by decide +kernel)
theorem dX12_tryLast_56 : decode cX12_tryLast 56 = .ok (.ireturn, 1) := dk_172 (by decide +kernel)
theorem dX12_tryLast_57 : decode cX12_tryLast 57 = .ok (.iinc 5 1, 3) := dk_132 (b := 1) (by decide +kernel) rfl
theorem dX12_tryLast_60 : decode cX12_tryLast 60 = .ok (.goto (-48), 3) := dk_167 (a := 255) (b := 208) (by decide +kernel) rfl
theorem dX12_tryLast_63 : decode cX12_tryLast 63 = .ok (.iinc 4 1, 3) := dk_132 (b := 1) (by decide +kernel) rfl
theorem dX12_tryLast_66 : decode cX12_tryLast 66 = .ok (.goto (-63), 3) := dk_167 (a := 255) (b := 193) (by decide +kernel) rfl
theorem dX12_tryLast_69 : decode cX12_tryLast 69 = .ok (.iconst 0, 1) := dk_3 (by decide +kernel)
theorem dX12_tryLast_70 : decode cX12_tryLast 70 = .ok (.ireturn, 1) := dk_172 (by decide +kernel)
theorem dX12_tryBoth_0 : decode cX12_tryBoth 0 = .ok (.iconst 1, 1) := dk_4 (by decide +kernel)
theorem dX12_tryBoth_1 : decode cX12_tryBoth 1 = .ok (.istore_n 2, 1) := dk_61 (by decide +kernel)
theorem dX12_tryBoth_2 : decode cX12_tryBoth 2 = .ok (.iload_n 2, 1) := dk_28 (by decide +kernel)
theorem dX12_tryBoth_3 : decode cX12_tryBoth 3 = .ok (.iload_n 1, 1) := dk_27 (by decide +kernel)
theorem dX12_tryBoth_4 : decode cX12_tryBoth 4 = .ok (.if_icmp .ge 69, 3) := dk_162 (a := 0) (b := 69) (by decide +kernel) rfl
theorem dX12_tryBoth_7 : decode cX12_tryBoth 7 = .ok (.iconst 0, 1) := dk_3 (by decide +kernel)
theorem dX12_tryBoth_8 : decode cX12_tryBoth 8 = .ok (.istore_n 3, 1) := dk_62 (by decide +kernel)
theorem dX12_tryBoth_9 : decode cX12_tryBoth 9 = .ok (.iload_n 3, 1) := dk_29 (by decide +kernel)
theorem dX12_tryBoth_10 : decode cX12_tryBoth 10 = .ok (.iconst 4, 1) := dk_7 (by decide +kernel)
theorem dX12_tryBoth_11 : decode cX12_tryBoth 11 = .ok (.if_icmp .ge 56, 3) := dk_162 (a := 0) (b := 56) (by decide +kernel) rfl
theorem dX12_tryBoth_14 : decode cX12_tryBoth 14 = .ok (.aload_n 0, 1) := dk_42 (by decide +kernel)
theorem dX12_tryBoth_15 : decode cX12_tryBoth 15 = .ok (.iconst 1, 1) := dk_4 (by decide +kernel)
theorem dX12_tryBoth_16 : decode cX12_tryBoth 16 = .ok (.putfield 340, 3) := dk_181 (a := 1) (b := 84) (by decide +kernel) rfl
theorem dX12_tryBoth_19 : decode cX12_tryBoth 19 = .ok (.aload_n 0, 1) := dk_42 (by decide +kernel)
theorem dX12_tryBoth_20 : decode cX12_tryBoth 20 = .ok (.getfield 140, 3) := dk_180 (a := 0) (b := 140) (by decide +kernel) rfl
theorem dX12_tryBoth_23 : decode cX12_tryBoth 23 = .ok (.iconst 0, 1) := dk_3 (by decide +kernel)
theorem dX12_tryBoth_24 : decode cX12_tryBoth 24 = .ok (.iload_n 2, 1) := dk_28 (by decide +kernel)
theorem dX12_tryBoth_25 : decode cX12_tryBoth 25 = .ok (.iastore, 1) := dk_79 (by decide +kernel)
theorem dX12_tryBoth_26 : decode cX12_tryBoth 26 = .ok (.aload_n 0, 1) := dk_42 (by decide +kernel)
theorem dX12_tryBoth_27 : decode cX12_tryBoth 27 = .ok (.getfield 143, 3) := dk_180 (a := 0) (b := 143) (by decide +kernel) rfl
theorem dX12_tryBoth_30 : decode cX12_tryBoth 30 = .ok (.iconst 0, 1) := dk_3 (by decide +kernel)
theorem dX12_tryBoth_31 : decode cX12_tryBoth 31 = .ok (.iload_n 3, 1) := dk_29 (by decide +kernel)
theorem dX12_tryBoth_32 : decode cX12_tryBoth 32 = .ok (.iastore, 1) := dk_79 (by decide +kernel)
theorem dX12_tryBoth_33 : decode cX12_tryBoth 33 = .ok (.aload_n 0, 1) := dk_42 (by decide +kernel)
theorem dX12_tryBoth_34 : decode cX12_tryBoth 34 = .ok (.invokevirtual 358, 3) := dk_182 (a := 1) (b := 102) (by decide +kernel) rfl
theorem dX12_tryBoth_37 : decode cX12_tryBoth 37 = .ok (.ifCond .eq 24, 3) := dk_153 (a := 0) (b := 24) (by decide +kernel) rfl
theorem dX12_tryBoth_40 : decode cX12_tryBoth 40 = .ok (.aload_n 0, 1) := dk_42 (by decide +kernel)
theorem dX12_tryBoth_41 : decode cX12_tryBoth 41 = .ok (.getfield 191, 3) := dk_180 (a := 0) (b := 191) (by decide +kernel) rfl
theorem dX12_tryBoth_44 : decode cX12_tryBoth 44 = .ok (.istore 4, 2) := dk_54 (by decide +kernel)
theorem dX12_tryBoth_46 : decode cX12_tryBoth 46 = .ok (.aload_n 0, 1) := dk_42 (by decide +kernel)
theorem dX12_tryBoth_47 : decode cX12_tryBoth 47 = .ok (.iconst 1, 1) := dk_4 (by decide +kernel)
theorem dX12_tryBoth_48 : decode cX12_tryBoth 48 = .ok (.iload_n 2, 1) := dk_28 (by decide +kernel)
theorem dX12_tryBoth_49 : decode cX12_tryBoth 49 = .ok (.iconst 1, 1) := dk_4 (by decide +kernel)
theorem dX12_tryBoth_50 : decode cX12_tryBoth 50 = .ok (.iadd, 1) := dk_96 (by decide +kernel)
theorem dX12_tryBoth_51 : decode cX12_tryBoth 51 = .ok (.iload 4, 2) := dk_21 (by decide +kernel)
theorem dX12_tryBoth_53 : decode cX12_tryBoth 53 = .ok (.invokevirtual 365, 3) := dk_182 (a := 1) (b := 109) (by decide +kernel) rfl
theorem dX12_tryBoth_56 : decode cX12_tryBoth 56 = .ok (.ifCond .eq 5, 3) := dk_153 (a := 0) (b := 5) (by decide +kernel) rfl
theorem dX12_tryBoth_59 : decode cX12_tryBoth 59 = .ok (.iconst 1, 1) := dk_4 (by decide +kernel)
theorem dX12_tryBoth_60 : decode cX12_tryBoth 60 = .ok (.ireturn, 1) := dk_172 (by decide +kernel)
theorem dX12_tryBoth_61 : decode cX12_tryBoth 61 = .ok (.iinc 3 1, 3) := dk_132 (b := 1) (by decide +kernel) rfl
theorem dX12_tryBoth_64 : decode cX12_tryBoth 64 = .ok (.goto (-55), 3) := dk_167 (a := 255) (b := 201) (by decide +kernel) rfl
theorem dX12_tryBoth_67 : decode cX12_tryBoth 67 = .ok (.iinc 2 1, 3) := dk_132 (b := 1) (by decide +kernel) rfl
theorem dX12_tryBoth_70 : decode cX12_tryBoth 70 = .ok (.goto (-68), 3) := dk_167 (a := 255) (b := 188) (by decide +kernel) rfl
theorem dX12_tryBoth_73 : decode cX12_tryBoth 73 = .ok (.iconst 0, 1) := dk_3 (by decide +kernel)
theorem dX12_tryBoth_74 : decode cX12_tryBoth 74 = .ok (.ireturn, 1) := dk_172 (by decide +kernel)
theorem dX12_find_0 : decode cX12_find 0 = .ok (.aload_n 0, 1) := dk_42 (by decide +kernel)
theorem dX12_find_1 : decode cX12_find 1 = .ok (.iconst 0, 1) := dk_3 (by decide +kernel)
theorem dX12_find_2 : decode cX12_find 2 = .ok (.putfield 164, 3) := dk_181 (a := 0) (b := 164) (by decide +kernel) rfl
theorem dX12_find_5 : decode cX12_find 5 = .ok (.iload_n 1, 1) := dk_27 (by decide +kernel)
theorem dX12_find_6 : decode cX12_find 6 = .ok (.i2l, 1) := dk_133 (by decide +kernel)
theorem dX12_find_7 : decode cX12_find 7 = .ok (.lconst 0, 1) := dk_9 (by decide +kernel)
theorem dX12_find_8 : decode cX12_find 8 = .ok (.ldc2_w 325, 3) := dk_20 (a := 1) (b := 69) (by decide +kernel) rfl
theorem dX12_find_11 : decode cX12_find 11 = .ok (.invokestatic 169, 3) := dk_184 (a := 0) (b := 169) (by decide +kernel) rfl
theorem dX12_find_14 : decode cX12_find 14 = .ok (.ifCond .eq 15, 3) := dk_153 (a := 0) (b := 15) (by decide +kernel) rfl
theorem dX12_find_17 : decode cX12_find 17 = .ok (.iload_n 2, 1) := dk_28 (by decide +kernel)
theorem dX12_find_18 : decode cX12_find 18 = .ok (.i2l, 1) := dk_133 (by decide +kernel)
theorem dX12_find_19 : decode cX12_find 19 = .ok (.lconst 1, 1) := dk_10 (by decide +kernel)
theorem dX12_find_20 : decode cX12_find 20 = .ok (.ldc2_w 180, 3) := dk_20 (a := 0) (b := 180) (by decide +kernel) rfl
theorem dX12_find_23 : decode cX12_find 23 = .ok (.invokestatic 169, 3) := dk_184 (a := 0) (b := 169) (by decide +kernel) rfl
theorem dX12_find_26 : decode cX12_find 26 = .ok (.ifCond .ne 5, 3) := dk_154 (a := 0) (b := 5) (by decide +kernel) rfl
theorem dX12_find_29 : decode cX12_find 29 = .ok (.iconst (-1), 1) := dk_2 (by decide +kernel)
theorem dX12_find_30 : decode cX12_find 30 = .ok (.ireturn, 1) := dk_172 (by decide +kernel)
theorem dX12_find_31 : decode cX12_find 31 = .ok (.aload_n 0, 1) := dk_42 (by decide +kernel)
theorem dX12_find_32 : decode cX12_find 32 = .ok (.iconst 0, 1) := dk_3 (by decide +kernel)
theorem dX12_find_33 : decode cX12_find 33 = .ok (.putfield 218, 3) := dk_181 (a := 0) (b := 218) (by decide +kernel) rfl
theorem dX12_find_36 : decode cX12_find 36 = .ok (.aload_n 0, 1) := dk_42 (by decide +kernel)
theorem dX12_find_37 : decode cX12_find 37 = .ok (.iconst 0, 1) := dk_3 (by decide +kernel)
theorem dX12_find_38 : decode cX12_find 38 = .ok (.putfield 343, 3) := dk_181 (a := 1) (b := 87) (by decide +kernel) rfl
theorem dX12_find_41 : decode cX12_find 41 = .ok (.aload_n 0, 1) := dk_42 (by decide +kernel)
theorem dX12_find_42 : decode cX12_find 42 = .ok (.iload_n 2, 1) := dk_28 (by decide +kernel)
theorem dX12_find_43 : decode cX12_find 43 = .ok (.putfield 355, 3) := dk_181 (a := 1) (b := 99) (by decide +kernel) rfl
theorem dX12_find_46 : decode cX12_find 46 = .ok (.aload_n 0, 1) := dk_42 (by decide +kernel)
theorem dX12_find_47 : decode cX12_find 47 = .ok (.iconst 0, 1) := dk_3 (by decide +kernel)
theorem dX12_find_48 : decode cX12_find 48 = .ok (.putfield 346, 3) := dk_181 (a := 1) (b := 90) (by decide +kernel) rfl
theorem dX12_find_51 : decode cX12_find 51 = .ok (.aload_n 0, 1) := dk_42 (by decide +kernel)
theorem dX12_find_52 : decode cX12_find 52 = .ok (.iconst 0, 1) := dk_3 (by decide +kernel)
theorem dX12_find_53 : decode cX12_find 53 = .ok (.putfield 340, 3) := dk_181 (a := 1) (b := 84) (by decide +kernel) rfl
theorem dX12_find_56 : decode cX12_find 56 = .ok (.aload_n 0, 1) := dk_42 (by decide +kernel)
theorem dX12_find_57 : decode cX12_find 57 = .ok (.invokevirtual 358, 3) := dk_182 (a := 1) (b := 102) (by decide +kernel) rfl
theorem dX12_find_60 : decode cX12_find 60 = .ok (.istore_n 3, 1) := dk_62 (by decide +kernel)
theorem dX12_find_61 : decode cX12_find 61 = .ok (.aload_n 0, 1) := dk_42 (by decide +kernel)
theorem dX12_find_62 : decode cX12_find 62 = .ok (.getfield 191, 3) := dk_180 (a := 0) (b := 191) (by decide +kernel) rfl
theorem dX12_find_65 : decode cX12_find 65 = .ok (.istore 4, 2) := dk_54 (by decide +kernel)
theorem dX12_find_67 : decode cX12_find 67 = .ok (.aload_n 0, 1) := dk_42 (by decide +kernel)
theorem dX12_find_68 : decode cX12_find 68 = .ok (.invokevirtual 362, 3) := dk_182 (a := 1) (b := 106) (by decide +kernel) rfl
theorem dX12_find_71 : decode cX12_find 71 = .ok (.istore 5, 2) := dk_54 (by decide +kernel)
theorem dX12_find_73 : decode cX12_find 73 = .ok (.iload 5, 2) := dk_21 (by decide +kernel)
theorem dX12_find_75 : decode cX12_find 75 = .ok (.ifCond .ne 18, 3) := dk_154 (a := 0) (b := 18) (by decide +kernel) rfl
theorem dX12_find_78 : decode cX12_find 78 = .ok (.iload_n 1, 1) := dk_27 (by decide +kernel)
theorem dX12_find_79 : decode cX12_find 79 = .ok (.ifCond .eq 14, 3) := dk_153 (a := 0) (b := 14) (by decide +kernel) rfl
theorem dX12_find_82 : decode cX12_find 82 = .ok (.aload_n 0, 1) := dk_42 (by decide +kernel)
theorem dX12_find_83 : decode cX12_find 83 = .ok (.iconst 0, 1) := dk_3 (by decide +kernel)
theorem dX12_find_84 : decode cX12_find 84 = .ok (.iconst 1, 1) := dk_4 (by decide +kernel)
theorem dX12_find_85 : decode cX12_find 85 = .ok (.iload 4, 2) := dk_21 (by decide +kernel)
theorem dX12_find_87 : decode cX12_find 87 = .ok (.invokevirtual 365, 3) := dk_182 (a := 1) (b := 109) (by decide +kernel) rfl
theorem dX12_find_90 : decode cX12_find 90 = .ok (.ifCond .eq 7, 3) := dk_153 (a := 0) (b := 7) (by decide +kernel) rfl
theorem dX12_find_93 : decode cX12_find 93 = .ok (.iconst 1, 1) := dk_4 (by decide +kernel)
theorem dX12_find_94 : decode cX12_find 94 = .ok (.goto 4, 3) := dk_167 (a := 0) (b := 4) (by decide +kernel) rfl
theorem dX12_find_97 : decode cX12_find 97 = .ok (.iconst 0, 1) := dk_3 (by decide +kernel)
theorem dX12_find_98 : decode cX12_find 98 = .ok (.istore 5, 2) := dk_54 (by decide +kernel)
theorem dX12_find_100 : decode cX12_find 100 = .ok (.iload 5, 2) := dk_21 (by decide +kernel)
theorem dX12_find_102 : decode cX12_find 102 = .ok (.ifCond .ne 17, 3) := dk_154 (a := 0) (b := 17) (by decide +kernel) rfl
theorem dX12_find_105 : decode cX12_find 105 = .ok (.iload_n 1, 1) := dk_27 (by decide +kernel)
theorem dX12_find_106 : decode cX12_find 106 = .ok (.iconst 1, 1) := dk_4 (by decide +kernel)
theorem dX12_find_107 : decode cX12_find 107 = .ok (.if_icmp .eq 12, 3) := dk_159 (a := 0) (b := 12) (by decide +kernel) rfl
theorem dX12_find_110 : decode cX12_find 110 = .ok (.aload_n 0, 1) := dk_42 (by decide +kernel)
theorem dX12_find_111 : decode cX12_find 111 = .ok (.iload 4, 2) := dk_21 (by decide +kernel)
theorem dX12_find_113 : decode cX12_find 113 = .ok (.invokevirtual 369, 3) := dk_182 (a := 1) (b := 113) (by decide +kernel) rfl
theorem dX12_find_116 : decode cX12_find 116 = .ok (.ifCond .eq 7, 3) := dk_153 (a := 0) (b := 7) (by decide +kernel) rfl
theorem dX12_find_119 : decode cX12_find 119 = .ok (.iconst 1, 1) := dk_4 (by decide +kernel)
theorem dX12_find_120 : decode cX12_find 120 = .ok (.goto 4, 3) := dk_167 (a := 0) (b := 4) (by decide +kernel) rfl
theorem dX12_find_123 : decode cX12_find 123 = .ok (.iconst 0, 1) := dk_3 (by decide +kernel)
theorem dX12_find_124 : decode cX12_find 124 = .ok (.istore 5, 2) := dk_54 (by decide +kernel)
theorem dX12_find_126 : decode cX12_find 126 = .ok (.aload_n 0, 1) := dk_42 (by decide +kernel)
theorem dX12_find_127 : decode cX12_find 127 = .ok (.getfield 346, 3) := dk_180 (a := 1) (b := 90) (by decide +kernel) rfl
theorem dX12_find_130 : decode cX12_find 130 = .ok (.ireturn, 1) := dk_172 (by decide +kernel)
theorem dX12_found_0 : decode cX12_found 0 = .ok (.aload_n 0, 1) := dk_42 (by decide +kernel)
theorem dX12_found_1 : decode cX12_found 1 = .ok (.iconst 0, 1) := dk_3 (by decide +kernel)
theorem dX12_found_2 : decode cX12_found 2 = .ok (.putfield 164, 3) := dk_181 (a := 0) (b := 164) (by decide +kernel) rfl
theorem dX12_found_5 : decode cX12_found 5 = .ok (.iload_n 1, 1) := dk_27 (by decide +kernel)
theorem dX12_found_6 : decode cX12_found 6 = .ok (.i2l, 1) := dk_133 (by decide +kernel)
theorem dX12_found_7 : decode cX12_found 7 = .ok (.lconst 0, 1) := dk_9 (by decide +kernel)
theorem dX12_found_8 : decode cX12_found 8 = .ok (.ldc2_w 372, 3) := dk_20 (a := 1) (b := 116) (by decide +kernel) rfl
theorem dX12_found_11 : decode cX12_found 11 = .ok (.invokestatic 169, 3) := dk_184 (a := 0) (b := 169) (by decide +kernel) rfl
theorem dX12_found_14 : decode cX12_found 14 = .ok (.ifCond .ne 5, 3) := dk_154 (a := 0) (b := 5) (by decide +kernel) rfl
theorem dX12_found_17 : decode cX12_found 17 = .ok (.iconst (-1), 1) := dk_2 (by decide +kernel)
theorem dX12_found_18 : decode cX12_found 18 = .ok (.ireturn, 1) := dk_172 (by decide +kernel)
theorem dX12_found_19 : decode cX12_found 19 = .ok (.iload_n 1, 1) := dk_27 (by decide +kernel)
theorem dX12_found_20 : decode cX12_found 20 = .ok (.bipush 6, 2) := dk_16 (a := 6) (by decide +kernel) rfl
theorem dX12_found_22 : decode cX12_found 22 = .ok (.if_icmp .ne 8, 3) := dk_160 (a := 0) (b := 8) (by decide +kernel) rfl
theorem dX12_found_25 : decode cX12_found 25 = .ok (.aload_n 0, 1) := dk_42 (by decide +kernel)
theorem dX12_found_26 : decode cX12_found 26 = .ok (.getfield 343, 3) := dk_180 (a := 1) (b := 87) (by decide +kernel) rfl
theorem dX12_found_29 : decode cX12_found 29 = .ok (.ireturn, 1) := dk_172 (by decide +kernel)
theorem dX12_found_30 : decode cX12_found 30 = .ok (.aload_n 0, 1) := dk_42 (by decide +kernel)
theorem dX12_found_31 : decode cX12_found 31 = .ok (.getfield 346, 3) := dk_180 (a := 1) (b := 90) (by decide +kernel) rfl
theorem dX12_found_34 : decode cX12_found 34 = .ok (.ifCond .ne 6, 3) := dk_154 (a := 0) (b := 6) (by decide +kernel) rfl
theorem dX12_found_37 : decode cX12_found 37 = .ok (.bipush (-2), 2) := dk_16 (a := 254) (by decide +kernel) rfl
theorem dX12_found_39 : decode cX12_found 39 = .ok (.ireturn, 1) := dk_172 (by decide +kernel)
theorem dX12_found_40 : decode cX12_found 40 = .ok (.iload_n 1, 1) := dk_27 (by decide +kernel)
theorem dX12_found_41 : decode cX12_found 41 = .ok (.ifCond .eq 8, 3) := dk_153 (a := 0) (b := 8) (by decide +kernel) rfl
theorem dX12_found_44 : decode cX12_found 44 = .ok (.iload_n 1, 1) := dk_27 (by decide +kernel)
theorem dX12_found_45 : decode cX12_found 45 = .ok (.iconst 5, 1) := dk_8 (by decide +kernel)
theorem dX12_found_46 : decode cX12_found 46 = .ok (.if_icmp .ne 19, 3) := dk_160 (a := 0) (b := 19) (by decide +kernel) rfl
theorem dX12_found_49 : decode cX12_found 49 = .ok (.iload_n 1, 1) := dk_27 (by decide +kernel)
theorem dX12_found_50 : decode cX12_found 50 = .ok (.ifCond .ne 10, 3) := dk_154 (a := 0) (b := 10) (by decide +kernel) rfl
theorem dX12_found_53 : decode cX12_found 53 = .ok (.aload_n 0, 1) := dk_42 (by decide +kernel)
theorem dX12_found_54 : decode cX12_found 54 = .ok (.getfield 349, 3) := dk_180 (a := 1) (b := 93) (by decide +kernel) rfl
theorem dX12_found_57 : decode cX12_found 57 = .ok (.goto 7, 3) := dk_167 (a := 0) (b := 7) (by decide +kernel) rfl
theorem dX12_found_60 : decode cX12_found 60 = .ok (.aload_n 0, 1) := dk_42 (by decide +kernel)
theorem dX12_found_61 : decode cX12_found 61 = .ok (.getfield 352, 3) := dk_180 (a := 1) (b := 96) (by decide +kernel) rfl
theorem dX12_found_64 : decode cX12_found 64 = .ok (.ireturn, 1) := dk_172 (by decide +kernel)
theorem dX12_found_65 : decode cX12_found 65 = .ok (.iload_n 1, 1) := dk_27 (by decide +kernel)
theorem dX12_found_66 : decode cX12_found 66 = .ok (.iconst 3, 1) := dk_6 (by decide +kernel)
theorem dX12_found_67 : decode cX12_found 67 = .ok (.if_icmp .ge 7, 3) := dk_162 (a := 0) (b := 7) (by decide +kernel) rfl
theorem dX12_found_70 : decode cX12_found 70 = .ok (.iconst 0, 1) := dk_3 (by decide +kernel)
theorem dX12_found_71 : decode cX12_found 71 = .ok (.goto 4, 3) := dk_167 (a := 0) (b := 4) (by decide +kernel) rfl
theorem dX12_found_74 : decode cX12_found 74 = .ok (.iconst 1, 1) := dk_4 (by decide +kernel)
theorem dX12_found_75 : decode cX12_found 75 = .ok (.istore_n 2, 1) := dk_61 (by decide +kernel)
theorem dX12_found_76 : decode cX12_found 76 = .ok (.iload_n 2, 1) := dk_28 (by decide +kernel)
theorem dX12_found_77 : decode cX12_found 77 = .ok (.aload_n 0, 1) := dk_42 (by decide +kernel)
theorem dX12_found_78 : decode cX12_found 78 = .ok (.getfield 349, 3) := dk_180 (a := 1) (b := 93) (by decide +kernel) rfl
theorem dX12_found_81 : decode cX12_found 81 = .ok (.if_icmp .lt 8, 3) := dk_161 (a := 0) (b := 8) (by decide +kernel) rfl
theorem dX12_found_84 : decode cX12_found 84 = .ok (.bipush (-2), 2) := dk_16 (a := 254) (by decide +kernel) rfl
theorem dX12_found_86 : decode cX12_found 86 = .ok (.goto 25, 3) := dk_167 (a := 0) (b := 25) (by decide +kernel) rfl
theorem dX12_found_89 : decode cX12_found 89 = .ok (.iload_n 1, 1) := dk_27 (by decide +kernel)
theorem dX12_found_90 : decode cX12_found 90 = .ok (.iconst 2, 1) := dk_5 (by decide +kernel)
theorem dX12_found_91 : decode cX12_found 91 = .ok (.irem, 1) := dk_112 (by decide +kernel)
theorem dX12_found_92 : decode cX12_found 92 = .ok (.iconst 1, 1) := dk_4 (by decide +kernel)
theorem dX12_found_93 : decode cX12_found 93 = .ok (.if_icmp .ne 12, 3) := dk_160 (a := 0) (b := 12) (by decide +kernel) rfl
theorem dX12_found_96 : decode cX12_found 96 = .ok (.aload_n 0, 1) := dk_42 (by decide +kernel)
theorem dX12_found_97 : decode cX12_found 97 = .ok (.getfield 134, 3) := dk_180 (a := 0) (b := 134) (by decide +kernel) rfl
theorem dX12_found_100 : decode cX12_found 100 = .ok (.iload_n 2, 1) := dk_28 (by decide +kernel)
theorem dX12_found_101 : decode cX12_found 101 = .ok (.iaload, 1) := dk_46 (by decide +kernel)
theorem dX12_found_102 : decode cX12_found 102 = .ok (.goto 9, 3) := dk_167 (a := 0) (b := 9) (by decide +kernel) rfl
theorem dX12_found_105 : decode cX12_found 105 = .ok (.aload_n 0, 1) := dk_42 (by decide +kernel)
theorem dX12_found_106 : decode cX12_found 106 = .ok (.getfield 137, 3) := dk_180 (a := 0) (b := 137) (by decide +kernel) rfl
theorem dX12_found_109 : decode cX12_found 109 = .ok (.iload_n 2, 1) := dk_28 (by decide +kernel)
theorem dX12_found_110 : decode cX12_found 110 = .ok (.iaload, 1) := dk_46 (by decide +kernel)
theorem dX12_found_111 : decode cX12_found 111 = .ok (.ireturn, 1) := dk_172 (by decide +kernel)
theorem dX12_isShelf_0 : decode cX12_isShelf 0 = .ok (.iload_n 0, 1) := dk_26 (by decide +kernel)
theorem dX12_isShelf_1 : decode cX12_isShelf 1 = .ok (.ifCond .lt 13, 3) := dk_155 (a := 0) (b := 13) (by decide +kernel) rfl
theorem dX12_isShelf_4 : decode cX12_isShelf 4 = .ok (.iload_n 0, 1) := dk_26 (by decide +kernel)
theorem dX12_isShelf_5 : decode cX12_isShelf 5 = .ok (.bipush 8, 2) := dk_16 (a := 8) (by decide +kernel) rfl
theorem dX12_isShelf_7 : decode cX12_isShelf 7 = .ok (.if_icmp .ge 7, 3) := dk_162 (a := 0) (b := 7) (by decide +kernel) rfl
theorem dX12_isShelf_10 : decode cX12_isShelf 10 = .ok (.iconst 1, 1) := dk_4 (by decide +kernel)
theorem dX12_isShelf_11 : decode cX12_isShelf 11 = .ok (.goto 4, 3) := dk_167 (a := 0) (b := 4) (by decide +kernel) rfl
theorem dX12_isShelf_14 : decode cX12_isShelf 14 = .ok (.iconst 0, 1) := dk_3 (by decide +kernel)
theorem dX12_isShelf_15 : decode cX12_isShelf 15 = .ok (.ireturn, 1) := dk_172 (by decide +kernel)
theorem dX12_keep__0 : decode cX12_keep_ 0 = .ok (.aload_n 0, 1) := dk_42 (by decide +kernel)
theorem dX12_keep__1 : decode cX12_keep_ 1 = .ok (.iconst 0, 1) := dk_3 (by decide +kernel)
theorem dX12_keep__2 : decode cX12_keep_ 2 = .ok (.putfield 164, 3) := dk_181 (a := 0) (b := 164) (by decide +kernel) rfl
theorem dX12_keep__5 : decode cX12_keep_ 5 = .ok (.iload_n 1, 1) := dk_27 (by decide +kernel)
theorem dX12_keep__6 : decode cX12_keep_ 6 = .ok (.invokestatic 374, 3) := dk_184 (a := 1) (b := 118) (by decide +kernel) rfl
theorem dX12_keep__9 : decode cX12_keep_ 9 = .ok (.ifCond .eq 52, 3) := dk_153 (a := 0) (b := 52) (by decide +kernel) rfl
theorem dX12_keep__12 : decode cX12_keep_ 12 = .ok (.iload_n 2, 1) := dk_28 (by decide +kernel)
theorem dX12_keep__13 : decode cX12_keep_ 13 = .ok (.i2l, 1) := dk_133 (by decide +kernel)
theorem dX12_keep__14 : decode cX12_keep_ 14 = .ok (.lconst 0, 1) := dk_9 (by decide +kernel)
theorem dX12_keep__15 : decode cX12_keep_ 15 = .ok (.ldc2_w 167, 3) := dk_20 (a := 0) (b := 167) (by decide +kernel) rfl
theorem dX12_keep__18 : decode cX12_keep_ 18 = .ok (.invokestatic 169, 3) := dk_184 (a := 0) (b := 169) (by decide +kernel) rfl
theorem dX12_keep__21 : decode cX12_keep_ 21 = .ok (.ifCond .eq 40, 3) := dk_153 (a := 0) (b := 40) (by decide +kernel) rfl
theorem dX12_keep__24 : decode cX12_keep_ 24 = .ok (.iload_n 2, 1) := dk_28 (by decide +kernel)
theorem dX12_keep__25 : decode cX12_keep_ 25 = .ok (.ifCond .le 10, 3) := dk_158 (a := 0) (b := 10) (by decide +kernel) rfl
theorem dX12_keep__28 : decode cX12_keep_ 28 = .ok (.aload_n 0, 1) := dk_42 (by decide +kernel)
theorem dX12_keep__29 : decode cX12_keep_ 29 = .ok (.getfield 294, 3) := dk_180 (a := 1) (b := 38) (by decide +kernel) rfl
theorem dX12_keep__32 : decode cX12_keep_ 32 = .ok (.ifCond .eq 29, 3) := dk_153 (a := 0) (b := 29) (by decide +kernel) rfl
theorem dX12_keep__35 : decode cX12_keep_ 35 = .ok (.iload_n 2, 1) := dk_28 (by decide +kernel)
theorem dX12_keep__36 : decode cX12_keep_ 36 = .ok (.iconst 1, 1) := dk_4 (by decide +kernel)
theorem dX12_keep__37 : decode cX12_keep_ 37 = .ok (.if_icmp .ne 26, 3) := dk_160 (a := 0) (b := 26) (by decide +kernel) rfl
theorem dX12_keep__40 : decode cX12_keep_ 40 = .ok (.iload_n 3, 1) := dk_29 (by decide +kernel)
theorem dX12_keep__41 : decode cX12_keep_ 41 = .ok (.i2l, 1) := dk_133 (by decide +kernel)
theorem dX12_keep__42 : decode cX12_keep_ 42 = .ok (.lconst 0, 1) := dk_9 (by decide +kernel)
theorem dX12_keep__43 : decode cX12_keep_ 43 = .ok (.aload_n 0, 1) := dk_42 (by decide +kernel)
theorem dX12_keep__44 : decode cX12_keep_ 44 = .ok (.getfield 80, 3) := dk_180 (a := 0) (b := 80) (by decide +kernel) rfl
theorem dX12_keep__47 : decode cX12_keep_ 47 = .ok (.aload_n 0, 1) := dk_42 (by decide +kernel)
theorem dX12_keep__48 : decode cX12_keep_ 48 = .ok (.getfield 304, 3) := dk_180 (a := 1) (b := 48) (by decide +kernel) rfl
theorem dX12_keep__51 : decode cX12_keep_ 51 = .ok (.iaload, 1) := dk_46 (by decide +kernel)
theorem dX12_keep__52 : decode cX12_keep_ 52 = .ok (.iconst 1, 1) := dk_4 (by decide +kernel)
theorem dX12_keep__53 : decode cX12_keep_ 53 = .ok (.isub, 1) := dk_100 (by decide +kernel)
theorem dX12_keep__54 : decode cX12_keep_ 54 = .ok (.i2l, 1) := dk_133 (by decide +kernel)
theorem dX12_keep__55 : decode cX12_keep_ 55 = .ok (.invokestatic 169, 3) := dk_184 (a := 0) (b := 169) (by decide +kernel) rfl
theorem dX12_keep__58 : decode cX12_keep_ 58 = .ok (.ifCond .ne 5, 3) := dk_154 (a := 0) (b := 5) (by decide +kernel) rfl
theorem dX12_keep__61 : decode cX12_keep_ 61 = .ok (.iconst (-1), 1) := dk_2 (by decide +kernel)
theorem dX12_keep__62 : decode cX12_keep_ 62 = .ok (.ireturn, 1) := dk_172 (by decide +kernel)
theorem dX12_keep__63 : decode cX12_keep_ 63 = .ok (.aload_n 0, 1) := dk_42 (by decide +kernel)
theorem dX12_keep__64 : decode cX12_keep_ 64 = .ok (.getfield 146, 3) := dk_180 (a := 0) (b := 146) (by decide +kernel) rfl
theorem dX12_keep__67 : decode cX12_keep_ 67 = .ok (.iload_n 1, 1) := dk_27 (by decide +kernel)
theorem dX12_keep__68 : decode cX12_keep_ 68 = .ok (.iload_n 2, 1) := dk_28 (by decide +kernel)
theorem dX12_keep__69 : decode cX12_keep_ 69 = .ok (.iastore, 1) := dk_79 (by decide +kernel)
theorem dX12_keep__70 : decode cX12_keep_ 70 = .ok (.aload_n 0, 1) := dk_42 (by decide +kernel)
theorem dX12_keep__71 : decode cX12_keep_ 71 = .ok (.getfield 149, 3) := dk_180 (a := 0) (b := 149) (by decide +kernel) rfl
theorem dX12_keep__74 : decode cX12_keep_ 74 = .ok (.iload_n 1, 1) := dk_27 (by decide +kernel)
theorem dX12_keep__75 : decode cX12_keep_ 75 = .ok (.iconst 0, 1) := dk_3 (by decide +kernel)
theorem dX12_keep__76 : decode cX12_keep_ 76 = .ok (.iastore, 1) := dk_79 (by decide +kernel)
theorem dX12_keep__77 : decode cX12_keep_ 77 = .ok (.iload_n 2, 1) := dk_28 (by decide +kernel)
theorem dX12_keep__78 : decode cX12_keep_ 78 = .ok (.iconst 1, 1) := dk_4 (by decide +kernel)
theorem dX12_keep__79 : decode cX12_keep_ 79 = .ok (.if_icmp .ne 53, 3) := dk_160 (a := 0) (b := 53) (by decide +kernel) rfl
theorem dX12_keep__82 : decode cX12_keep_ 82 = .ok (.aload_n 0, 1) := dk_42 (by decide +kernel)
theorem dX12_keep__83 : decode cX12_keep_ 83 = .ok (.getfield 152, 3) := dk_180 (a := 0) (b := 152) (by decide +kernel) rfl
theorem dX12_keep__86 : decode cX12_keep_ 86 = .ok (.iload_n 1, 1) := dk_27 (by decide +kernel)
theorem dX12_keep__87 : decode cX12_keep_ 87 = .ok (.iload_n 3, 1) := dk_29 (by decide +kernel)
theorem dX12_keep__88 : decode cX12_keep_ 88 = .ok (.iastore, 1) := dk_79 (by decide +kernel)
theorem dX12_keep__89 : decode cX12_keep_ 89 = .ok (.aload_n 0, 1) := dk_42 (by decide +kernel)
theorem dX12_keep__90 : decode cX12_keep_ 90 = .ok (.getfield 155, 3) := dk_180 (a := 0) (b := 155) (by decide +kernel) rfl
theorem dX12_keep__93 : decode cX12_keep_ 93 = .ok (.iload_n 1, 1) := dk_27 (by decide +kernel)
theorem dX12_keep__94 : decode cX12_keep_ 94 = .ok (.aload_n 0, 1) := dk_42 (by decide +kernel)
theorem dX12_keep__95 : decode cX12_keep_ 95 = .ok (.getfield 83, 3) := dk_180 (a := 0) (b := 83) (by decide +kernel) rfl
theorem dX12_keep__98 : decode cX12_keep_ 98 = .ok (.bipush 12, 2) := dk_16 (a := 12) (by decide +kernel) rfl
theorem dX12_keep__100 : decode cX12_keep_ 100 = .ok (.aload_n 0, 1) := dk_42 (by decide +kernel)
theorem dX12_keep__101 : decode cX12_keep_ 101 = .ok (.getfield 304, 3) := dk_180 (a := 1) (b := 48) (by decide +kernel) rfl
theorem dX12_keep__104 : decode cX12_keep_ 104 = .ok (.imul, 1) := dk_104 (by decide +kernel)
theorem dX12_keep__105 : decode cX12_keep_ 105 = .ok (.iload_n 3, 1) := dk_29 (by decide +kernel)
theorem dX12_keep__106 : decode cX12_keep_ 106 = .ok (.iadd, 1) := dk_96 (by decide +kernel)
theorem dX12_keep__107 : decode cX12_keep_ 107 = .ok (.iaload, 1) := dk_46 (by decide +kernel)
theorem dX12_keep__108 : decode cX12_keep_ 108 = .ok (.iastore, 1) := dk_79 (by decide +kernel)
theorem dX12_keep__109 : decode cX12_keep_ 109 = .ok (.aload_n 0, 1) := dk_42 (by decide +kernel)
theorem dX12_keep__110 : decode cX12_keep_ 110 = .ok (.getfield 149, 3) := dk_180 (a := 0) (b := 149) (by decide +kernel) rfl
theorem dX12_keep__113 : decode cX12_keep_ 113 = .ok (.iload_n 1, 1) := dk_27 (by decide +kernel)
theorem dX12_keep__114 : decode cX12_keep_ 114 = .ok (.aload_n 0, 1) := dk_42 (by decide +kernel)
theorem dX12_keep__115 : decode cX12_keep_ 115 = .ok (.getfield 89, 3) := dk_180 (a := 0) (b := 89) (by decide +kernel) rfl
theorem dX12_keep__118 : decode cX12_keep_ 118 = .ok (.bipush 12, 2) := dk_16 (a := 12) (by decide +kernel) rfl
theorem dX12_keep__120 : decode cX12_keep_ 120 = .ok (.aload_n 0, 1) := dk_42 (by decide +kernel)
theorem dX12_keep__121 : decode cX12_keep_ 121 = .ok (.getfield 304, 3) := dk_180 (a := 1) (b := 48) (by decide +kernel) rfl
theorem dX12_keep__124 : decode cX12_keep_ 124 = .ok (.imul, 1) := dk_104 (by decide +kernel)
theorem dX12_keep__125 : decode cX12_keep_ 125 = .ok (.iload_n 3, 1) := dk_29 (by decide +kernel)
theorem dX12_keep__126 : decode cX12_keep_ 126 = .ok (.iadd, 1) := dk_96 (by decide +kernel)
theorem dX12_keep__127 : decode cX12_keep_ 127 = .ok (.iaload, 1) := dk_46 (by decide +kernel)
theorem dX12_keep__128 : decode cX12_keep_ 128 = .ok (.iastore, 1) := dk_79 (by decide +kernel)
theorem dX12_keep__129 : decode cX12_keep_ 129 = .ok (.goto 124, 3) := dk_167 (a := 0) (b := 124) (by decide +kernel) rfl
theorem dX12_keep__132 : decode cX12_keep_ 132 = .ok (.iload_n 2, 1) := dk_28 (by decide +kernel)
theorem dX12_keep__133 : decode cX12_keep_ 133 = .ok (.iconst 1, 1) := dk_4 (by decide +kernel)
theorem dX12_keep__134 : decode cX12_keep_ 134 = .ok (.if_icmp .le 119, 3) := dk_164 (a := 0) (b := 119) (by decide +kernel) rfl
theorem dX12_keep__137 : decode cX12_keep_ 137 = .ok (.aload_n 0, 1) := dk_42 (by decide +kernel)
theorem dX12_keep__138 : decode cX12_keep_ 138 = .ok (.getfield 149, 3) := dk_180 (a := 0) (b := 149) (by decide +kernel) rfl
theorem dX12_keep__141 : decode cX12_keep_ 141 = .ok (.iload_n 1, 1) := dk_27 (by decide +kernel)
theorem dX12_keep__142 : decode cX12_keep_ 142 = .ok (.iload_n 2, 1) := dk_28 (by decide +kernel)
theorem dX12_keep__143 : decode cX12_keep_ 143 = .ok (.iconst 3, 1) := dk_6 (by decide +kernel)
theorem dX12_keep__144 : decode cX12_keep_ 144 = .ok (.if_icmp .ne 8, 3) := dk_160 (a := 0) (b := 8) (by decide +kernel) rfl
theorem dX12_keep__147 : decode cX12_keep_ 147 = .ok (.bipush 12, 2) := dk_16 (a := 12) (by decide +kernel) rfl
theorem dX12_keep__149 : decode cX12_keep_ 149 = .ok (.goto 21, 3) := dk_167 (a := 0) (b := 21) (by decide +kernel) rfl
theorem dX12_keep__152 : decode cX12_keep_ 152 = .ok (.aload_n 0, 1) := dk_42 (by decide +kernel)
theorem dX12_keep__153 : decode cX12_keep_ 153 = .ok (.getfield 304, 3) := dk_180 (a := 1) (b := 48) (by decide +kernel) rfl
theorem dX12_keep__156 : decode cX12_keep_ 156 = .ok (.bipush 60, 2) := dk_16 (a := 60) (by decide +kernel) rfl
theorem dX12_keep__158 : decode cX12_keep_ 158 = .ok (.if_icmp .ge 10, 3) := dk_162 (a := 0) (b := 10) (by decide +kernel) rfl
theorem dX12_keep__161 : decode cX12_keep_ 161 = .ok (.aload_n 0, 1) := dk_42 (by decide +kernel)
theorem dX12_keep__162 : decode cX12_keep_ 162 = .ok (.getfield 304, 3) := dk_180 (a := 1) (b := 48) (by decide +kernel) rfl
theorem dX12_keep__165 : decode cX12_keep_ 165 = .ok (.goto 5, 3) := dk_167 (a := 0) (b := 5) (by decide +kernel) rfl
theorem dX12_keep__168 : decode cX12_keep_ 168 = .ok (.bipush 60, 2) := dk_16 (a := 60) (by decide +kernel) rfl
theorem dX12_keep__170 : decode cX12_keep_ 170 = .ok (.iastore, 1) := dk_79 (by decide +kernel)
theorem dX12_keep__171 : decode cX12_keep_ 171 = .ok (.iconst 0, 1) := dk_3 (by decide +kernel)
theorem dX12_keep__172 : decode cX12_keep_ 172 = .ok (.istore 4, 2) := dk_54 (by decide +kernel)
theorem dX12_keep__174 : decode cX12_keep_ 174 = .ok (.iload 4, 2) := dk_21 (by decide +kernel)
theorem dX12_keep__176 : decode cX12_keep_ 176 = .ok (.aload_n 0, 1) := dk_42 (by decide +kernel)
theorem dX12_keep__177 : decode cX12_keep_ 177 = .ok (.getfield 149, 3) := dk_180 (a := 0) (b := 149) (by decide +kernel) rfl
theorem dX12_keep__180 : decode cX12_keep_ 180 = .ok (.iload_n 1, 1) := dk_27 (by decide +kernel)
theorem dX12_keep__181 : decode cX12_keep_ 181 = .ok (.iaload, 1) := dk_46 (by decide +kernel)
theorem dX12_keep__182 : decode cX12_keep_ 182 = .ok (.if_icmp .ge 71, 3) := dk_162 (a := 0) (b := 71) (by decide +kernel) rfl
theorem dX12_keep__185 : decode cX12_keep_ 185 = .ok (.bipush 28, 2) := dk_16 (a := 28) (by decide +kernel) rfl
theorem dX12_keep__187 : decode cX12_keep_ 187 = .ok (.aload_n 0, 1) := dk_42 (by decide +kernel)
theorem dX12_keep__188 : decode cX12_keep_ 188 = .ok (.getfield 304, 3) := dk_180 (a := 1) (b := 48) (by decide +kernel) rfl
theorem dX12_keep__191 : decode cX12_keep_ 191 = .ok (.imul, 1) := dk_104 (by decide +kernel)
theorem dX12_keep__192 : decode cX12_keep_ 192 = .ok (.iload 4, 2) := dk_21 (by decide +kernel)
theorem dX12_keep__194 : decode cX12_keep_ 194 = .ok (.iadd, 1) := dk_96 (by decide +kernel)
theorem dX12_keep__195 : decode cX12_keep_ 195 = .ok (.istore 5, 2) := dk_54 (by decide +kernel)
theorem dX12_keep__197 : decode cX12_keep_ 197 = .ok (.aload_n 0, 1) := dk_42 (by decide +kernel)
theorem dX12_keep__198 : decode cX12_keep_ 198 = .ok (.getfield 158, 3) := dk_180 (a := 0) (b := 158) (by decide +kernel) rfl
theorem dX12_keep__201 : decode cX12_keep_ 201 = .ok (.bipush 60, 2) := dk_16 (a := 60) (by decide +kernel) rfl
theorem dX12_keep__203 : decode cX12_keep_ 203 = .ok (.iload_n 1, 1) := dk_27 (by decide +kernel)
theorem dX12_keep__204 : decode cX12_keep_ 204 = .ok (.imul, 1) := dk_104 (by decide +kernel)
theorem dX12_keep__205 : decode cX12_keep_ 205 = .ok (.iload 4, 2) := dk_21 (by decide +kernel)
theorem dX12_keep__207 : decode cX12_keep_ 207 = .ok (.iadd, 1) := dk_96 (by decide +kernel)
theorem dX12_keep__208 : decode cX12_keep_ 208 = .ok (.iload_n 2, 1) := dk_28 (by decide +kernel)
theorem dX12_keep__209 : decode cX12_keep_ 209 = .ok (.iconst 2, 1) := dk_5 (by decide +kernel)
theorem dX12_keep__210 : decode cX12_keep_ 210 = .ok (.if_icmp .ne 15, 3) := dk_160 (a := 0) (b := 15) (by decide +kernel) rfl
theorem dX12_keep__213 : decode cX12_keep_ 213 = .ok (.aload_n 0, 1) := dk_42 (by decide +kernel)
theorem dX12_keep__214 : decode cX12_keep_ 214 = .ok (.getfield 96, 3) := dk_180 (a := 0) (b := 96) (by decide +kernel) rfl
theorem dX12_keep__217 : decode cX12_keep_ 217 = .ok (.iload 4, 2) := dk_21 (by decide +kernel)
theorem dX12_keep__219 : decode cX12_keep_ 219 = .ok (.iconst 1, 1) := dk_4 (by decide +kernel)
theorem dX12_keep__220 : decode cX12_keep_ 220 = .ok (.iadd, 1) := dk_96 (by decide +kernel)
theorem dX12_keep__221 : decode cX12_keep_ 221 = .ok (.iaload, 1) := dk_46 (by decide +kernel)
theorem dX12_keep__222 : decode cX12_keep_ 222 = .ok (.goto 24, 3) := dk_167 (a := 0) (b := 24) (by decide +kernel) rfl
theorem dX12_keep__225 : decode cX12_keep_ 225 = .ok (.aload_n 0, 1) := dk_42 (by decide +kernel)
theorem dX12_keep__226 : decode cX12_keep_ 226 = .ok (.getfield 68, 3) := dk_180 (a := 0) (b := 68) (by decide +kernel) rfl
theorem dX12_keep__229 : decode cX12_keep_ 229 = .ok (.iload 5, 2) := dk_21 (by decide +kernel)
theorem dX12_keep__231 : decode cX12_keep_ 231 = .ok (.iaload, 1) := dk_46 (by decide +kernel)
theorem dX12_keep__232 : decode cX12_keep_ 232 = .ok (.ifCond .ne 13, 3) := dk_154 (a := 0) (b := 13) (by decide +kernel) rfl
theorem dX12_keep__235 : decode cX12_keep_ 235 = .ok (.aload_n 0, 1) := dk_42 (by decide +kernel)
theorem dX12_keep__236 : decode cX12_keep_ 236 = .ok (.getfield 71, 3) := dk_180 (a := 0) (b := 71) (by decide +kernel) rfl
theorem dX12_keep__239 : decode cX12_keep_ 239 = .ok (.iload 5, 2) := dk_21 (by decide +kernel)
theorem dX12_keep__241 : decode cX12_keep_ 241 = .ok (.iaload, 1) := dk_46 (by decide +kernel)
theorem dX12_keep__242 : decode cX12_keep_ 242 = .ok (.goto 4, 3) := dk_167 (a := 0) (b := 4) (by decide +kernel) rfl
theorem dX12_keep__245 : decode cX12_keep_ 245 = .ok (.iconst 0, 1) := dk_3 (by decide +kernel)
theorem dX12_keep__246 : decode cX12_keep_ 246 = .ok (.iastore, 1) := dk_79 (by decide +kernel)
theorem dX12_keep__247 : decode cX12_keep_ 247 = .ok (.iinc 4 1, 3) := dk_132 (b := 1) (by decide +kernel) rfl
theorem dX12_keep__250 : decode cX12_keep_ 250 = .ok (.goto (-76), 3) := dk_167 (a := 255) (b := 180) (by decide +kernel) rfl
theorem dX12_keep__253 : decode cX12_keep_ 253 = .ok (.iconst 0, 1) := dk_3 (by decide +kernel)
theorem dX12_keep__254 : decode cX12_keep_ 254 = .ok (.ireturn, 1) := dk_172 (by decide +kernel)
theorem dX12_make_0 : decode cX12_make 0 = .ok (.aload_n 0, 1) := dk_42 (by decide +kernel)
theorem dX12_make_1 : decode cX12_make 1 = .ok (.iconst 0, 1) := dk_3 (by decide +kernel)
theorem dX12_make_2 : decode cX12_make 2 = .ok (.putfield 164, 3) := dk_181 (a := 0) (b := 164) (by decide +kernel) rfl
theorem dX12_make_5 : decode cX12_make 5 = .ok (.iload_n 1, 1) := dk_27 (by decide +kernel)
theorem dX12_make_6 : decode cX12_make 6 = .ok (.invokestatic 374, 3) := dk_184 (a := 1) (b := 118) (by decide +kernel) rfl
theorem dX12_make_9 : decode cX12_make 9 = .ok (.ifCond .eq 23, 3) := dk_153 (a := 0) (b := 23) (by decide +kernel) rfl
theorem dX12_make_12 : decode cX12_make 12 = .ok (.iload_n 2, 1) := dk_28 (by decide +kernel)
theorem dX12_make_13 : decode cX12_make 13 = .ok (.i2l, 1) := dk_133 (by decide +kernel)
theorem dX12_make_14 : decode cX12_make 14 = .ok (.ldc2_w 325, 3) := dk_20 (a := 1) (b := 69) (by decide +kernel) rfl
theorem dX12_make_17 : decode cX12_make 17 = .ok (.ldc2_w 167, 3) := dk_20 (a := 0) (b := 167) (by decide +kernel) rfl
theorem dX12_make_20 : decode cX12_make 20 = .ok (.invokestatic 169, 3) := dk_184 (a := 0) (b := 169) (by decide +kernel) rfl
theorem dX12_make_23 : decode cX12_make 23 = .ok (.ifCond .eq 9, 3) := dk_153 (a := 0) (b := 9) (by decide +kernel) rfl
theorem dX12_make_26 : decode cX12_make 26 = .ok (.iload_n 3, 1) := dk_29 (by decide +kernel)
theorem dX12_make_27 : decode cX12_make 27 = .ok (.bipush 60, 2) := dk_16 (a := 60) (by decide +kernel) rfl
theorem dX12_make_29 : decode cX12_make 29 = .ok (.if_icmp .le 5, 3) := dk_164 (a := 0) (b := 5) (by decide +kernel) rfl
theorem dX12_make_32 : decode cX12_make 32 = .ok (.iconst (-1), 1) := dk_2 (by decide +kernel)
theorem dX12_make_33 : decode cX12_make 33 = .ok (.ireturn, 1) := dk_172 (by decide +kernel)
theorem dX12_make_34 : decode cX12_make 34 = .ok (.iload_n 3, 1) := dk_29 (by decide +kernel)
theorem dX12_make_35 : decode cX12_make 35 = .ok (.ifCond .ge 6, 3) := dk_156 (a := 0) (b := 6) (by decide +kernel) rfl
theorem dX12_make_38 : decode cX12_make 38 = .ok (.bipush (-14), 2) := dk_16 (a := 242) (by decide +kernel) rfl
theorem dX12_make_40 : decode cX12_make 40 = .ok (.ireturn, 1) := dk_172 (by decide +kernel)
theorem dX12_make_41 : decode cX12_make 41 = .ok (.aload_n 0, 1) := dk_42 (by decide +kernel)
theorem dX12_make_42 : decode cX12_make 42 = .ok (.getfield 146, 3) := dk_180 (a := 0) (b := 146) (by decide +kernel) rfl
theorem dX12_make_45 : decode cX12_make 45 = .ok (.iload_n 1, 1) := dk_27 (by decide +kernel)
theorem dX12_make_46 : decode cX12_make 46 = .ok (.iload_n 2, 1) := dk_28 (by decide +kernel)
theorem dX12_make_47 : decode cX12_make 47 = .ok (.iastore, 1) := dk_79 (by decide +kernel)
theorem dX12_make_48 : decode cX12_make 48 = .ok (.aload_n 0, 1) := dk_42 (by decide +kernel)
theorem dX12_make_49 : decode cX12_make 49 = .ok (.getfield 149, 3) := dk_180 (a := 0) (b := 149) (by decide +kernel) rfl
theorem dX12_make_52 : decode cX12_make 52 = .ok (.iload_n 1, 1) := dk_27 (by decide +kernel)
theorem dX12_make_53 : decode cX12_make 53 = .ok (.iload_n 3, 1) := dk_29 (by decide +kernel)
theorem dX12_make_54 : decode cX12_make 54 = .ok (.iastore, 1) := dk_79 (by decide +kernel)
theorem dX12_make_55 : decode cX12_make 55 = .ok (.iconst 0, 1) := dk_3 (by decide +kernel)
theorem dX12_make_56 : decode cX12_make 56 = .ok (.istore 4, 2) := dk_54 (by decide +kernel)
theorem dX12_make_58 : decode cX12_make 58 = .ok (.iload 4, 2) := dk_21 (by decide +kernel)
theorem dX12_make_60 : decode cX12_make 60 = .ok (.iload_n 3, 1) := dk_29 (by decide +kernel)
theorem dX12_make_61 : decode cX12_make 61 = .ok (.if_icmp .ge 22, 3) := dk_162 (a := 0) (b := 22) (by decide +kernel) rfl
theorem dX12_make_64 : decode cX12_make 64 = .ok (.aload_n 0, 1) := dk_42 (by decide +kernel)
theorem dX12_make_65 : decode cX12_make 65 = .ok (.getfield 158, 3) := dk_180 (a := 0) (b := 158) (by decide +kernel) rfl
theorem dX12_make_68 : decode cX12_make 68 = .ok (.bipush 60, 2) := dk_16 (a := 60) (by decide +kernel) rfl
theorem dX12_make_70 : decode cX12_make 70 = .ok (.iload_n 1, 1) := dk_27 (by decide +kernel)
theorem dX12_make_71 : decode cX12_make 71 = .ok (.imul, 1) := dk_104 (by decide +kernel)
theorem dX12_make_72 : decode cX12_make 72 = .ok (.iload 4, 2) := dk_21 (by decide +kernel)
theorem dX12_make_74 : decode cX12_make 74 = .ok (.iadd, 1) := dk_96 (by decide +kernel)
theorem dX12_make_75 : decode cX12_make 75 = .ok (.iconst 0, 1) := dk_3 (by decide +kernel)
theorem dX12_make_76 : decode cX12_make 76 = .ok (.iastore, 1) := dk_79 (by decide +kernel)
theorem dX12_make_77 : decode cX12_make 77 = .ok (.iinc 4 1, 3) := dk_132 (b := 1) (by decide +kernel) rfl
theorem dX12_make_80 : decode cX12_make 80 = .ok (.goto (-22), 3) := dk_167 (a := 255) (b := 234) (by decide +kernel) rfl
theorem dX12_make_83 : decode cX12_make 83 = .ok (.iconst 0, 1) := dk_3 (by decide +kernel)
theorem dX12_make_84 : decode cX12_make 84 = .ok (.ireturn, 1) := dk_172 (by decide +kernel)
theorem dX12_element_0 : decode cX12_element 0 = .ok (.iload_n 1, 1) := dk_27 (by decide +kernel)
theorem dX12_element_1 : decode cX12_element 1 = .ok (.invokestatic 374, 3) := dk_184 (a := 1) (b := 118) (by decide +kernel) rfl
theorem dX12_element_4 : decode cX12_element 4 = .ok (.ifCond .eq 35, 3) := dk_153 (a := 0) (b := 35) (by decide +kernel) rfl
theorem dX12_element_7 : decode cX12_element 7 = .ok (.aload_n 0, 1) := dk_42 (by decide +kernel)
theorem dX12_element_8 : decode cX12_element 8 = .ok (.getfield 146, 3) := dk_180 (a := 0) (b := 146) (by decide +kernel) rfl
theorem dX12_element_11 : decode cX12_element 11 = .ok (.iload_n 1, 1) := dk_27 (by decide +kernel)
theorem dX12_element_12 : decode cX12_element 12 = .ok (.iaload, 1) := dk_46 (by decide +kernel)
theorem dX12_element_13 : decode cX12_element 13 = .ok (.iconst 1, 1) := dk_4 (by decide +kernel)
theorem dX12_element_14 : decode cX12_element 14 = .ok (.if_icmp .le 25, 3) := dk_164 (a := 0) (b := 25) (by decide +kernel) rfl
theorem dX12_element_17 : decode cX12_element 17 = .ok (.iload_n 2, 1) := dk_28 (by decide +kernel)
theorem dX12_element_18 : decode cX12_element 18 = .ok (.i2l, 1) := dk_133 (by decide +kernel)
theorem dX12_element_19 : decode cX12_element 19 = .ok (.lconst 0, 1) := dk_9 (by decide +kernel)
theorem dX12_element_20 : decode cX12_element 20 = .ok (.aload_n 0, 1) := dk_42 (by decide +kernel)
theorem dX12_element_21 : decode cX12_element 21 = .ok (.getfield 149, 3) := dk_180 (a := 0) (b := 149) (by decide +kernel) rfl
theorem dX12_element_24 : decode cX12_element 24 = .ok (.iload_n 1, 1) := dk_27 (by decide +kernel)
theorem dX12_element_25 : decode cX12_element 25 = .ok (.iaload, 1) := dk_46 (by decide +kernel)
theorem dX12_element_26 : decode cX12_element 26 = .ok (.iconst 1, 1) := dk_4 (by decide +kernel)
theorem dX12_element_27 : decode cX12_element 27 = .ok (.isub, 1) := dk_100 (by decide +kernel)
theorem dX12_element_28 : decode cX12_element 28 = .ok (.i2l, 1) := dk_133 (by decide +kernel)
theorem dX12_element_29 : decode cX12_element 29 = .ok (.invokestatic 169, 3) := dk_184 (a := 0) (b := 169) (by decide +kernel) rfl
theorem dX12_element_32 : decode cX12_element 32 = .ok (.ifCond .eq 7, 3) := dk_153 (a := 0) (b := 7) (by decide +kernel) rfl
theorem dX12_element_35 : decode cX12_element 35 = .ok (.iconst 1, 1) := dk_4 (by decide +kernel)
theorem dX12_element_36 : decode cX12_element 36 = .ok (.goto 4, 3) := dk_167 (a := 0) (b := 4) (by decide +kernel) rfl
theorem dX12_element_39 : decode cX12_element 39 = .ok (.iconst 0, 1) := dk_3 (by decide +kernel)
theorem dX12_element_40 : decode cX12_element 40 = .ok (.istore_n 3, 1) := dk_62 (by decide +kernel)
theorem dX12_element_41 : decode cX12_element 41 = .ok (.aload_n 0, 1) := dk_42 (by decide +kernel)
theorem dX12_element_42 : decode cX12_element 42 = .ok (.iload_n 1, 1) := dk_27 (by decide +kernel)
theorem dX12_element_43 : decode cX12_element 43 = .ok (.invokestatic 374, 3) := dk_184 (a := 1) (b := 118) (by decide +kernel) rfl
theorem dX12_element_46 : decode cX12_element 46 = .ok (.ifCond .ne 7, 3) := dk_154 (a := 0) (b := 7) (by decide +kernel) rfl
theorem dX12_element_49 : decode cX12_element 49 = .ok (.iconst 1, 1) := dk_4 (by decide +kernel)
theorem dX12_element_50 : decode cX12_element 50 = .ok (.goto 12, 3) := dk_167 (a := 0) (b := 12) (by decide +kernel) rfl
theorem dX12_element_53 : decode cX12_element 53 = .ok (.iload_n 3, 1) := dk_29 (by decide +kernel)
theorem dX12_element_54 : decode cX12_element 54 = .ok (.ifCond .eq 7, 3) := dk_153 (a := 0) (b := 7) (by decide +kernel) rfl
theorem dX12_element_57 : decode cX12_element 57 = .ok (.iconst 0, 1) := dk_3 (by decide +kernel)
theorem dX12_element_58 : decode cX12_element 58 = .ok (.goto 4, 3) := dk_167 (a := 0) (b := 4) (by decide +kernel) rfl
theorem dX12_element_61 : decode cX12_element 61 = .ok (.iconst 2, 1) := dk_5 (by decide +kernel)
theorem dX12_element_62 : decode cX12_element 62 = .ok (.putfield 164, 3) := dk_181 (a := 0) (b := 164) (by decide +kernel) rfl
theorem dX12_element_65 : decode cX12_element 65 = .ok (.iload_n 3, 1) := dk_29 (by decide +kernel)
theorem dX12_element_66 : decode cX12_element 66 = .ok (.ifCond .eq 17, 3) := dk_153 (a := 0) (b := 17) (by decide +kernel) rfl
theorem dX12_element_69 : decode cX12_element 69 = .ok (.aload_n 0, 1) := dk_42 (by decide +kernel)
theorem dX12_element_70 : decode cX12_element 70 = .ok (.getfield 158, 3) := dk_180 (a := 0) (b := 158) (by decide +kernel) rfl
theorem dX12_element_73 : decode cX12_element 73 = .ok (.bipush 60, 2) := dk_16 (a := 60) (by decide +kernel) rfl
theorem dX12_element_75 : decode cX12_element 75 = .ok (.iload_n 1, 1) := dk_27 (by decide +kernel)
theorem dX12_element_76 : decode cX12_element 76 = .ok (.imul, 1) := dk_104 (by decide +kernel)
theorem dX12_element_77 : decode cX12_element 77 = .ok (.iload_n 2, 1) := dk_28 (by decide +kernel)
theorem dX12_element_78 : decode cX12_element 78 = .ok (.iadd, 1) := dk_96 (by decide +kernel)
theorem dX12_element_79 : decode cX12_element 79 = .ok (.iaload, 1) := dk_46 (by decide +kernel)
theorem dX12_element_80 : decode cX12_element 80 = .ok (.goto 4, 3) := dk_167 (a := 0) (b := 4) (by decide +kernel) rfl
theorem dX12_element_83 : decode cX12_element 83 = .ok (.iconst 0, 1) := dk_3 (by decide +kernel)
theorem dX12_element_84 : decode cX12_element 84 = .ok (.ireturn, 1) := dk_172 (by decide +kernel)
theorem dX12_hasPlaces_0 : decode cX12_hasPlaces 0 = .ok (.iload_n 3, 1) := dk_29 (by decide +kernel)
theorem dX12_hasPlaces_1 : decode cX12_hasPlaces 1 = .ok (.ifCond .lt 33, 3) := dk_155 (a := 0) (b := 33) (by decide +kernel) rfl
theorem dX12_hasPlaces_4 : decode cX12_hasPlaces 4 = .ok (.iload_n 2, 1) := dk_28 (by decide +kernel)
theorem dX12_hasPlaces_5 : decode cX12_hasPlaces 5 = .ok (.ifCond .lt 29, 3) := dk_155 (a := 0) (b := 29) (by decide +kernel) rfl
theorem dX12_hasPlaces_8 : decode cX12_hasPlaces 8 = .ok (.iload_n 2, 1) := dk_28 (by decide +kernel)
theorem dX12_hasPlaces_9 : decode cX12_hasPlaces 9 = .ok (.aload_n 0, 1) := dk_42 (by decide +kernel)
theorem dX12_hasPlaces_10 : decode cX12_hasPlaces 10 = .ok (.getfield 149, 3) := dk_180 (a := 0) (b := 149) (by decide +kernel) rfl
theorem dX12_hasPlaces_13 : decode cX12_hasPlaces 13 = .ok (.iload_n 1, 1) := dk_27 (by decide +kernel)
theorem dX12_hasPlaces_14 : decode cX12_hasPlaces 14 = .ok (.iaload, 1) := dk_46 (by decide +kernel)
theorem dX12_hasPlaces_15 : decode cX12_hasPlaces 15 = .ok (.if_icmp .gt 19, 3) := dk_163 (a := 0) (b := 19) (by decide +kernel) rfl
theorem dX12_hasPlaces_18 : decode cX12_hasPlaces 18 = .ok (.iload_n 3, 1) := dk_29 (by decide +kernel)
theorem dX12_hasPlaces_19 : decode cX12_hasPlaces 19 = .ok (.aload_n 0, 1) := dk_42 (by decide +kernel)
theorem dX12_hasPlaces_20 : decode cX12_hasPlaces 20 = .ok (.getfield 149, 3) := dk_180 (a := 0) (b := 149) (by decide +kernel) rfl
theorem dX12_hasPlaces_23 : decode cX12_hasPlaces 23 = .ok (.iload_n 1, 1) := dk_27 (by decide +kernel)
theorem dX12_hasPlaces_24 : decode cX12_hasPlaces 24 = .ok (.iaload, 1) := dk_46 (by decide +kernel)
theorem dX12_hasPlaces_25 : decode cX12_hasPlaces 25 = .ok (.iload_n 2, 1) := dk_28 (by decide +kernel)
theorem dX12_hasPlaces_26 : decode cX12_hasPlaces 26 = .ok (.isub, 1) := dk_100 (by decide +kernel)
theorem dX12_hasPlaces_27 : decode cX12_hasPlaces 27 = .ok (.if_icmp .gt 7, 3) := dk_163 (a := 0) (b := 7) (by decide +kernel) rfl
theorem dX12_hasPlaces_30 : decode cX12_hasPlaces 30 = .ok (.iconst 1, 1) := dk_4 (by decide +kernel)
theorem dX12_hasPlaces_31 : decode cX12_hasPlaces 31 = .ok (.goto 4, 3) := dk_167 (a := 0) (b := 4) (by decide +kernel) rfl
theorem dX12_hasPlaces_34 : decode cX12_hasPlaces 34 = .ok (.iconst 0, 1) := dk_3 (by decide +kernel)
theorem dX12_hasPlaces_35 : decode cX12_hasPlaces 35 = .ok (.ireturn, 1) := dk_172 (by decide +kernel)
theorem dX12_copy_0 : decode cX12_copy 0 = .ok (.aload_n 0, 1) := dk_42 (by decide +kernel)
theorem dX12_copy_1 : decode cX12_copy 1 = .ok (.iconst 0, 1) := dk_3 (by decide +kernel)
theorem dX12_copy_2 : decode cX12_copy 2 = .ok (.putfield 164, 3) := dk_181 (a := 0) (b := 164) (by decide +kernel) rfl
theorem dX12_copy_5 : decode cX12_copy 5 = .ok (.iload_n 1, 1) := dk_27 (by decide +kernel)
theorem dX12_copy_6 : decode cX12_copy 6 = .ok (.invokestatic 374, 3) := dk_184 (a := 1) (b := 118) (by decide +kernel) rfl
theorem dX12_copy_9 : decode cX12_copy 9 = .ok (.ifCond .eq 10, 3) := dk_153 (a := 0) (b := 10) (by decide +kernel) rfl
theorem dX12_copy_12 : decode cX12_copy 12 = .ok (.iload_n 3, 1) := dk_29 (by decide +kernel)
theorem dX12_copy_13 : decode cX12_copy 13 = .ok (.invokestatic 374, 3) := dk_184 (a := 1) (b := 118) (by decide +kernel) rfl
theorem dX12_copy_16 : decode cX12_copy 16 = .ok (.ifCond .ne 5, 3) := dk_154 (a := 0) (b := 5) (by decide +kernel) rfl
theorem dX12_copy_19 : decode cX12_copy 19 = .ok (.iconst (-1), 1) := dk_2 (by decide +kernel)
theorem dX12_copy_20 : decode cX12_copy 20 = .ok (.ireturn, 1) := dk_172 (by decide +kernel)
theorem dX12_copy_21 : decode cX12_copy 21 = .ok (.aload_n 0, 1) := dk_42 (by decide +kernel)
theorem dX12_copy_22 : decode cX12_copy 22 = .ok (.getfield 146, 3) := dk_180 (a := 0) (b := 146) (by decide +kernel) rfl
theorem dX12_copy_25 : decode cX12_copy 25 = .ok (.iload_n 1, 1) := dk_27 (by decide +kernel)
theorem dX12_copy_26 : decode cX12_copy 26 = .ok (.iaload, 1) := dk_46 (by decide +kernel)
theorem dX12_copy_27 : decode cX12_copy 27 = .ok (.ifCond .eq 12, 3) := dk_153 (a := 0) (b := 12) (by decide +kernel) rfl
theorem dX12_copy_30 : decode cX12_copy 30 = .ok (.aload_n 0, 1) := dk_42 (by decide +kernel)
theorem dX12_copy_31 : decode cX12_copy 31 = .ok (.getfield 146, 3) := dk_180 (a := 0) (b := 146) (by decide +kernel) rfl
theorem dX12_copy_34 : decode cX12_copy 34 = .ok (.iload_n 3, 1) := dk_29 (by decide +kernel)
theorem dX12_copy_35 : decode cX12_copy 35 = .ok (.iaload, 1) := dk_46 (by decide +kernel)
theorem dX12_copy_36 : decode cX12_copy 36 = .ok (.ifCond .ne 6, 3) := dk_154 (a := 0) (b := 6) (by decide +kernel) rfl
theorem dX12_copy_39 : decode cX12_copy 39 = .ok (.bipush (-11), 2) := dk_16 (a := 245) (by decide +kernel) rfl
theorem dX12_copy_41 : decode cX12_copy 41 = .ok (.ireturn, 1) := dk_172 (by decide +kernel)
theorem dX12_copy_42 : decode cX12_copy 42 = .ok (.aload_n 0, 1) := dk_42 (by decide +kernel)
theorem dX12_copy_43 : decode cX12_copy 43 = .ok (.getfield 146, 3) := dk_180 (a := 0) (b := 146) (by decide +kernel) rfl
theorem dX12_copy_46 : decode cX12_copy 46 = .ok (.iload_n 1, 1) := dk_27 (by decide +kernel)
theorem dX12_copy_47 : decode cX12_copy 47 = .ok (.iaload, 1) := dk_46 (by decide +kernel)
theorem dX12_copy_48 : decode cX12_copy 48 = .ok (.iconst 2, 1) := dk_5 (by decide +kernel)
theorem dX12_copy_49 : decode cX12_copy 49 = .ok (.if_icmp .lt 18, 3) := dk_161 (a := 0) (b := 18) (by decide +kernel) rfl
theorem dX12_copy_52 : decode cX12_copy 52 = .ok (.aload_n 0, 1) := dk_42 (by decide +kernel)
theorem dX12_copy_53 : decode cX12_copy 53 = .ok (.getfield 146, 3) := dk_180 (a := 0) (b := 146) (by decide +kernel) rfl
theorem dX12_copy_56 : decode cX12_copy 56 = .ok (.iload_n 1, 1) := dk_27 (by decide +kernel)
theorem dX12_copy_57 : decode cX12_copy 57 = .ok (.iaload, 1) := dk_46 (by decide +kernel)
theorem dX12_copy_58 : decode cX12_copy 58 = .ok (.aload_n 0, 1) := dk_42 (by decide +kernel)
theorem dX12_copy_59 : decode cX12_copy 59 = .ok (.getfield 146, 3) := dk_180 (a := 0) (b := 146) (by decide +kernel) rfl
theorem dX12_copy_62 : decode cX12_copy 62 = .ok (.iload_n 3, 1) := dk_29 (by decide +kernel)
theorem dX12_copy_63 : decode cX12_copy 63 = .ok (.iaload, 1) := dk_46 (by decide +kernel)
theorem dX12_copy_64 : decode cX12_copy 64 = .ok (.if_icmp .eq 6, 3) := dk_159 (a := 0) (b := 6) (by decide +kernel) rfl
theorem dX12_copy_67 : decode cX12_copy 67 = .ok (.bipush (-12), 2) := dk_16 (a := 244) (by decide +kernel) rfl
theorem dX12_copy_69 : decode cX12_copy 69 = .ok (.ireturn, 1) := dk_172 (by decide +kernel)
theorem dX12_copy_70 : decode cX12_copy 70 = .ok (.aload_n 0, 1) := dk_42 (by decide +kernel)
theorem dX12_copy_71 : decode cX12_copy 71 = .ok (.iload_n 1, 1) := dk_27 (by decide +kernel)
theorem dX12_copy_72 : decode cX12_copy 72 = .ok (.iload_n 2, 1) := dk_28 (by decide +kernel)
theorem dX12_copy_73 : decode cX12_copy 73 = .ok (.iload 5, 2) := dk_21 (by decide +kernel)
theorem dX12_copy_75 : decode cX12_copy 75 = .ok (.invokevirtual 377, 3) := dk_182 (a := 1) (b := 121) (by decide +kernel) rfl
theorem dX12_copy_78 : decode cX12_copy 78 = .ok (.ifCond .eq 15, 3) := dk_153 (a := 0) (b := 15) (by decide +kernel) rfl
theorem dX12_copy_81 : decode cX12_copy 81 = .ok (.aload_n 0, 1) := dk_42 (by decide +kernel)
theorem dX12_copy_82 : decode cX12_copy 82 = .ok (.iload_n 3, 1) := dk_29 (by decide +kernel)
theorem dX12_copy_83 : decode cX12_copy 83 = .ok (.iload 4, 2) := dk_21 (by decide +kernel)
theorem dX12_copy_85 : decode cX12_copy 85 = .ok (.iload 5, 2) := dk_21 (by decide +kernel)
theorem dX12_copy_87 : decode cX12_copy 87 = .ok (.invokevirtual 377, 3) := dk_182 (a := 1) (b := 121) (by decide +kernel) rfl
theorem dX12_copy_90 : decode cX12_copy 90 = .ok (.ifCond .ne 6, 3) := dk_154 (a := 0) (b := 6) (by decide +kernel) rfl
theorem dX12_copy_93 : decode cX12_copy 93 = .ok (.bipush (-13), 2) := dk_16 (a := 243) (by decide +kernel) rfl
theorem dX12_copy_95 : decode cX12_copy 95 = .ok (.ireturn, 1) := dk_172 (by decide +kernel)
theorem dX12_copy_96 : decode cX12_copy 96 = .ok (.iconst 0, 1) := dk_3 (by decide +kernel)
theorem dX12_copy_97 : decode cX12_copy 97 = .ok (.istore 6, 2) := dk_54 (by decide +kernel)
theorem dX12_copy_99 : decode cX12_copy 99 = .ok (.iload 6, 2) := dk_21 (by decide +kernel)
theorem dX12_copy_101 : decode cX12_copy 101 = .ok (.iload 5, 2) := dk_21 (by decide +kernel)
theorem dX12_copy_103 : decode cX12_copy 103 = .ok (.if_icmp .ge 30, 3) := dk_162 (a := 0) (b := 30) (by decide +kernel) rfl
theorem dX12_copy_106 : decode cX12_copy 106 = .ok (.aload_n 0, 1) := dk_42 (by decide +kernel)
theorem dX12_copy_107 : decode cX12_copy 107 = .ok (.getfield 161, 3) := dk_180 (a := 0) (b := 161) (by decide +kernel) rfl
theorem dX12_copy_110 : decode cX12_copy 110 = .ok (.iload 6, 2) := dk_21 (by decide +kernel)
theorem dX12_copy_112 : decode cX12_copy 112 = .ok (.aload_n 0, 1) := dk_42 (by decide +kernel)
theorem dX12_copy_113 : decode cX12_copy 113 = .ok (.getfield 158, 3) := dk_180 (a := 0) (b := 158) (by decide +kernel) rfl
theorem dX12_copy_116 : decode cX12_copy 116 = .ok (.bipush 60, 2) := dk_16 (a := 60) (by decide +kernel) rfl
theorem dX12_copy_118 : decode cX12_copy 118 = .ok (.iload_n 1, 1) := dk_27 (by decide +kernel)
theorem dX12_copy_119 : decode cX12_copy 119 = .ok (.imul, 1) := dk_104 (by decide +kernel)
theorem dX12_copy_120 : decode cX12_copy 120 = .ok (.iload_n 2, 1) := dk_28 (by decide +kernel)
theorem dX12_copy_121 : decode cX12_copy 121 = .ok (.iadd, 1) := dk_96 (by decide +kernel)
theorem dX12_copy_122 : decode cX12_copy 122 = .ok (.iload 6, 2) := dk_21 (by decide +kernel)
theorem dX12_copy_124 : decode cX12_copy 124 = .ok (.iadd, 1) := dk_96 (by decide +kernel)
theorem dX12_copy_125 : decode cX12_copy 125 = .ok (.iaload, 1) := dk_46 (by decide +kernel)
theorem dX12_copy_126 : decode cX12_copy 126 = .ok (.iastore, 1) := dk_79 (by decide +kernel)
theorem dX12_copy_127 : decode cX12_copy 127 = .ok (.iinc 6 1, 3) := dk_132 (b := 1) (by decide +kernel) rfl
theorem dX12_copy_130 : decode cX12_copy 130 = .ok (.goto (-31), 3) := dk_167 (a := 255) (b := 225) (by decide +kernel) rfl
theorem dX12_copy_133 : decode cX12_copy 133 = .ok (.iconst 0, 1) := dk_3 (by decide +kernel)
theorem dX12_copy_134 : decode cX12_copy 134 = .ok (.istore 6, 2) := dk_54 (by decide +kernel)
theorem dX12_copy_136 : decode cX12_copy 136 = .ok (.iload 6, 2) := dk_21 (by decide +kernel)
theorem dX12_copy_138 : decode cX12_copy 138 = .ok (.iload 5, 2) := dk_21 (by decide +kernel)
theorem dX12_copy_140 : decode cX12_copy 140 = .ok (.if_icmp .ge 31, 3) := dk_162 (a := 0) (b := 31) (by decide +kernel) rfl
theorem dX12_copy_143 : decode cX12_copy 143 = .ok (.aload_n 0, 1) := dk_42 (by decide +kernel)
theorem dX12_copy_144 : decode cX12_copy 144 = .ok (.getfield 158, 3) := dk_180 (a := 0) (b := 158) (by decide +kernel) rfl
theorem dX12_copy_147 : decode cX12_copy 147 = .ok (.bipush 60, 2) := dk_16 (a := 60) (by decide +kernel) rfl
theorem dX12_copy_149 : decode cX12_copy 149 = .ok (.iload_n 3, 1) := dk_29 (by decide +kernel)
theorem dX12_copy_150 : decode cX12_copy 150 = .ok (.imul, 1) := dk_104 (by decide +kernel)
theorem dX12_copy_151 : decode cX12_copy 151 = .ok (.iload 4, 2) := dk_21 (by decide +kernel)
theorem dX12_copy_153 : decode cX12_copy 153 = .ok (.iadd, 1) := dk_96 (by decide +kernel)
theorem dX12_copy_154 : decode cX12_copy 154 = .ok (.iload 6, 2) := dk_21 (by decide +kernel)
theorem dX12_copy_156 : decode cX12_copy 156 = .ok (.iadd, 1) := dk_96 (by decide +kernel)
theorem dX12_copy_157 : decode cX12_copy 157 = .ok (.aload_n 0, 1) := dk_42 (by decide +kernel)
theorem dX12_copy_158 : decode cX12_copy 158 = .ok (.getfield 161, 3) := dk_180 (a := 0) (b := 161) (by decide +kernel) rfl
theorem dX12_copy_161 : decode cX12_copy 161 = .ok (.iload 6, 2) := dk_21 (by decide +kernel)
theorem dX12_copy_163 : decode cX12_copy 163 = .ok (.iaload, 1) := dk_46 (by decide +kernel)
theorem dX12_copy_164 : decode cX12_copy 164 = .ok (.iastore, 1) := dk_79 (by decide +kernel)
theorem dX12_copy_165 : decode cX12_copy 165 = .ok (.iinc 6 1, 3) := dk_132 (b := 1) (by decide +kernel) rfl
theorem dX12_copy_168 : decode cX12_copy 168 = .ok (.goto (-32), 3) := dk_167 (a := 255) (b := 224) (by decide +kernel) rfl
theorem dX12_copy_171 : decode cX12_copy 171 = .ok (.iload 5, 2) := dk_21 (by decide +kernel)
theorem dX12_copy_173 : decode cX12_copy 173 = .ok (.ireturn, 1) := dk_172 (by decide +kernel)
theorem dX12_denied_0 : decode cX12_denied 0 = .ok (.iload_n 1, 1) := dk_27 (by decide +kernel)
theorem dX12_denied_1 : decode cX12_denied 1 = .ok (.invokestatic 374, 3) := dk_184 (a := 1) (b := 118) (by decide +kernel) rfl
theorem dX12_denied_4 : decode cX12_denied 4 = .ok (.ifCond .ne 7, 3) := dk_154 (a := 0) (b := 7) (by decide +kernel) rfl
theorem dX12_denied_7 : decode cX12_denied 7 = .ok (.iconst (-1), 1) := dk_2 (by decide +kernel)
theorem dX12_denied_8 : decode cX12_denied 8 = .ok (.goto 33, 3) := dk_167 (a := 0) (b := 33) (by decide +kernel) rfl
theorem dX12_denied_11 : decode cX12_denied 11 = .ok (.aload_n 0, 1) := dk_42 (by decide +kernel)
theorem dX12_denied_12 : decode cX12_denied 12 = .ok (.getfield 146, 3) := dk_180 (a := 0) (b := 146) (by decide +kernel) rfl
theorem dX12_denied_15 : decode cX12_denied 15 = .ok (.iload_n 1, 1) := dk_27 (by decide +kernel)
theorem dX12_denied_16 : decode cX12_denied 16 = .ok (.iaload, 1) := dk_46 (by decide +kernel)
theorem dX12_denied_17 : decode cX12_denied 17 = .ok (.ifCond .ne 8, 3) := dk_154 (a := 0) (b := 8) (by decide +kernel) rfl
theorem dX12_denied_20 : decode cX12_denied 20 = .ok (.bipush (-11), 2) := dk_16 (a := 245) (by decide +kernel) rfl
theorem dX12_denied_22 : decode cX12_denied 22 = .ok (.goto 19, 3) := dk_167 (a := 0) (b := 19) (by decide +kernel) rfl
theorem dX12_denied_25 : decode cX12_denied 25 = .ok (.aload_n 0, 1) := dk_42 (by decide +kernel)
theorem dX12_denied_26 : decode cX12_denied 26 = .ok (.getfield 146, 3) := dk_180 (a := 0) (b := 146) (by decide +kernel) rfl
theorem dX12_denied_29 : decode cX12_denied 29 = .ok (.iload_n 1, 1) := dk_27 (by decide +kernel)
theorem dX12_denied_30 : decode cX12_denied 30 = .ok (.iaload, 1) := dk_46 (by decide +kernel)
theorem dX12_denied_31 : decode cX12_denied 31 = .ok (.iconst 1, 1) := dk_4 (by decide +kernel)
theorem dX12_denied_32 : decode cX12_denied 32 = .ok (.if_icmp .le 8, 3) := dk_164 (a := 0) (b := 8) (by decide +kernel) rfl
theorem dX12_denied_35 : decode cX12_denied 35 = .ok (.bipush (-12), 2) := dk_16 (a := 244) (by decide +kernel) rfl
theorem dX12_denied_37 : decode cX12_denied 37 = .ok (.goto 4, 3) := dk_167 (a := 0) (b := 4) (by decide +kernel) rfl
theorem dX12_denied_40 : decode cX12_denied 40 = .ok (.iconst 0, 1) := dk_3 (by decide +kernel)
theorem dX12_denied_41 : decode cX12_denied 41 = .ok (.ireturn, 1) := dk_172 (by decide +kernel)
theorem dX12_weight_0 : decode cX12_weight 0 = .ok (.aload_n 0, 1) := dk_42 (by decide +kernel)
theorem dX12_weight_1 : decode cX12_weight 1 = .ok (.iconst 0, 1) := dk_3 (by decide +kernel)
theorem dX12_weight_2 : decode cX12_weight 2 = .ok (.putfield 164, 3) := dk_181 (a := 0) (b := 164) (by decide +kernel) rfl
theorem dX12_weight_5 : decode cX12_weight 5 = .ok (.aload_n 0, 1) := dk_42 (by decide +kernel)
theorem dX12_weight_6 : decode cX12_weight 6 = .ok (.iload_n 1, 1) := dk_27 (by decide +kernel)
theorem dX12_weight_7 : decode cX12_weight 7 = .ok (.invokevirtual 380, 3) := dk_182 (a := 1) (b := 124) (by decide +kernel) rfl
theorem dX12_weight_10 : decode cX12_weight 10 = .ok (.istore_n 2, 1) := dk_61 (by decide +kernel)
theorem dX12_weight_11 : decode cX12_weight 11 = .ok (.iload_n 2, 1) := dk_28 (by decide +kernel)
theorem dX12_weight_12 : decode cX12_weight 12 = .ok (.ifCond .ge 5, 3) := dk_156 (a := 0) (b := 5) (by decide +kernel) rfl
theorem dX12_weight_15 : decode cX12_weight 15 = .ok (.iload_n 2, 1) := dk_28 (by decide +kernel)
theorem dX12_weight_16 : decode cX12_weight 16 = .ok (.ireturn, 1) := dk_172 (by decide +kernel)
theorem dX12_weight_17 : decode cX12_weight 17 = .ok (.aload_n 0, 1) := dk_42 (by decide +kernel)
theorem dX12_weight_18 : decode cX12_weight 18 = .ok (.getfield 152, 3) := dk_180 (a := 0) (b := 152) (by decide +kernel) rfl
theorem dX12_weight_21 : decode cX12_weight 21 = .ok (.iload_n 1, 1) := dk_27 (by decide +kernel)
theorem dX12_weight_22 : decode cX12_weight 22 = .ok (.iaload, 1) := dk_46 (by decide +kernel)
theorem dX12_weight_23 : decode cX12_weight 23 = .ok (.iconst 1, 1) := dk_4 (by decide +kernel)
theorem dX12_weight_24 : decode cX12_weight 24 = .ok (.iadd, 1) := dk_96 (by decide +kernel)
theorem dX12_weight_25 : decode cX12_weight 25 = .ok (.istore_n 3, 1) := dk_62 (by decide +kernel)
theorem dX12_weight_26 : decode cX12_weight 26 = .ok (.aload_n 0, 1) := dk_42 (by decide +kernel)
theorem dX12_weight_27 : decode cX12_weight 27 = .ok (.getfield 155, 3) := dk_180 (a := 0) (b := 155) (by decide +kernel) rfl
theorem dX12_weight_30 : decode cX12_weight 30 = .ok (.iload_n 1, 1) := dk_27 (by decide +kernel)
theorem dX12_weight_31 : decode cX12_weight 31 = .ok (.iaload, 1) := dk_46 (by decide +kernel)
theorem dX12_weight_32 : decode cX12_weight 32 = .ok (.iconst 1, 1) := dk_4 (by decide +kernel)
theorem dX12_weight_33 : decode cX12_weight 33 = .ok (.if_icmp .ne 17, 3) := dk_160 (a := 0) (b := 17) (by decide +kernel) rfl
theorem dX12_weight_36 : decode cX12_weight 36 = .ok (.iload_n 3, 1) := dk_29 (by decide +kernel)
theorem dX12_weight_37 : decode cX12_weight 37 = .ok (.bipush 10, 2) := dk_16 (a := 10) (by decide +kernel) rfl
theorem dX12_weight_39 : decode cX12_weight 39 = .ok (.aload_n 0, 1) := dk_42 (by decide +kernel)
theorem dX12_weight_40 : decode cX12_weight 40 = .ok (.getfield 149, 3) := dk_180 (a := 0) (b := 149) (by decide +kernel) rfl
theorem dX12_weight_43 : decode cX12_weight 43 = .ok (.iload_n 1, 1) := dk_27 (by decide +kernel)
theorem dX12_weight_44 : decode cX12_weight 44 = .ok (.iaload, 1) := dk_46 (by decide +kernel)
theorem dX12_weight_45 : decode cX12_weight 45 = .ok (.imul, 1) := dk_104 (by decide +kernel)
theorem dX12_weight_46 : decode cX12_weight 46 = .ok (.iadd, 1) := dk_96 (by decide +kernel)
theorem dX12_weight_47 : decode cX12_weight 47 = .ok (.goto 26, 3) := dk_167 (a := 0) (b := 26) (by decide +kernel) rfl
theorem dX12_weight_50 : decode cX12_weight 50 = .ok (.aload_n 0, 1) := dk_42 (by decide +kernel)
theorem dX12_weight_51 : decode cX12_weight 51 = .ok (.getfield 155, 3) := dk_180 (a := 0) (b := 155) (by decide +kernel) rfl
theorem dX12_weight_54 : decode cX12_weight 54 = .ok (.iload_n 1, 1) := dk_27 (by decide +kernel)
theorem dX12_weight_55 : decode cX12_weight 55 = .ok (.iaload, 1) := dk_46 (by decide +kernel)
theorem dX12_weight_56 : decode cX12_weight 56 = .ok (.iconst 2, 1) := dk_5 (by decide +kernel)
theorem dX12_weight_57 : decode cX12_weight 57 = .ok (.if_icmp .ne 10, 3) := dk_160 (a := 0) (b := 10) (by decide +kernel) rfl
theorem dX12_weight_60 : decode cX12_weight 60 = .ok (.iload_n 3, 1) := dk_29 (by decide +kernel)
theorem dX12_weight_61 : decode cX12_weight 61 = .ok (.bipush 100, 2) := dk_16 (a := 100) (by decide +kernel) rfl
theorem dX12_weight_63 : decode cX12_weight 63 = .ok (.iadd, 1) := dk_96 (by decide +kernel)
theorem dX12_weight_64 : decode cX12_weight 64 = .ok (.goto 9, 3) := dk_167 (a := 0) (b := 9) (by decide +kernel) rfl
theorem dX12_weight_67 : decode cX12_weight 67 = .ok (.iconst 2, 1) := dk_5 (by decide +kernel)
theorem dX12_weight_68 : decode cX12_weight 68 = .ok (.iload_n 3, 1) := dk_29 (by decide +kernel)
theorem dX12_weight_69 : decode cX12_weight 69 = .ok (.bipush 100, 2) := dk_16 (a := 100) (by decide +kernel) rfl
theorem dX12_weight_71 : decode cX12_weight 71 = .ok (.iadd, 1) := dk_96 (by decide +kernel)
theorem dX12_weight_72 : decode cX12_weight 72 = .ok (.imul, 1) := dk_104 (by decide +kernel)
theorem dX12_weight_73 : decode cX12_weight 73 = .ok (.ireturn, 1) := dk_172 (by decide +kernel)
theorem dX12_toss_0 : decode cX12_toss 0 = .ok (.aload_n 0, 1) := dk_42 (by decide +kernel)
theorem dX12_toss_1 : decode cX12_toss 1 = .ok (.iconst 0, 1) := dk_3 (by decide +kernel)
theorem dX12_toss_2 : decode cX12_toss 2 = .ok (.putfield 164, 3) := dk_181 (a := 0) (b := 164) (by decide +kernel) rfl
theorem dX12_toss_5 : decode cX12_toss 5 = .ok (.aload_n 0, 1) := dk_42 (by decide +kernel)
theorem dX12_toss_6 : decode cX12_toss 6 = .ok (.iload_n 1, 1) := dk_27 (by decide +kernel)
theorem dX12_toss_7 : decode cX12_toss 7 = .ok (.invokevirtual 380, 3) := dk_182 (a := 1) (b := 124) (by decide +kernel) rfl
theorem dX12_toss_10 : decode cX12_toss 10 = .ok (.istore_n 2, 1) := dk_61 (by decide +kernel)
theorem dX12_toss_11 : decode cX12_toss 11 = .ok (.iload_n 2, 1) := dk_28 (by decide +kernel)
theorem dX12_toss_12 : decode cX12_toss 12 = .ok (.ifCond .ge 7, 3) := dk_156 (a := 0) (b := 7) (by decide +kernel) rfl
theorem dX12_toss_15 : decode cX12_toss 15 = .ok (.iload_n 2, 1) := dk_28 (by decide +kernel)
theorem dX12_toss_16 : decode cX12_toss 16 = .ok (.goto 24, 3) := dk_167 (a := 0) (b := 24) (by decide +kernel) rfl
theorem dX12_toss_19 : decode cX12_toss 19 = .ok (.aload_n 0, 1) := dk_42 (by decide +kernel)
theorem dX12_toss_20 : decode cX12_toss 20 = .ok (.getfield 155, 3) := dk_180 (a := 0) (b := 155) (by decide +kernel) rfl
theorem dX12_toss_23 : decode cX12_toss 23 = .ok (.iload_n 1, 1) := dk_27 (by decide +kernel)
theorem dX12_toss_24 : decode cX12_toss 24 = .ok (.iaload, 1) := dk_46 (by decide +kernel)
theorem dX12_toss_25 : decode cX12_toss 25 = .ok (.iconst 1, 1) := dk_4 (by decide +kernel)
theorem dX12_toss_26 : decode cX12_toss 26 = .ok (.if_icmp .ne 8, 3) := dk_160 (a := 0) (b := 8) (by decide +kernel) rfl
theorem dX12_toss_29 : decode cX12_toss 29 = .ok (.bipush (-15), 2) := dk_16 (a := 241) (by decide +kernel) rfl
theorem dX12_toss_31 : decode cX12_toss 31 = .ok (.goto 9, 3) := dk_167 (a := 0) (b := 9) (by decide +kernel) rfl
theorem dX12_toss_34 : decode cX12_toss 34 = .ok (.aload_n 0, 1) := dk_42 (by decide +kernel)
theorem dX12_toss_35 : decode cX12_toss 35 = .ok (.getfield 152, 3) := dk_180 (a := 0) (b := 152) (by decide +kernel) rfl
theorem dX12_toss_38 : decode cX12_toss 38 = .ok (.iload_n 1, 1) := dk_27 (by decide +kernel)
theorem dX12_toss_39 : decode cX12_toss 39 = .ok (.iaload, 1) := dk_46 (by decide +kernel)
theorem dX12_toss_40 : decode cX12_toss 40 = .ok (.ireturn, 1) := dk_172 (by decide +kernel)
