theorem dX11_when_11 : decode cX11_when 11 = .ok (.invokestatic 81, 3) := dk_184 (a := 0) (b := 81) (by decide +kernel) rfl
theorem dX11_when_14 : decode cX11_when 14 = .ok (.ifCond .eq 14, 3) := dk_153 (a := 0) (b := 14) (by decide +kernel) rfl
theorem dX11_when_17 : decode cX11_when 17 = .ok (.iload 4, 2) := dk_21 (by decide +kernel)
theorem dX11_when_19 : decode cX11_when 19 = .ok (.ifCond .lt 9, 3) := dk_155 (a := 0) (b := 9) (by decide +kernel) rfl
theorem dX11_when_22 : decode cX11_when 22 = .ok (.iload 4, 2) := dk_21 (by decide +kernel)
theorem dX11_when_24 : decode cX11_when 24 = .ok (.iconst 2, 1) := dk_5 (by decide +kernel)
theorem dX11_when_25 : decode cX11_when 25 = .ok (.if_icmp .le 5, 3) := dk_164 (a := 0) (b := 5) (by decide +kernel) rfl
theorem dX11_when_28 : decode cX11_when 28 = .ok (.iconst (-1), 1) := dk_2 (by decide +kernel)
theorem dX11_when_29 : decode cX11_when 29 = .ok (.ireturn, 1) := dk_172 (by decide +kernel)
theorem dX11_when_30 : decode cX11_when 30 = .ok (.iload 4, 2) := dk_21 (by decide +kernel)
theorem dX11_when_32 : decode cX11_when 32 = .ok (.ifCond .ne 22, 3) := dk_154 (a := 0) (b := 22) (by decide +kernel) rfl
theorem dX11_when_35 : decode cX11_when 35 = .ok (.aload_n 0, 1) := dk_42 (by decide +kernel)
theorem dX11_when_36 : decode cX11_when 36 = .ok (.getfield 34, 3) := dk_180 (a := 0) (b := 34) (by decide +kernel) rfl
theorem dX11_when_39 : decode cX11_when 39 = .ok (.iload_n 1, 1) := dk_27 (by decide +kernel)
theorem dX11_when_40 : decode cX11_when 40 = .ok (.iload_n 2, 1) := dk_28 (by decide +kernel)
theorem dX11_when_41 : decode cX11_when 41 = .ok (.aload_n 0, 1) := dk_42 (by decide +kernel)
theorem dX11_when_42 : decode cX11_when 42 = .ok (.getfield 16, 3) := dk_180 (a := 0) (b := 16) (by decide +kernel) rfl
theorem dX11_when_45 : decode cX11_when 45 = .ok (.getfield 84, 3) := dk_180 (a := 0) (b := 84) (by decide +kernel) rfl
theorem dX11_when_48 : decode cX11_when 48 = .ok (.iload_n 1, 1) := dk_27 (by decide +kernel)
theorem dX11_when_49 : decode cX11_when 49 = .ok (.iaload, 1) := dk_46 (by decide +kernel)
theorem dX11_when_50 : decode cX11_when 50 = .ok (.invokevirtual 243, 3) := dk_182 (a := 0) (b := 243) (by decide +kernel) rfl
theorem dX11_when_53 : decode cX11_when 53 = .ok (.ireturn, 1) := dk_172 (by decide +kernel)
theorem dX11_when_54 : decode cX11_when 54 = .ok (.aload_n 0, 1) := dk_42 (by decide +kernel)
theorem dX11_when_55 : decode cX11_when 55 = .ok (.getfield 34, 3) := dk_180 (a := 0) (b := 34) (by decide +kernel) rfl
theorem dX11_when_58 : decode cX11_when 58 = .ok (.iload_n 1, 1) := dk_27 (by decide +kernel)
theorem dX11_when_59 : decode cX11_when 59 = .ok (.iload_n 2, 1) := dk_28 (by decide +kernel)
theorem dX11_when_60 : decode cX11_when 60 = .ok (.aload_n 0, 1) := dk_42 (by decide +kernel)
theorem dX11_when_61 : decode cX11_when 61 = .ok (.getfield 16, 3) := dk_180 (a := 0) (b := 16) (by decide +kernel) rfl
theorem dX11_when_64 : decode cX11_when 64 = .ok (.getfield 84, 3) := dk_180 (a := 0) (b := 84) (by decide +kernel) rfl
theorem dX11_when_67 : decode cX11_when 67 = .ok (.iload_n 1, 1) := dk_27 (by decide +kernel)
theorem dX11_when_68 : decode cX11_when 68 = .ok (.iaload, 1) := dk_46 (by decide +kernel)
theorem dX11_when_69 : decode cX11_when 69 = .ok (.iload_n 3, 1) := dk_29 (by decide +kernel)
theorem dX11_when_70 : decode cX11_when 70 = .ok (.iload 4, 2) := dk_21 (by decide +kernel)
theorem dX11_when_72 : decode cX11_when 72 = .ok (.iconst 1, 1) := dk_4 (by decide +kernel)
theorem dX11_when_73 : decode cX11_when 73 = .ok (.if_icmp .ne 7, 3) := dk_160 (a := 0) (b := 7) (by decide +kernel) rfl
theorem dX11_when_76 : decode cX11_when 76 = .ok (.iconst 1, 1) := dk_4 (by decide +kernel)
theorem dX11_when_77 : decode cX11_when 77 = .ok (.goto 4, 3) := dk_167 (a := 0) (b := 4) (by decide +kernel) rfl
theorem dX11_when_80 : decode cX11_when 80 = .ok (.iconst 0, 1) := dk_3 (by decide +kernel)
theorem dX11_when_81 : decode cX11_when 81 = .ok (.invokevirtual 247, 3) := dk_182 (a := 0) (b := 247) (by decide +kernel) rfl
theorem dX11_when_84 : decode cX11_when 84 = .ok (.ireturn, 1) := dk_172 (by decide +kernel)
theorem dX11_ahead_0 : decode cX11_ahead 0 = .ok (.aload_n 0, 1) := dk_42 (by decide +kernel)
theorem dX11_ahead_1 : decode cX11_ahead 1 = .ok (.getfield 116, 3) := dk_180 (a := 0) (b := 116) (by decide +kernel) rfl
theorem dX11_ahead_4 : decode cX11_ahead 4 = .ok (.ifCond .ne 6, 3) := dk_154 (a := 0) (b := 6) (by decide +kernel) rfl
theorem dX11_ahead_7 : decode cX11_ahead 7 = .ok (.bipush (-2), 2) := dk_16 (a := 254) (by decide +kernel) rfl
theorem dX11_ahead_9 : decode cX11_ahead 9 = .ok (.ireturn, 1) := dk_172 (by decide +kernel)
theorem dX11_ahead_10 : decode cX11_ahead 10 = .ok (.iload_n 1, 1) := dk_27 (by decide +kernel)
theorem dX11_ahead_11 : decode cX11_ahead 11 = .ok (.iconst 1, 1) := dk_4 (by decide +kernel)
theorem dX11_ahead_12 : decode cX11_ahead 12 = .ok (.if_icmp .lt 19, 3) := dk_161 (a := 0) (b := 19) (by decide +kernel) rfl
theorem dX11_ahead_15 : decode cX11_ahead 15 = .ok (.iload_n 1, 1) := dk_27 (by decide +kernel)
theorem dX11_ahead_16 : decode cX11_ahead 16 = .ok (.iload_n 2, 1) := dk_28 (by decide +kernel)
theorem dX11_ahead_17 : decode cX11_ahead 17 = .ok (.if_icmp .ge 14, 3) := dk_162 (a := 0) (b := 14) (by decide +kernel) rfl
theorem dX11_ahead_20 : decode cX11_ahead 20 = .ok (.iload_n 2, 1) := dk_28 (by decide +kernel)
theorem dX11_ahead_21 : decode cX11_ahead 21 = .ok (.aload_n 0, 1) := dk_42 (by decide +kernel)
theorem dX11_ahead_22 : decode cX11_ahead 22 = .ok (.getfield 34, 3) := dk_180 (a := 0) (b := 34) (by decide +kernel) rfl
theorem dX11_ahead_25 : decode cX11_ahead 25 = .ok (.getfield 120, 3) := dk_180 (a := 0) (b := 120) (by decide +kernel) rfl
theorem dX11_ahead_28 : decode cX11_ahead 28 = .ok (.if_icmp .le 5, 3) := dk_164 (a := 0) (b := 5) (by decide +kernel) rfl
theorem dX11_ahead_31 : decode cX11_ahead 31 = .ok (.iconst (-1), 1) := dk_2 (by decide +kernel)
theorem dX11_ahead_32 : decode cX11_ahead 32 = .ok (.ireturn, 1) := dk_172 (by decide +kernel)
theorem dX11_ahead_33 : decode cX11_ahead 33 = .ok (.aload_n 0, 1) := dk_42 (by decide +kernel)
theorem dX11_ahead_34 : decode cX11_ahead 34 = .ok (.getfield 43, 3) := dk_180 (a := 0) (b := 43) (by decide +kernel) rfl
theorem dX11_ahead_37 : decode cX11_ahead 37 = .ok (.invokevirtual 251, 3) := dk_182 (a := 0) (b := 251) (by decide +kernel) rfl
theorem dX11_ahead_40 : decode cX11_ahead 40 = .ok (.aload_n 0, 1) := dk_42 (by decide +kernel)
theorem dX11_ahead_41 : decode cX11_ahead 41 = .ok (.getfield 43, 3) := dk_180 (a := 0) (b := 43) (by decide +kernel) rfl
theorem dX11_ahead_44 : decode cX11_ahead 44 = .ok (.iload_n 1, 1) := dk_27 (by decide +kernel)
theorem dX11_ahead_45 : decode cX11_ahead 45 = .ok (.iload_n 2, 1) := dk_28 (by decide +kernel)
theorem dX11_ahead_46 : decode cX11_ahead 46 = .ok (.invokevirtual 254, 3) := dk_182 (a := 0) (b := 254) (by decide +kernel) rfl
theorem dX11_ahead_49 : decode cX11_ahead 49 = .ok (.ifCond .eq 7, 3) := dk_153 (a := 0) (b := 7) (by decide +kernel) rfl
theorem dX11_ahead_52 : decode cX11_ahead 52 = .ok (.iconst 1, 1) := dk_4 (by decide +kernel)
theorem dX11_ahead_53 : decode cX11_ahead 53 = .ok (.goto 4, 3) := dk_167 (a := 0) (b := 4) (by decide +kernel) rfl
theorem dX11_ahead_56 : decode cX11_ahead 56 = .ok (.iconst 0, 1) := dk_3 (by decide +kernel)
theorem dX11_ahead_57 : decode cX11_ahead 57 = .ok (.ireturn, 1) := dk_172 (by decide +kernel)
theorem dX11_race_0 : decode cX11_race 0 = .ok (.aload_n 0, 1) := dk_42 (by decide +kernel)
theorem dX11_race_1 : decode cX11_race 1 = .ok (.getfield 116, 3) := dk_180 (a := 0) (b := 116) (by decide +kernel) rfl
theorem dX11_race_4 : decode cX11_race 4 = .ok (.ifCond .ne 6, 3) := dk_154 (a := 0) (b := 6) (by decide +kernel) rfl
theorem dX11_race_7 : decode cX11_race 7 = .ok (.bipush (-2), 2) := dk_16 (a := 254) (by decide +kernel) rfl
theorem dX11_race_9 : decode cX11_race 9 = .ok (.ireturn, 1) := dk_172 (by decide +kernel)
theorem dX11_race_10 : decode cX11_race 10 = .ok (.iload_n 2, 1) := dk_28 (by decide +kernel)
theorem dX11_race_11 : decode cX11_race 11 = .ok (.ifCond .lt 8, 3) := dk_155 (a := 0) (b := 8) (by decide +kernel) rfl
theorem dX11_race_14 : decode cX11_race 14 = .ok (.iload_n 2, 1) := dk_28 (by decide +kernel)
theorem dX11_race_15 : decode cX11_race 15 = .ok (.iconst 3, 1) := dk_6 (by decide +kernel)
theorem dX11_race_16 : decode cX11_race 16 = .ok (.if_icmp .le 5, 3) := dk_164 (a := 0) (b := 5) (by decide +kernel) rfl
theorem dX11_race_19 : decode cX11_race 19 = .ok (.iconst (-1), 1) := dk_2 (by decide +kernel)
theorem dX11_race_20 : decode cX11_race 20 = .ok (.ireturn, 1) := dk_172 (by decide +kernel)
theorem dX11_race_21 : decode cX11_race 21 = .ok (.aload_n 0, 1) := dk_42 (by decide +kernel)
theorem dX11_race_22 : decode cX11_race 22 = .ok (.getfield 43, 3) := dk_180 (a := 0) (b := 43) (by decide +kernel) rfl
theorem dX11_race_25 : decode cX11_race 25 = .ok (.invokevirtual 251, 3) := dk_182 (a := 0) (b := 251) (by decide +kernel) rfl
theorem dX11_race_28 : decode cX11_race 28 = .ok (.iload_n 2, 1) := dk_28 (by decide +kernel)
theorem dX11_race_29 : decode cX11_race 29 = .ok (.ifCond .ne 11, 3) := dk_154 (a := 0) (b := 11) (by decide +kernel) rfl
theorem dX11_race_32 : decode cX11_race 32 = .ok (.aload_n 0, 1) := dk_42 (by decide +kernel)
theorem dX11_race_33 : decode cX11_race 33 = .ok (.getfield 43, 3) := dk_180 (a := 0) (b := 43) (by decide +kernel) rfl
theorem dX11_race_36 : decode cX11_race 36 = .ok (.getfield 257, 3) := dk_180 (a := 1) (b := 1) (by decide +kernel) rfl
theorem dX11_race_39 : decode cX11_race 39 = .ok (.ireturn, 1) := dk_172 (by decide +kernel)
theorem dX11_race_40 : decode cX11_race 40 = .ok (.iload_n 1, 1) := dk_27 (by decide +kernel)
theorem dX11_race_41 : decode cX11_race 41 = .ok (.ifCond .lt 14, 3) := dk_155 (a := 0) (b := 14) (by decide +kernel) rfl
theorem dX11_race_44 : decode cX11_race 44 = .ok (.iload_n 1, 1) := dk_27 (by decide +kernel)
theorem dX11_race_45 : decode cX11_race 45 = .ok (.aload_n 0, 1) := dk_42 (by decide +kernel)
theorem dX11_race_46 : decode cX11_race 46 = .ok (.getfield 43, 3) := dk_180 (a := 0) (b := 43) (by decide +kernel) rfl
theorem dX11_race_49 : decode cX11_race 49 = .ok (.getfield 257, 3) := dk_180 (a := 1) (b := 1) (by decide +kernel) rfl
theorem dX11_race_52 : decode cX11_race 52 = .ok (.if_icmp .lt 5, 3) := dk_161 (a := 0) (b := 5) (by decide +kernel) rfl
theorem dX11_race_55 : decode cX11_race 55 = .ok (.iconst (-1), 1) := dk_2 (by decide +kernel)
theorem dX11_race_56 : decode cX11_race 56 = .ok (.ireturn, 1) := dk_172 (by decide +kernel)
theorem dX11_race_57 : decode cX11_race 57 = .ok (.aload_n 0, 1) := dk_42 (by decide +kernel)
theorem dX11_race_58 : decode cX11_race 58 = .ok (.getfield 43, 3) := dk_180 (a := 0) (b := 43) (by decide +kernel) rfl
theorem dX11_race_61 : decode cX11_race 61 = .ok (.iload_n 1, 1) := dk_27 (by decide +kernel)
theorem dX11_race_62 : decode cX11_race 62 = .ok (.invokevirtual 260, 3) := dk_182 (a := 1) (b := 4) (by decide +kernel) rfl
theorem dX11_race_65 : decode cX11_race 65 = .ok (.istore_n 3, 1) := dk_62 (by decide +kernel)
theorem dX11_race_66 : decode cX11_race 66 = .ok (.iload_n 2, 1) := dk_28 (by decide +kernel)
theorem dX11_race_67 : decode cX11_race 67 = .ok (.iconst 2, 1) := dk_5 (by decide +kernel)
theorem dX11_race_68 : decode cX11_race 68 = .ok (.if_icmp .ne 5, 3) := dk_160 (a := 0) (b := 5) (by decide +kernel) rfl
theorem dX11_race_71 : decode cX11_race 71 = .ok (.iload_n 3, 1) := dk_29 (by decide +kernel)
theorem dX11_race_72 : decode cX11_race 72 = .ok (.ireturn, 1) := dk_172 (by decide +kernel)
theorem dX11_race_73 : decode cX11_race 73 = .ok (.iload_n 2, 1) := dk_28 (by decide +kernel)
theorem dX11_race_74 : decode cX11_race 74 = .ok (.iconst 3, 1) := dk_6 (by decide +kernel)
theorem dX11_race_75 : decode cX11_race 75 = .ok (.if_icmp .ne 14, 3) := dk_160 (a := 0) (b := 14) (by decide +kernel) rfl
theorem dX11_race_78 : decode cX11_race 78 = .ok (.aload_n 0, 1) := dk_42 (by decide +kernel)
theorem dX11_race_79 : decode cX11_race 79 = .ok (.getfield 34, 3) := dk_180 (a := 0) (b := 34) (by decide +kernel) rfl
theorem dX11_race_82 : decode cX11_race 82 = .ok (.iload_n 3, 1) := dk_29 (by decide +kernel)
theorem dX11_race_83 : decode cX11_race 83 = .ok (.invokevirtual 263, 3) := dk_182 (a := 1) (b := 7) (by decide +kernel) rfl
theorem dX11_race_86 : decode cX11_race 86 = .ok (.goto 12, 3) := dk_167 (a := 0) (b := 12) (by decide +kernel) rfl
theorem dX11_race_89 : decode cX11_race 89 = .ok (.aload_n 0, 1) := dk_42 (by decide +kernel)
theorem dX11_race_90 : decode cX11_race 90 = .ok (.getfield 43, 3) := dk_180 (a := 0) (b := 43) (by decide +kernel) rfl
theorem dX11_race_93 : decode cX11_race 93 = .ok (.iload_n 1, 1) := dk_27 (by decide +kernel)
theorem dX11_race_94 : decode cX11_race 94 = .ok (.iload_n 3, 1) := dk_29 (by decide +kernel)
theorem dX11_race_95 : decode cX11_race 95 = .ok (.invokevirtual 266, 3) := dk_182 (a := 1) (b := 10) (by decide +kernel) rfl
theorem dX11_race_98 : decode cX11_race 98 = .ok (.ireturn, 1) := dk_172 (by decide +kernel)
theorem dX11_differ_0 : decode cX11_differ 0 = .ok (.aload_n 0, 1) := dk_42 (by decide +kernel)
theorem dX11_differ_1 : decode cX11_differ 1 = .ok (.getfield 116, 3) := dk_180 (a := 0) (b := 116) (by decide +kernel) rfl
theorem dX11_differ_4 : decode cX11_differ 4 = .ok (.ifCond .ne 6, 3) := dk_154 (a := 0) (b := 6) (by decide +kernel) rfl
theorem dX11_differ_7 : decode cX11_differ 7 = .ok (.bipush (-2), 2) := dk_16 (a := 254) (by decide +kernel) rfl
theorem dX11_differ_9 : decode cX11_differ 9 = .ok (.ireturn, 1) := dk_172 (by decide +kernel)
theorem dX11_differ_10 : decode cX11_differ 10 = .ok (.aload_n 0, 1) := dk_42 (by decide +kernel)
theorem dX11_differ_11 : decode cX11_differ 11 = .ok (.iload_n 1, 1) := dk_27 (by decide +kernel)
theorem dX11_differ_12 : decode cX11_differ 12 = .ok (.invokevirtual 179, 3) := dk_182 (a := 0) (b := 179) (by decide +kernel) rfl
theorem dX11_differ_15 : decode cX11_differ 15 = .ok (.ifCond .eq 11, 3) := dk_153 (a := 0) (b := 11) (by decide +kernel) rfl
theorem dX11_differ_18 : decode cX11_differ 18 = .ok (.aload_n 0, 1) := dk_42 (by decide +kernel)
theorem dX11_differ_19 : decode cX11_differ 19 = .ok (.iload_n 2, 1) := dk_28 (by decide +kernel)
theorem dX11_differ_20 : decode cX11_differ 20 = .ok (.invokevirtual 179, 3) := dk_182 (a := 0) (b := 179) (by decide +kernel) rfl
theorem dX11_differ_23 : decode cX11_differ 23 = .ok (.ifCond .ne 5, 3) := dk_154 (a := 0) (b := 5) (by decide +kernel) rfl
theorem dX11_differ_26 : decode cX11_differ 26 = .ok (.iconst (-1), 1) := dk_2 (by decide +kernel)
theorem dX11_differ_27 : decode cX11_differ 27 = .ok (.ireturn, 1) := dk_172 (by decide +kernel)
theorem dX11_differ_28 : decode cX11_differ 28 = .ok (.aload_n 0, 1) := dk_42 (by decide +kernel)
theorem dX11_differ_29 : decode cX11_differ 29 = .ok (.getfield 28, 3) := dk_180 (a := 0) (b := 28) (by decide +kernel) rfl
theorem dX11_differ_32 : decode cX11_differ 32 = .ok (.aload_n 0, 1) := dk_42 (by decide +kernel)
theorem dX11_differ_33 : decode cX11_differ 33 = .ok (.getfield 16, 3) := dk_180 (a := 0) (b := 16) (by decide +kernel) rfl
theorem dX11_differ_36 : decode cX11_differ 36 = .ok (.aload_n 0, 1) := dk_42 (by decide +kernel)
theorem dX11_differ_37 : decode cX11_differ 37 = .ok (.getfield 16, 3) := dk_180 (a := 0) (b := 16) (by decide +kernel) rfl
theorem dX11_differ_40 : decode cX11_differ 40 = .ok (.getfield 87, 3) := dk_180 (a := 0) (b := 87) (by decide +kernel) rfl
theorem dX11_differ_43 : decode cX11_differ 43 = .ok (.invokevirtual 105, 3) := dk_182 (a := 0) (b := 105) (by decide +kernel) rfl
theorem dX11_differ_46 : decode cX11_differ 46 = .ok (.aload_n 0, 1) := dk_42 (by decide +kernel)
theorem dX11_differ_47 : decode cX11_differ 47 = .ok (.aload_n 0, 1) := dk_42 (by decide +kernel)
theorem dX11_differ_48 : decode cX11_differ 48 = .ok (.getfield 28, 3) := dk_180 (a := 0) (b := 28) (by decide +kernel) rfl
theorem dX11_differ_51 : decode cX11_differ 51 = .ok (.iconst 0, 1) := dk_3 (by decide +kernel)
theorem dX11_differ_52 : decode cX11_differ 52 = .ok (.iload_n 1, 1) := dk_27 (by decide +kernel)
theorem dX11_differ_53 : decode cX11_differ 53 = .ok (.invokevirtual 269, 3) := dk_182 (a := 1) (b := 13) (by decide +kernel) rfl
theorem dX11_differ_56 : decode cX11_differ 56 = .ok (.aload_n 0, 1) := dk_42 (by decide +kernel)
theorem dX11_differ_57 : decode cX11_differ 57 = .ok (.iload_n 2, 1) := dk_28 (by decide +kernel)
theorem dX11_differ_58 : decode cX11_differ 58 = .ok (.invokevirtual 200, 3) := dk_182 (a := 0) (b := 200) (by decide +kernel) rfl
theorem dX11_differ_61 : decode cX11_differ 61 = .ok (.aload_n 0, 1) := dk_42 (by decide +kernel)
theorem dX11_differ_62 : decode cX11_differ 62 = .ok (.getfield 28, 3) := dk_180 (a := 0) (b := 28) (by decide +kernel) rfl
theorem dX11_differ_65 : decode cX11_differ 65 = .ok (.invokevirtual 273, 3) := dk_182 (a := 1) (b := 17) (by decide +kernel) rfl
theorem dX11_differ_68 : decode cX11_differ 68 = .ok (.ireturn, 1) := dk_172 (by decide +kernel)
theorem dX11_find_0 : decode cX11_find 0 = .ok (.iload_n 1, 1) := dk_27 (by decide +kernel)
theorem dX11_find_1 : decode cX11_find 1 = .ok (.ifCond .lt 19, 3) := dk_155 (a := 0) (b := 19) (by decide +kernel) rfl
theorem dX11_find_4 : decode cX11_find 4 = .ok (.iload_n 1, 1) := dk_27 (by decide +kernel)
theorem dX11_find_5 : decode cX11_find 5 = .ok (.iconst 2, 1) := dk_5 (by decide +kernel)
theorem dX11_find_6 : decode cX11_find 6 = .ok (.if_icmp .gt 14, 3) := dk_163 (a := 0) (b := 14) (by decide +kernel) rfl
theorem dX11_find_9 : decode cX11_find 9 = .ok (.iload_n 2, 1) := dk_28 (by decide +kernel)
theorem dX11_find_10 : decode cX11_find 10 = .ok (.iconst 1, 1) := dk_4 (by decide +kernel)
theorem dX11_find_11 : decode cX11_find 11 = .ok (.if_icmp .lt 9, 3) := dk_161 (a := 0) (b := 9) (by decide +kernel) rfl
theorem dX11_find_14 : decode cX11_find 14 = .ok (.iload_n 2, 1) := dk_28 (by decide +kernel)
theorem dX11_find_15 : decode cX11_find 15 = .ok (.bipush 100, 2) := dk_16 (a := 100) (by decide +kernel) rfl
theorem dX11_find_17 : decode cX11_find 17 = .ok (.if_icmp .le 5, 3) := dk_164 (a := 0) (b := 5) (by decide +kernel) rfl
theorem dX11_find_20 : decode cX11_find 20 = .ok (.iconst (-1), 1) := dk_2 (by decide +kernel)
theorem dX11_find_21 : decode cX11_find 21 = .ok (.ireturn, 1) := dk_172 (by decide +kernel)
theorem dX11_find_22 : decode cX11_find 22 = .ok (.aload_n 0, 1) := dk_42 (by decide +kernel)
theorem dX11_find_23 : decode cX11_find 23 = .ok (.getfield 52, 3) := dk_180 (a := 0) (b := 52) (by decide +kernel) rfl
theorem dX11_find_26 : decode cX11_find 26 = .ok (.iload_n 1, 1) := dk_27 (by decide +kernel)
theorem dX11_find_27 : decode cX11_find 27 = .ok (.iload_n 2, 1) := dk_28 (by decide +kernel)
theorem dX11_find_28 : decode cX11_find 28 = .ok (.invokevirtual 277, 3) := dk_182 (a := 1) (b := 21) (by decide +kernel) rfl
theorem dX11_find_31 : decode cX11_find 31 = .ok (.ireturn, 1) := dk_172 (by decide +kernel)
theorem dX11_found_0 : decode cX11_found 0 = .ok (.iload_n 1, 1) := dk_27 (by decide +kernel)
theorem dX11_found_1 : decode cX11_found 1 = .ok (.ifCond .lt 9, 3) := dk_155 (a := 0) (b := 9) (by decide +kernel) rfl
theorem dX11_found_4 : decode cX11_found 4 = .ok (.iload_n 1, 1) := dk_27 (by decide +kernel)
theorem dX11_found_5 : decode cX11_found 5 = .ok (.bipush 6, 2) := dk_16 (a := 6) (by decide +kernel) rfl
theorem dX11_found_7 : decode cX11_found 7 = .ok (.if_icmp .le 5, 3) := dk_164 (a := 0) (b := 5) (by decide +kernel) rfl
theorem dX11_found_10 : decode cX11_found 10 = .ok (.iconst (-1), 1) := dk_2 (by decide +kernel)
theorem dX11_found_11 : decode cX11_found 11 = .ok (.ireturn, 1) := dk_172 (by decide +kernel)
theorem dX11_found_12 : decode cX11_found 12 = .ok (.iload_n 1, 1) := dk_27 (by decide +kernel)
theorem dX11_found_13 : decode cX11_found 13 = .ok (.bipush 6, 2) := dk_16 (a := 6) (by decide +kernel) rfl
theorem dX11_found_15 : decode cX11_found 15 = .ok (.if_icmp .ne 11, 3) := dk_160 (a := 0) (b := 11) (by decide +kernel) rfl
theorem dX11_found_18 : decode cX11_found 18 = .ok (.aload_n 0, 1) := dk_42 (by decide +kernel)
theorem dX11_found_19 : decode cX11_found 19 = .ok (.getfield 52, 3) := dk_180 (a := 0) (b := 52) (by decide +kernel) rfl
theorem dX11_found_22 : decode cX11_found 22 = .ok (.getfield 280, 3) := dk_180 (a := 1) (b := 24) (by decide +kernel) rfl
theorem dX11_found_25 : decode cX11_found 25 = .ok (.ireturn, 1) := dk_172 (by decide +kernel)
theorem dX11_found_26 : decode cX11_found 26 = .ok (.aload_n 0, 1) := dk_42 (by decide +kernel)
theorem dX11_found_27 : decode cX11_found 27 = .ok (.getfield 52, 3) := dk_180 (a := 0) (b := 52) (by decide +kernel) rfl
theorem dX11_found_30 : decode cX11_found 30 = .ok (.getfield 283, 3) := dk_180 (a := 1) (b := 27) (by decide +kernel) rfl
theorem dX11_found_33 : decode cX11_found 33 = .ok (.ifCond .ne 6, 3) := dk_154 (a := 0) (b := 6) (by decide +kernel) rfl
theorem dX11_found_36 : decode cX11_found 36 = .ok (.bipush (-2), 2) := dk_16 (a := 254) (by decide +kernel) rfl
theorem dX11_found_38 : decode cX11_found 38 = .ok (.ireturn, 1) := dk_172 (by decide +kernel)
theorem dX11_found_39 : decode cX11_found 39 = .ok (.iload_n 1, 1) := dk_27 (by decide +kernel)
theorem dX11_found_40 : decode cX11_found 40 = .ok (.ifCond .ne 11, 3) := dk_154 (a := 0) (b := 11) (by decide +kernel) rfl
theorem dX11_found_43 : decode cX11_found 43 = .ok (.aload_n 0, 1) := dk_42 (by decide +kernel)
theorem dX11_found_44 : decode cX11_found 44 = .ok (.getfield 52, 3) := dk_180 (a := 0) (b := 52) (by decide +kernel) rfl
theorem dX11_found_47 : decode cX11_found 47 = .ok (.getfield 286, 3) := dk_180 (a := 1) (b := 30) (by decide +kernel) rfl
theorem dX11_found_50 : decode cX11_found 50 = .ok (.ireturn, 1) := dk_172 (by decide +kernel)
theorem dX11_found_51 : decode cX11_found 51 = .ok (.iload_n 1, 1) := dk_27 (by decide +kernel)
theorem dX11_found_52 : decode cX11_found 52 = .ok (.iconst 5, 1) := dk_8 (by decide +kernel)
theorem dX11_found_53 : decode cX11_found 53 = .ok (.if_icmp .ne 11, 3) := dk_160 (a := 0) (b := 11) (by decide +kernel) rfl
theorem dX11_found_56 : decode cX11_found 56 = .ok (.aload_n 0, 1) := dk_42 (by decide +kernel)
theorem dX11_found_57 : decode cX11_found 57 = .ok (.getfield 52, 3) := dk_180 (a := 0) (b := 52) (by decide +kernel) rfl
theorem dX11_found_60 : decode cX11_found 60 = .ok (.getfield 287, 3) := dk_180 (a := 1) (b := 31) (by decide +kernel) rfl
theorem dX11_found_63 : decode cX11_found 63 = .ok (.ireturn, 1) := dk_172 (by decide +kernel)
theorem dX11_found_64 : decode cX11_found 64 = .ok (.iload_n 1, 1) := dk_27 (by decide +kernel)
theorem dX11_found_65 : decode cX11_found 65 = .ok (.iconst 1, 1) := dk_4 (by decide +kernel)
theorem dX11_found_66 : decode cX11_found 66 = .ok (.isub, 1) := dk_100 (by decide +kernel)
theorem dX11_found_67 : decode cX11_found 67 = .ok (.iconst 2, 1) := dk_5 (by decide +kernel)
theorem dX11_found_68 : decode cX11_found 68 = .ok (.idiv, 1) := by decide +kernel
theorem dX11_found_69 : decode cX11_found 69 = .ok (.istore_n 2, 1) := dk_61 (by decide +kernel)
theorem dX11_found_70 : decode cX11_found 70 = .ok (.iload_n 2, 1) := dk_28 (by decide +kernel)
theorem dX11_found_71 : decode cX11_found 71 = .ok (.aload_n 0, 1) := dk_42 (by decide +kernel)
theorem dX11_found_72 : decode cX11_found 72 = .ok (.getfield 52, 3) := dk_180 (a := 0) (b := 52) (by decide +kernel) rfl
theorem dX11_found_75 : decode cX11_found 75 = .ok (.getfield 286, 3) := dk_180 (a := 1) (b := 30) (by decide +kernel) rfl
theorem dX11_found_78 : decode cX11_found 78 = .ok (.if_icmp .lt 6, 3) := dk_161 (a := 0) (b := 6) (by decide +kernel) rfl
theorem dX11_found_81 : decode cX11_found 81 = .ok (.bipush (-2), 2) := dk_16 (a := 254) (by decide +kernel) rfl
theorem dX11_found_83 : decode cX11_found 83 = .ok (.ireturn, 1) := dk_172 (by decide +kernel)
theorem dX11_found_84 : decode cX11_found 84 = .ok (.iload_n 1, 1) := dk_27 (by decide +kernel)
theorem dX11_found_85 : decode cX11_found 85 = .ok (.iconst 2, 1) := dk_5 (by decide +kernel)
theorem dX11_found_86 : decode cX11_found 86 = .ok (.irem, 1) := dk_112 (by decide +kernel)
theorem dX11_found_87 : decode cX11_found 87 = .ok (.iconst 1, 1) := dk_4 (by decide +kernel)
theorem dX11_found_88 : decode cX11_found 88 = .ok (.if_icmp .ne 15, 3) := dk_160 (a := 0) (b := 15) (by decide +kernel) rfl
theorem dX11_found_91 : decode cX11_found 91 = .ok (.aload_n 0, 1) := dk_42 (by decide +kernel)
theorem dX11_found_92 : decode cX11_found 92 = .ok (.getfield 52, 3) := dk_180 (a := 0) (b := 52) (by decide +kernel) rfl
theorem dX11_found_95 : decode cX11_found 95 = .ok (.getfield 288, 3) := dk_180 (a := 1) (b := 32) (by decide +kernel) rfl
theorem dX11_found_98 : decode cX11_found 98 = .ok (.iload_n 2, 1) := dk_28 (by decide +kernel)
theorem dX11_found_99 : decode cX11_found 99 = .ok (.iaload, 1) := dk_46 (by decide +kernel)
theorem dX11_found_100 : decode cX11_found 100 = .ok (.goto 12, 3) := dk_167 (a := 0) (b := 12) (by decide +kernel) rfl
theorem dX11_found_103 : decode cX11_found 103 = .ok (.aload_n 0, 1) := dk_42 (by decide +kernel)
theorem dX11_found_104 : decode cX11_found 104 = .ok (.getfield 52, 3) := dk_180 (a := 0) (b := 52) (by decide +kernel) rfl
theorem dX11_found_107 : decode cX11_found 107 = .ok (.getfield 289, 3) := dk_180 (a := 1) (b := 33) (by decide +kernel) rfl
theorem dX11_found_110 : decode cX11_found 110 = .ok (.iload_n 2, 1) := dk_28 (by decide +kernel)
theorem dX11_found_111 : decode cX11_found 111 = .ok (.iaload, 1) := dk_46 (by decide +kernel)
theorem dX11_found_112 : decode cX11_found 112 = .ok (.ireturn, 1) := dk_172 (by decide +kernel)
theorem dX11_isThread_0 : decode cX11_isThread 0 = .ok (.iload_n 0, 1) := dk_26 (by decide +kernel)
theorem dX11_isThread_1 : decode cX11_isThread 1 = .ok (.ifCond .lt 12, 3) := dk_155 (a := 0) (b := 12) (by decide +kernel) rfl
theorem dX11_isThread_4 : decode cX11_isThread 4 = .ok (.iload_n 0, 1) := dk_26 (by decide +kernel)
theorem dX11_isThread_5 : decode cX11_isThread 5 = .ok (.iconst 4, 1) := dk_7 (by decide +kernel)
theorem dX11_isThread_6 : decode cX11_isThread 6 = .ok (.if_icmp .ge 7, 3) := dk_162 (a := 0) (b := 7) (by decide +kernel) rfl
theorem dX11_isThread_9 : decode cX11_isThread 9 = .ok (.iconst 1, 1) := dk_4 (by decide +kernel)
theorem dX11_isThread_10 : decode cX11_isThread 10 = .ok (.goto 4, 3) := dk_167 (a := 0) (b := 4) (by decide +kernel) rfl
theorem dX11_isThread_13 : decode cX11_isThread 13 = .ok (.iconst 0, 1) := dk_3 (by decide +kernel)
theorem dX11_isThread_14 : decode cX11_isThread 14 = .ok (.ireturn, 1) := dk_172 (by decide +kernel)
theorem dX11_isCell_0 : decode cX11_isCell 0 = .ok (.iload_n 0, 1) := dk_26 (by decide +kernel)
theorem dX11_isCell_1 : decode cX11_isCell 1 = .ok (.ifCond .lt 13, 3) := dk_155 (a := 0) (b := 13) (by decide +kernel) rfl
theorem dX11_isCell_4 : decode cX11_isCell 4 = .ok (.iload_n 0, 1) := dk_26 (by decide +kernel)
theorem dX11_isCell_5 : decode cX11_isCell 5 = .ok (.bipush 12, 2) := dk_16 (a := 12) (by decide +kernel) rfl
theorem dX11_isCell_7 : decode cX11_isCell 7 = .ok (.if_icmp .ge 7, 3) := dk_162 (a := 0) (b := 7) (by decide +kernel) rfl
theorem dX11_isCell_10 : decode cX11_isCell 10 = .ok (.iconst 1, 1) := dk_4 (by decide +kernel)
theorem dX11_isCell_11 : decode cX11_isCell 11 = .ok (.goto 4, 3) := dk_167 (a := 0) (b := 4) (by decide +kernel) rfl
theorem dX11_isCell_14 : decode cX11_isCell 14 = .ok (.iconst 0, 1) := dk_3 (by decide +kernel)
theorem dX11_isCell_15 : decode cX11_isCell 15 = .ok (.ireturn, 1) := dk_172 (by decide +kernel)
theorem dX11_isShelf_0 : decode cX11_isShelf 0 = .ok (.iload_n 0, 1) := dk_26 (by decide +kernel)
theorem dX11_isShelf_1 : decode cX11_isShelf 1 = .ok (.ifCond .lt 13, 3) := dk_155 (a := 0) (b := 13) (by decide +kernel) rfl
theorem dX11_isShelf_4 : decode cX11_isShelf 4 = .ok (.iload_n 0, 1) := dk_26 (by decide +kernel)
theorem dX11_isShelf_5 : decode cX11_isShelf 5 = .ok (.bipush 8, 2) := dk_16 (a := 8) (by decide +kernel) rfl
theorem dX11_isShelf_7 : decode cX11_isShelf 7 = .ok (.if_icmp .ge 7, 3) := dk_162 (a := 0) (b := 7) (by decide +kernel) rfl
theorem dX11_isShelf_10 : decode cX11_isShelf 10 = .ok (.iconst 1, 1) := dk_4 (by decide +kernel)
theorem dX11_isShelf_11 : decode cX11_isShelf 11 = .ok (.goto 4, 3) := dk_167 (a := 0) (b := 4) (by decide +kernel) rfl
theorem dX11_isShelf_14 : decode cX11_isShelf 14 = .ok (.iconst 0, 1) := dk_3 (by decide +kernel)
theorem dX11_isShelf_15 : decode cX11_isShelf 15 = .ok (.ireturn, 1) := dk_172 (by decide +kernel)
theorem dX11_isMoment_0 : decode cX11_isMoment 0 = .ok (.iload_n 1, 1) := dk_27 (by decide +kernel)
theorem dX11_isMoment_1 : decode cX11_isMoment 1 = .ok (.ifCond .lt 18, 3) := dk_155 (a := 0) (b := 18) (by decide +kernel) rfl
theorem dX11_isMoment_4 : decode cX11_isMoment 4 = .ok (.iload_n 1, 1) := dk_27 (by decide +kernel)
theorem dX11_isMoment_5 : decode cX11_isMoment 5 = .ok (.aload_n 0, 1) := dk_42 (by decide +kernel)
theorem dX11_isMoment_6 : decode cX11_isMoment 6 = .ok (.getfield 34, 3) := dk_180 (a := 0) (b := 34) (by decide +kernel) rfl
theorem dX11_isMoment_9 : decode cX11_isMoment 9 = .ok (.getfield 120, 3) := dk_180 (a := 0) (b := 120) (by decide +kernel) rfl
theorem dX11_isMoment_12 : decode cX11_isMoment 12 = .ok (.if_icmp .gt 7, 3) := dk_163 (a := 0) (b := 7) (by decide +kernel) rfl
theorem dX11_isMoment_15 : decode cX11_isMoment 15 = .ok (.iconst 1, 1) := dk_4 (by decide +kernel)
theorem dX11_isMoment_16 : decode cX11_isMoment 16 = .ok (.goto 4, 3) := dk_167 (a := 0) (b := 4) (by decide +kernel) rfl
theorem dX11_isMoment_19 : decode cX11_isMoment 19 = .ok (.iconst 0, 1) := dk_3 (by decide +kernel)
theorem dX11_isMoment_20 : decode cX11_isMoment 20 = .ok (.ireturn, 1) := dk_172 (by decide +kernel)
theorem dX11_cellSlot_0 : decode cX11_cellSlot 0 = .ok (.iload_n 0, 1) := dk_26 (by decide +kernel)
theorem dX11_cellSlot_1 : decode cX11_cellSlot 1 = .ok (.invokestatic 81, 3) := dk_184 (a := 0) (b := 81) (by decide +kernel) rfl
theorem dX11_cellSlot_4 : decode cX11_cellSlot 4 = .ok (.ifCond .eq 7, 3) := dk_153 (a := 0) (b := 7) (by decide +kernel) rfl
theorem dX11_cellSlot_7 : decode cX11_cellSlot 7 = .ok (.iload_n 0, 1) := dk_26 (by decide +kernel)
theorem dX11_cellSlot_8 : decode cX11_cellSlot 8 = .ok (.goto 4, 3) := dk_167 (a := 0) (b := 4) (by decide +kernel) rfl
theorem dX11_cellSlot_11 : decode cX11_cellSlot 11 = .ok (.iconst (-1), 1) := dk_2 (by decide +kernel)
theorem dX11_cellSlot_12 : decode cX11_cellSlot 12 = .ok (.ireturn, 1) := dk_172 (by decide +kernel)
theorem dX11_localSlot_0 : decode cX11_localSlot 0 = .ok (.iload_n 0, 1) := dk_26 (by decide +kernel)
theorem dX11_localSlot_1 : decode cX11_localSlot 1 = .ok (.invokestatic 66, 3) := dk_184 (a := 0) (b := 66) (by decide +kernel) rfl
theorem dX11_localSlot_4 : decode cX11_localSlot 4 = .ok (.ifCond .eq 12, 3) := dk_153 (a := 0) (b := 12) (by decide +kernel) rfl
theorem dX11_localSlot_7 : decode cX11_localSlot 7 = .ok (.iload_n 1, 1) := dk_27 (by decide +kernel)
theorem dX11_localSlot_8 : decode cX11_localSlot 8 = .ok (.ifCond .lt 8, 3) := dk_155 (a := 0) (b := 8) (by decide +kernel) rfl
theorem dX11_localSlot_11 : decode cX11_localSlot 11 = .ok (.iload_n 1, 1) := dk_27 (by decide +kernel)
theorem dX11_localSlot_12 : decode cX11_localSlot 12 = .ok (.iconst 4, 1) := dk_7 (by decide +kernel)
theorem dX11_localSlot_13 : decode cX11_localSlot 13 = .ok (.if_icmp .lt 5, 3) := dk_161 (a := 0) (b := 5) (by decide +kernel) rfl
theorem dX11_localSlot_16 : decode cX11_localSlot 16 = .ok (.iconst (-1), 1) := dk_2 (by decide +kernel)
theorem dX11_localSlot_17 : decode cX11_localSlot 17 = .ok (.ireturn, 1) := dk_172 (by decide +kernel)
theorem dX11_localSlot_18 : decode cX11_localSlot 18 = .ok (.bipush 12, 2) := dk_16 (a := 12) (by decide +kernel) rfl
theorem dX11_localSlot_20 : decode cX11_localSlot 20 = .ok (.iload_n 0, 1) := dk_26 (by decide +kernel)
theorem dX11_localSlot_21 : decode cX11_localSlot 21 = .ok (.iconst 4, 1) := dk_7 (by decide +kernel)
theorem dX11_localSlot_22 : decode cX11_localSlot 22 = .ok (.imul, 1) := dk_104 (by decide +kernel)
theorem dX11_localSlot_23 : decode cX11_localSlot 23 = .ok (.iadd, 1) := dk_96 (by decide +kernel)
theorem dX11_localSlot_24 : decode cX11_localSlot 24 = .ok (.iload_n 1, 1) := dk_27 (by decide +kernel)
theorem dX11_localSlot_25 : decode cX11_localSlot 25 = .ok (.iadd, 1) := dk_96 (by decide +kernel)
theorem dX11_localSlot_26 : decode cX11_localSlot 26 = .ok (.ireturn, 1) := dk_172 (by decide +kernel)
theorem dX11_fits_0 : decode cX11_fits 0 = .ok (.iload_n 1, 1) := dk_27 (by decide +kernel)
theorem dX11_fits_1 : decode cX11_fits 1 = .ok (.ifCond .lt 23, 3) := dk_155 (a := 0) (b := 23) (by decide +kernel) rfl
theorem dX11_fits_4 : decode cX11_fits 4 = .ok (.iload_n 0, 1) := dk_26 (by decide +kernel)
theorem dX11_fits_5 : decode cX11_fits 5 = .ok (.ifCond .lt 19, 3) := dk_155 (a := 0) (b := 19) (by decide +kernel) rfl
theorem dX11_fits_8 : decode cX11_fits 8 = .ok (.iload_n 1, 1) := dk_27 (by decide +kernel)
theorem dX11_fits_9 : decode cX11_fits 9 = .ok (.iload_n 2, 1) := dk_28 (by decide +kernel)
theorem dX11_fits_10 : decode cX11_fits 10 = .ok (.if_icmp .gt 14, 3) := dk_163 (a := 0) (b := 14) (by decide +kernel) rfl
theorem dX11_fits_13 : decode cX11_fits 13 = .ok (.iload_n 0, 1) := dk_26 (by decide +kernel)
theorem dX11_fits_14 : decode cX11_fits 14 = .ok (.iload_n 2, 1) := dk_28 (by decide +kernel)
theorem dX11_fits_15 : decode cX11_fits 15 = .ok (.iload_n 1, 1) := dk_27 (by decide +kernel)
theorem dX11_fits_16 : decode cX11_fits 16 = .ok (.isub, 1) := dk_100 (by decide +kernel)
theorem dX11_fits_17 : decode cX11_fits 17 = .ok (.if_icmp .gt 7, 3) := dk_163 (a := 0) (b := 7) (by decide +kernel) rfl
theorem dX11_fits_20 : decode cX11_fits 20 = .ok (.iconst 1, 1) := dk_4 (by decide +kernel)
theorem dX11_fits_21 : decode cX11_fits 21 = .ok (.goto 4, 3) := dk_167 (a := 0) (b := 4) (by decide +kernel) rfl
theorem dX11_fits_24 : decode cX11_fits 24 = .ok (.iconst 0, 1) := dk_3 (by decide +kernel)
theorem dX11_fits_25 : decode cX11_fits 25 = .ok (.ireturn, 1) := dk_172 (by decide +kernel)
theorem dX11_seenBehind_0 : decode cX11_seenBehind 0 = .ok (.iload_n 1, 1) := dk_27 (by decide +kernel)
theorem dX11_seenBehind_1 : decode cX11_seenBehind 1 = .ok (.aload_n 0, 1) := dk_42 (by decide +kernel)
theorem dX11_seenBehind_2 : decode cX11_seenBehind 2 = .ok (.getfield 123, 3) := dk_180 (a := 0) (b := 123) (by decide +kernel) rfl
theorem dX11_seenBehind_5 : decode cX11_seenBehind 5 = .ok (.if_icmp .ge 26, 3) := dk_162 (a := 0) (b := 26) (by decide +kernel) rfl
theorem dX11_seenBehind_8 : decode cX11_seenBehind 8 = .ok (.aload_n 0, 1) := dk_42 (by decide +kernel)
theorem dX11_seenBehind_9 : decode cX11_seenBehind 9 = .ok (.getfield 24, 3) := dk_180 (a := 0) (b := 24) (by decide +kernel) rfl
theorem dX11_seenBehind_12 : decode cX11_seenBehind 12 = .ok (.aload_n 0, 1) := dk_42 (by decide +kernel)
theorem dX11_seenBehind_13 : decode cX11_seenBehind 13 = .ok (.getfield 16, 3) := dk_180 (a := 0) (b := 16) (by decide +kernel) rfl
theorem dX11_seenBehind_16 : decode cX11_seenBehind 16 = .ok (.aload_n 0, 1) := dk_42 (by decide +kernel)
theorem dX11_seenBehind_17 : decode cX11_seenBehind 17 = .ok (.getfield 16, 3) := dk_180 (a := 0) (b := 16) (by decide +kernel) rfl
theorem dX11_seenBehind_20 : decode cX11_seenBehind 20 = .ok (.getfield 87, 3) := dk_180 (a := 0) (b := 87) (by decide +kernel) rfl
theorem dX11_seenBehind_23 : decode cX11_seenBehind 23 = .ok (.invokevirtual 105, 3) := dk_182 (a := 0) (b := 105) (by decide +kernel) rfl
theorem dX11_seenBehind_26 : decode cX11_seenBehind 26 = .ok (.aload_n 0, 1) := dk_42 (by decide +kernel)
theorem dX11_seenBehind_27 : decode cX11_seenBehind 27 = .ok (.iconst 0, 1) := dk_3 (by decide +kernel)
theorem dX11_seenBehind_28 : decode cX11_seenBehind 28 = .ok (.putfield 123, 3) := dk_181 (a := 0) (b := 123) (by decide +kernel) rfl
theorem dX11_seenBehind_31 : decode cX11_seenBehind 31 = .ok (.aload_n 0, 1) := dk_42 (by decide +kernel)
theorem dX11_seenBehind_32 : decode cX11_seenBehind 32 = .ok (.aload_n 0, 1) := dk_42 (by decide +kernel)
theorem dX11_seenBehind_33 : decode cX11_seenBehind 33 = .ok (.getfield 24, 3) := dk_180 (a := 0) (b := 24) (by decide +kernel) rfl
theorem dX11_seenBehind_36 : decode cX11_seenBehind 36 = .ok (.aload_n 0, 1) := dk_42 (by decide +kernel)
theorem dX11_seenBehind_37 : decode cX11_seenBehind 37 = .ok (.getfield 123, 3) := dk_180 (a := 0) (b := 123) (by decide +kernel) rfl
theorem dX11_seenBehind_40 : decode cX11_seenBehind 40 = .ok (.iload_n 1, 1) := dk_27 (by decide +kernel)
theorem dX11_seenBehind_41 : decode cX11_seenBehind 41 = .ok (.invokevirtual 269, 3) := dk_182 (a := 1) (b := 13) (by decide +kernel) rfl
theorem dX11_seenBehind_44 : decode cX11_seenBehind 44 = .ok (.aload_n 0, 1) := dk_42 (by decide +kernel)
theorem dX11_seenBehind_45 : decode cX11_seenBehind 45 = .ok (.iload_n 1, 1) := dk_27 (by decide +kernel)
theorem dX11_seenBehind_46 : decode cX11_seenBehind 46 = .ok (.putfield 123, 3) := dk_181 (a := 0) (b := 123) (by decide +kernel) rfl
theorem dX11_seenBehind_49 : decode cX11_seenBehind 49 = .ok (.aload_n 0, 1) := dk_42 (by decide +kernel)
theorem dX11_seenBehind_50 : decode cX11_seenBehind 50 = .ok (.getfield 24, 3) := dk_180 (a := 0) (b := 24) (by decide +kernel) rfl
theorem dX11_seenBehind_53 : decode cX11_seenBehind 53 = .ok (.areturn, 1) := dk_176 (by decide +kernel)
theorem dX11_replay_0 : decode cX11_replay 0 = .ok (.iload_n 2, 1) := dk_28 (by decide +kernel)
theorem dX11_replay_1 : decode cX11_replay 1 = .ok (.istore 4, 2) := dk_54 (by decide +kernel)
theorem dX11_replay_3 : decode cX11_replay 3 = .ok (.iload 4, 2) := dk_21 (by decide +kernel)
theorem dX11_replay_5 : decode cX11_replay 5 = .ok (.iload_n 3, 1) := dk_29 (by decide +kernel)
theorem dX11_replay_6 : decode cX11_replay 6 = .ok (.if_icmp .ge 34, 3) := dk_162 (a := 0) (b := 34) (by decide +kernel) rfl
theorem dX11_replay_9 : decode cX11_replay 9 = .ok (.iload 4, 2) := dk_21 (by decide +kernel)
theorem dX11_replay_11 : decode cX11_replay 11 = .ok (.sipush 300, 3) := dk_17 (a := 1) (b := 44) (by decide +kernel) rfl
theorem dX11_replay_14 : decode cX11_replay 14 = .ok (.if_icmp .ge 26, 3) := dk_162 (a := 0) (b := 26) (by decide +kernel) rfl
theorem dX11_replay_17 : decode cX11_replay 17 = .ok (.aload_n 1, 1) := dk_43 (by decide +kernel)
theorem dX11_replay_18 : decode cX11_replay 18 = .ok (.aload_n 0, 1) := dk_42 (by decide +kernel)
theorem dX11_replay_19 : decode cX11_replay 19 = .ok (.getfield 34, 3) := dk_180 (a := 0) (b := 34) (by decide +kernel) rfl
theorem dX11_replay_22 : decode cX11_replay 22 = .ok (.getfield 154, 3) := dk_180 (a := 0) (b := 154) (by decide +kernel) rfl
theorem dX11_replay_25 : decode cX11_replay 25 = .ok (.iload 4, 2) := dk_21 (by decide +kernel)
theorem dX11_replay_27 : decode cX11_replay 27 = .ok (.iconst 1, 1) := dk_4 (by decide +kernel)
theorem dX11_replay_28 : decode cX11_replay 28 = .ok (.iadd, 1) := dk_96 (by decide +kernel)
theorem dX11_replay_29 : decode cX11_replay 29 = .ok (.iaload, 1) := dk_46 (by decide +kernel)
theorem dX11_replay_30 : decode cX11_replay 30 = .ok (.invokevirtual 355, 3) := dk_182 (a := 1) (b := 99) (by decide +kernel) rfl
theorem dX11_replay_33 : decode cX11_replay 33 = .ok (.pop, 1) := dk_87 (by decide +kernel)
theorem dX11_replay_34 : decode cX11_replay 34 = .ok (.iinc 4 1, 3) := dk_132 (b := 1) (by decide +kernel) rfl
theorem dX11_replay_37 : decode cX11_replay 37 = .ok (.goto (-34), 3) := dk_167 (a := 255) (b := 222) (by decide +kernel) rfl
theorem dX11_replay_40 : decode cX11_replay 40 = .ok (.return_, 1) := dk_177 (by decide +kernel)
theorem dX11_goByRecord_0 : decode cX11_goByRecord 0 = .ok (.iconst 0, 1) := dk_3 (by decide +kernel)
theorem dX11_goByRecord_1 : decode cX11_goByRecord 1 = .ok (.istore_n 2, 1) := dk_61 (by decide +kernel)
theorem dX11_goByRecord_2 : decode cX11_goByRecord 2 = .ok (.iconst 0, 1) := dk_3 (by decide +kernel)
theorem dX11_goByRecord_3 : decode cX11_goByRecord 3 = .ok (.istore_n 3, 1) := dk_62 (by decide +kernel)
theorem dX11_goByRecord_4 : decode cX11_goByRecord 4 = .ok (.iload_n 1, 1) := dk_27 (by decide +kernel)
theorem dX11_goByRecord_5 : decode cX11_goByRecord 5 = .ok (.ifCond .le 24, 3) := dk_158 (a := 0) (b := 24) (by decide +kernel) rfl
theorem dX11_goByRecord_8 : decode cX11_goByRecord 8 = .ok (.iload_n 1, 1) := dk_27 (by decide +kernel)
theorem dX11_goByRecord_9 : decode cX11_goByRecord 9 = .ok (.sipush 300, 3) := dk_17 (a := 1) (b := 44) (by decide +kernel) rfl
theorem dX11_goByRecord_12 : decode cX11_goByRecord 12 = .ok (.if_icmp .gt 17, 3) := dk_163 (a := 0) (b := 17) (by decide +kernel) rfl
theorem dX11_goByRecord_15 : decode cX11_goByRecord 15 = .ok (.aload_n 0, 1) := dk_42 (by decide +kernel)
theorem dX11_goByRecord_16 : decode cX11_goByRecord 16 = .ok (.getfield 34, 3) := dk_180 (a := 0) (b := 34) (by decide +kernel) rfl
theorem dX11_goByRecord_19 : decode cX11_goByRecord 19 = .ok (.getfield 148, 3) := dk_180 (a := 0) (b := 148) (by decide +kernel) rfl
theorem dX11_goByRecord_22 : decode cX11_goByRecord 22 = .ok (.iload_n 1, 1) := dk_27 (by decide +kernel)
theorem dX11_goByRecord_23 : decode cX11_goByRecord 23 = .ok (.iconst 1, 1) := dk_4 (by decide +kernel)
theorem dX11_goByRecord_24 : decode cX11_goByRecord 24 = .ok (.isub, 1) := dk_100 (by decide +kernel)
theorem dX11_goByRecord_25 : decode cX11_goByRecord 25 = .ok (.iaload, 1) := dk_46 (by decide +kernel)
theorem dX11_goByRecord_26 : decode cX11_goByRecord 26 = .ok (.goto 4, 3) := dk_167 (a := 0) (b := 4) (by decide +kernel) rfl
theorem dX11_goByRecord_29 : decode cX11_goByRecord 29 = .ok (.iconst (-1), 1) := dk_2 (by decide +kernel)
theorem dX11_goByRecord_30 : decode cX11_goByRecord 30 = .ok (.istore 4, 2) := dk_54 (by decide +kernel)
theorem dX11_goByRecord_32 : decode cX11_goByRecord 32 = .ok (.aload_n 0, 1) := dk_42 (by decide +kernel)
theorem dX11_goByRecord_33 : decode cX11_goByRecord 33 = .ok (.iconst 0, 1) := dk_3 (by decide +kernel)
theorem dX11_goByRecord_34 : decode cX11_goByRecord 34 = .ok (.putfield 176, 3) := dk_181 (a := 0) (b := 176) (by decide +kernel) rfl
theorem dX11_goByRecord_37 : decode cX11_goByRecord 37 = .ok (.aload_n 0, 1) := dk_42 (by decide +kernel)
theorem dX11_goByRecord_38 : decode cX11_goByRecord 38 = .ok (.getfield 176, 3) := dk_180 (a := 0) (b := 176) (by decide +kernel) rfl
theorem dX11_goByRecord_41 : decode cX11_goByRecord 41 = .ok (.sipush 300, 3) := dk_17 (a := 1) (b := 44) (by decide +kernel) rfl
theorem dX11_goByRecord_44 : decode cX11_goByRecord 44 = .ok (.if_icmp .ge 125, 3) := dk_162 (a := 0) (b := 125) (by decide +kernel) rfl
theorem dX11_goByRecord_47 : decode cX11_goByRecord 47 = .ok (.iload_n 3, 1) := dk_29 (by decide +kernel)
theorem dX11_goByRecord_48 : decode cX11_goByRecord 48 = .ok (.iload_n 1, 1) := dk_27 (by decide +kernel)
theorem dX11_goByRecord_49 : decode cX11_goByRecord 49 = .ok (.if_icmp .ge 39, 3) := dk_162 (a := 0) (b := 39) (by decide +kernel) rfl
theorem dX11_goByRecord_52 : decode cX11_goByRecord 52 = .ok (.iload_n 3, 1) := dk_29 (by decide +kernel)
theorem dX11_goByRecord_53 : decode cX11_goByRecord 53 = .ok (.sipush 300, 3) := dk_17 (a := 1) (b := 44) (by decide +kernel) rfl
theorem dX11_goByRecord_56 : decode cX11_goByRecord 56 = .ok (.if_icmp .ge 32, 3) := dk_162 (a := 0) (b := 32) (by decide +kernel) rfl
theorem dX11_goByRecord_59 : decode cX11_goByRecord 59 = .ok (.aload_n 0, 1) := dk_42 (by decide +kernel)
theorem dX11_goByRecord_60 : decode cX11_goByRecord 60 = .ok (.getfield 34, 3) := dk_180 (a := 0) (b := 34) (by decide +kernel) rfl
theorem dX11_goByRecord_63 : decode cX11_goByRecord 63 = .ok (.getfield 148, 3) := dk_180 (a := 0) (b := 148) (by decide +kernel) rfl
theorem dX11_goByRecord_66 : decode cX11_goByRecord 66 = .ok (.iload_n 3, 1) := dk_29 (by decide +kernel)
theorem dX11_goByRecord_67 : decode cX11_goByRecord 67 = .ok (.iaload, 1) := dk_46 (by decide +kernel)
theorem dX11_goByRecord_68 : decode cX11_goByRecord 68 = .ok (.aload_n 0, 1) := dk_42 (by decide +kernel)
theorem dX11_goByRecord_69 : decode cX11_goByRecord 69 = .ok (.getfield 176, 3) := dk_180 (a := 0) (b := 176) (by decide +kernel) rfl
theorem dX11_goByRecord_72 : decode cX11_goByRecord 72 = .ok (.if_icmp .ne 16, 3) := dk_160 (a := 0) (b := 16) (by decide +kernel) rfl
theorem dX11_goByRecord_75 : decode cX11_goByRecord 75 = .ok (.aload_n 0, 1) := dk_42 (by decide +kernel)
theorem dX11_goByRecord_76 : decode cX11_goByRecord 76 = .ok (.getfield 34, 3) := dk_180 (a := 0) (b := 34) (by decide +kernel) rfl
theorem dX11_goByRecord_79 : decode cX11_goByRecord 79 = .ok (.getfield 151, 3) := dk_180 (a := 0) (b := 151) (by decide +kernel) rfl
theorem dX11_goByRecord_82 : decode cX11_goByRecord 82 = .ok (.iload_n 3, 1) := dk_29 (by decide +kernel)
theorem dX11_goByRecord_83 : decode cX11_goByRecord 83 = .ok (.iaload, 1) := dk_46 (by decide +kernel)
theorem dX11_goByRecord_84 : decode cX11_goByRecord 84 = .ok (.istore_n 2, 1) := dk_61 (by decide +kernel)
theorem dX11_goByRecord_85 : decode cX11_goByRecord 85 = .ok (.iinc 3 1, 3) := dk_132 (b := 1) (by decide +kernel) rfl
theorem dX11_goByRecord_88 : decode cX11_goByRecord 88 = .ok (.aload_n 0, 1) := dk_42 (by decide +kernel)
theorem dX11_goByRecord_89 : decode cX11_goByRecord 89 = .ok (.getfield 176, 3) := dk_180 (a := 0) (b := 176) (by decide +kernel) rfl
theorem dX11_goByRecord_92 : decode cX11_goByRecord 92 = .ok (.iload 4, 2) := dk_21 (by decide +kernel)
theorem dX11_goByRecord_94 : decode cX11_goByRecord 94 = .ok (.if_icmp .le 12, 3) := dk_164 (a := 0) (b := 12) (by decide +kernel) rfl
theorem dX11_goByRecord_97 : decode cX11_goByRecord 97 = .ok (.aload_n 0, 1) := dk_42 (by decide +kernel)
theorem dX11_goByRecord_98 : decode cX11_goByRecord 98 = .ok (.getfield 28, 3) := dk_180 (a := 0) (b := 28) (by decide +kernel) rfl
theorem dX11_goByRecord_101 : decode cX11_goByRecord 101 = .ok (.iload_n 2, 1) := dk_28 (by decide +kernel)
theorem dX11_goByRecord_102 : decode cX11_goByRecord 102 = .ok (.invokevirtual 358, 3) := dk_182 (a := 1) (b := 102) (by decide +kernel) rfl
theorem dX11_goByRecord_105 : decode cX11_goByRecord 105 = .ok (.istore_n 2, 1) := dk_61 (by decide +kernel)
theorem dX11_goByRecord_106 : decode cX11_goByRecord 106 = .ok (.iload_n 2, 1) := dk_28 (by decide +kernel)
theorem dX11_goByRecord_107 : decode cX11_goByRecord 107 = .ok (.ifCond .ge 5, 3) := dk_156 (a := 0) (b := 5) (by decide +kernel) rfl
theorem dX11_goByRecord_110 : decode cX11_goByRecord 110 = .ok (.iconst 0, 1) := dk_3 (by decide +kernel)
theorem dX11_goByRecord_111 : decode cX11_goByRecord 111 = .ok (.ireturn, 1) := dk_172 (by decide +kernel)
theorem dX11_goByRecord_112 : decode cX11_goByRecord 112 = .ok (.aload_n 0, 1) := dk_42 (by decide +kernel)
theorem dX11_goByRecord_113 : decode cX11_goByRecord 113 = .ok (.getfield 28, 3) := dk_180 (a := 0) (b := 28) (by decide +kernel) rfl
theorem dX11_goByRecord_116 : decode cX11_goByRecord 116 = .ok (.iload_n 2, 1) := dk_28 (by decide +kernel)
theorem dX11_goByRecord_117 : decode cX11_goByRecord 117 = .ok (.invokevirtual 355, 3) := dk_182 (a := 1) (b := 99) (by decide +kernel) rfl
theorem dX11_goByRecord_120 : decode cX11_goByRecord 120 = .ok (.istore 5, 2) := dk_54 (by decide +kernel)
theorem dX11_goByRecord_122 : decode cX11_goByRecord 122 = .ok (.iload 5, 2) := dk_21 (by decide +kernel)
theorem dX11_goByRecord_124 : decode cX11_goByRecord 124 = .ok (.iconst (-1), 1) := dk_2 (by decide +kernel)
theorem dX11_goByRecord_125 : decode cX11_goByRecord 125 = .ok (.if_icmp .ne 5, 3) := dk_160 (a := 0) (b := 5) (by decide +kernel) rfl
theorem dX11_goByRecord_128 : decode cX11_goByRecord 128 = .ok (.iconst 1, 1) := dk_4 (by decide +kernel)
theorem dX11_goByRecord_129 : decode cX11_goByRecord 129 = .ok (.ireturn, 1) := dk_172 (by decide +kernel)
theorem dX11_goByRecord_130 : decode cX11_goByRecord 130 = .ok (.iload 5, 2) := dk_21 (by decide +kernel)
theorem dX11_goByRecord_132 : decode cX11_goByRecord 132 = .ok (.bipush 7, 2) := dk_16 (a := 7) (by decide +kernel) rfl
theorem dX11_goByRecord_134 : decode cX11_goByRecord 134 = .ok (.if_icmp .ne 5, 3) := dk_160 (a := 0) (b := 5) (by decide +kernel) rfl
theorem dX11_goByRecord_137 : decode cX11_goByRecord 137 = .ok (.iconst 2, 1) := dk_5 (by decide +kernel)
theorem dX11_goByRecord_138 : decode cX11_goByRecord 138 = .ok (.ireturn, 1) := dk_172 (by decide +kernel)
theorem dX11_goByRecord_139 : decode cX11_goByRecord 139 = .ok (.iload 5, 2) := dk_21 (by decide +kernel)
theorem dX11_goByRecord_141 : decode cX11_goByRecord 141 = .ok (.ifCond .eq 15, 3) := dk_153 (a := 0) (b := 15) (by decide +kernel) rfl
theorem dX11_goByRecord_144 : decode cX11_goByRecord 144 = .ok (.aload_n 0, 1) := dk_42 (by decide +kernel)
theorem dX11_goByRecord_145 : decode cX11_goByRecord 145 = .ok (.dup, 1) := dk_89 (by decide +kernel)
theorem dX11_goByRecord_146 : decode cX11_goByRecord 146 = .ok (.getfield 176, 3) := dk_180 (a := 0) (b := 176) (by decide +kernel) rfl
theorem dX11_goByRecord_149 : decode cX11_goByRecord 149 = .ok (.iconst 1, 1) := dk_4 (by decide +kernel)
theorem dX11_goByRecord_150 : decode cX11_goByRecord 150 = .ok (.iadd, 1) := dk_96 (by decide +kernel)
theorem dX11_goByRecord_151 : decode cX11_goByRecord 151 = .ok (.putfield 176, 3) := dk_181 (a := 0) (b := 176) (by decide +kernel) rfl
theorem dX11_goByRecord_154 : decode cX11_goByRecord 154 = .ok (.iconst 3, 1) := dk_6 (by decide +kernel)
theorem dX11_goByRecord_155 : decode cX11_goByRecord 155 = .ok (.ireturn, 1) := dk_172 (by decide +kernel)
theorem dX11_goByRecord_156 : decode cX11_goByRecord 156 = .ok (.aload_n 0, 1) := dk_42 (by decide +kernel)
theorem dX11_goByRecord_157 : decode cX11_goByRecord 157 = .ok (.dup, 1) := dk_89 (by decide +kernel)
theorem dX11_goByRecord_158 : decode cX11_goByRecord 158 = .ok (.getfield 176, 3) := dk_180 (a := 0) (b := 176) (by decide +kernel) rfl
theorem dX11_goByRecord_161 : decode cX11_goByRecord 161 = .ok (.iconst 1, 1) := dk_4 (by decide +kernel)
theorem dX11_goByRecord_162 : decode cX11_goByRecord 162 = .ok (.iadd, 1) := dk_96 (by decide +kernel)
theorem dX11_goByRecord_163 : decode cX11_goByRecord 163 = .ok (.putfield 176, 3) := dk_181 (a := 0) (b := 176) (by decide +kernel) rfl
theorem dX11_goByRecord_166 : decode cX11_goByRecord 166 = .ok (.goto (-129), 3) := dk_167 (a := 255) (b := 127) (by decide +kernel) rfl
theorem dX11_goByRecord_169 : decode cX11_goByRecord 169 = .ok (.aload_n 0, 1) := dk_42 (by decide +kernel)
theorem dX11_goByRecord_170 : decode cX11_goByRecord 170 = .ok (.getfield 28, 3) := dk_180 (a := 0) (b := 28) (by decide +kernel) rfl
theorem dX11_goByRecord_173 : decode cX11_goByRecord 173 = .ok (.iconst 0, 1) := dk_3 (by decide +kernel)
theorem dX11_goByRecord_174 : decode cX11_goByRecord 174 = .ok (.invokevirtual 358, 3) := dk_182 (a := 1) (b := 102) (by decide +kernel) rfl
theorem dX11_goByRecord_177 : decode cX11_goByRecord 177 = .ok (.ifCond .ge 7, 3) := dk_156 (a := 0) (b := 7) (by decide +kernel) rfl
theorem dX11_goByRecord_180 : decode cX11_goByRecord 180 = .ok (.iconst 0, 1) := dk_3 (by decide +kernel)
theorem dX11_goByRecord_181 : decode cX11_goByRecord 181 = .ok (.goto 4, 3) := dk_167 (a := 0) (b := 4) (by decide +kernel) rfl
theorem dX11_goByRecord_184 : decode cX11_goByRecord 184 = .ok (.iconst 4, 1) := dk_7 (by decide +kernel)
theorem dX11_goByRecord_185 : decode cX11_goByRecord 185 = .ok (.ireturn, 1) := dk_172 (by decide +kernel)
theorem dJ9_floorMod_7cf53_0 : decode cJ9_floorMod_7cf53 0 = .ok (.iload_n 0, 1) := dk_26 (by decide +kernel)
theorem dJ9_floorMod_7cf53_1 : decode cJ9_floorMod_7cf53 1 = .ok (.iload_n 1, 1) := dk_27 (by decide +kernel)
theorem dJ9_floorMod_7cf53_2 : decode cJ9_floorMod_7cf53 2 = .ok (.irem, 1) := dk_112 (by decide +kernel)
theorem dJ9_floorMod_7cf53_3 : decode cJ9_floorMod_7cf53 3 = .ok (.istore_n 2, 1) := dk_61 (by decide +kernel)
theorem dJ9_floorMod_7cf53_4 : decode cJ9_floorMod_7cf53 4 = .ok (.iload_n 0, 1) := dk_26 (by decide +kernel)
theorem dJ9_floorMod_7cf53_5 : decode cJ9_floorMod_7cf53 5 = .ok (.iload_n 1, 1) := dk_27 (by decide +kernel)
theorem dJ9_floorMod_7cf53_6 : decode cJ9_floorMod_7cf53 6 = .ok (.ixor, 1) := by decide +kernel
theorem dJ9_floorMod_7cf53_7 : decode cJ9_floorMod_7cf53 7 = .ok (.ifCond .ge 11, 3) := dk_156 (a := 0) (b := 11) (by decide +kernel) rfl
theorem dJ9_floorMod_7cf53_10 : decode cJ9_floorMod_7cf53 10 = .ok (.iload_n 2, 1) := dk_28 (by decide +kernel)
theorem dJ9_floorMod_7cf53_11 : decode cJ9_floorMod_7cf53 11 = .ok (.ifCond .eq 7, 3) := dk_153 (a := 0) (b := 7) (by decide +kernel) rfl
theorem dJ9_floorMod_7cf53_14 : decode cJ9_floorMod_7cf53 14 = .ok (.iload_n 2, 1) := dk_28 (by decide +kernel)
theorem dJ9_floorMod_7cf53_15 : decode cJ9_floorMod_7cf53 15 = .ok (.iload_n 1, 1) := dk_27 (by decide +kernel)
theorem dJ9_floorMod_7cf53_16 : decode cJ9_floorMod_7cf53 16 = .ok (.iadd, 1) := dk_96 (by decide +kernel)
theorem dJ9_floorMod_7cf53_17 : decode cJ9_floorMod_7cf53 17 = .ok (.ireturn, 1) := dk_172 (by decide +kernel)
theorem dJ9_floorMod_7cf53_18 : decode cJ9_floorMod_7cf53 18 = .ok (.iload_n 2, 1) := dk_28 (by decide +kernel)
theorem dJ9_floorMod_7cf53_19 : decode cJ9_floorMod_7cf53 19 = .ok (.ireturn, 1) := dk_172 (by decide +kernel)
theorem dJ7_fill_53178_0 : decode cJ7_fill_53178 0 = .ok (.iconst 0, 1) := dk_3 (by decide +kernel)
theorem dJ7_fill_53178_1 : decode cJ7_fill_53178 1 = .ok (.istore_n 2, 1) := dk_61 (by decide +kernel)
theorem dJ7_fill_53178_2 : decode cJ7_fill_53178 2 = .ok (.aload_n 0, 1) := dk_42 (by decide +kernel)
theorem dJ7_fill_53178_3 : decode cJ7_fill_53178 3 = .ok (.arraylength, 1) := dk_190 (by decide +kernel)
theorem dJ7_fill_53178_4 : decode cJ7_fill_53178 4 = .ok (.istore_n 3, 1) := dk_62 (by decide +kernel)
theorem dJ7_fill_53178_5 : decode cJ7_fill_53178 5 = .ok (.iload_n 2, 1) := dk_28 (by decide +kernel)
theorem dJ7_fill_53178_6 : decode cJ7_fill_53178 6 = .ok (.iload_n 3, 1) := dk_29 (by decide +kernel)
theorem dJ7_fill_53178_7 : decode cJ7_fill_53178 7 = .ok (.if_icmp .ge 13, 3) := dk_162 (a := 0) (b := 13) (by decide +kernel) rfl
theorem dJ7_fill_53178_10 : decode cJ7_fill_53178 10 = .ok (.aload_n 0, 1) := dk_42 (by decide +kernel)
theorem dJ7_fill_53178_11 : decode cJ7_fill_53178 11 = .ok (.iload_n 2, 1) := dk_28 (by decide +kernel)
theorem dJ7_fill_53178_12 : decode cJ7_fill_53178 12 = .ok (.iload_n 1, 1) := dk_27 (by decide +kernel)
theorem dJ7_fill_53178_13 : decode cJ7_fill_53178 13 = .ok (.iastore, 1) := dk_79 (by decide +kernel)
theorem dJ7_fill_53178_14 : decode cJ7_fill_53178 14 = .ok (.iinc 2 1, 3) := dk_132 (b := 1) (by decide +kernel) rfl
theorem dJ7_fill_53178_17 : decode cJ7_fill_53178 17 = .ok (.goto (-12), 3) := dk_167 (a := 255) (b := 244) (by decide +kernel) rfl
theorem dJ7_fill_53178_20 : decode cJ7_fill_53178 20 = .ok (.return_, 1) := dk_177 (by decide +kernel)
