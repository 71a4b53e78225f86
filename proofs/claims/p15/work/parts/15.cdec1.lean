theorem dX4_earlierOf_16 : decode cX4_earlierOf 16 = .ok (.iload 4, 2) := dk_21 (by decide +kernel)
theorem dX4_earlierOf_18 : decode cX4_earlierOf 18 = .ok (.iaload, 1) := dk_46 (by decide +kernel)
theorem dX4_earlierOf_19 : decode cX4_earlierOf 19 = .ok (.isub, 1) := dk_100 (by decide +kernel)
theorem dX4_earlierOf_20 : decode cX4_earlierOf 20 = .ok (.istore_n 3, 1) := dk_62 (by decide +kernel)
theorem dX4_earlierOf_21 : decode cX4_earlierOf 21 = .ok (.iinc 4 1, 3) := dk_132 (b := 1) (by decide +kernel) rfl
theorem dX4_earlierOf_24 : decode cX4_earlierOf 24 = .ok (.goto (-19), 3) := dk_167 (a := 255) (b := 237) (by decide +kernel) rfl
theorem dX4_earlierOf_27 : decode cX4_earlierOf 27 = .ok (.iconst 1, 1) := dk_4 (by decide +kernel)
theorem dX4_earlierOf_28 : decode cX4_earlierOf 28 = .ok (.istore 4, 2) := dk_54 (by decide +kernel)
theorem dX4_earlierOf_30 : decode cX4_earlierOf 30 = .ok (.iload 4, 2) := dk_21 (by decide +kernel)
theorem dX4_earlierOf_32 : decode cX4_earlierOf 32 = .ok (.iload_n 2, 1) := dk_28 (by decide +kernel)
theorem dX4_earlierOf_33 : decode cX4_earlierOf 33 = .ok (.if_icmp .ge 29, 3) := dk_162 (a := 0) (b := 29) (by decide +kernel) rfl
theorem dX4_earlierOf_36 : decode cX4_earlierOf 36 = .ok (.aload_n 0, 1) := dk_42 (by decide +kernel)
theorem dX4_earlierOf_37 : decode cX4_earlierOf 37 = .ok (.iload 4, 2) := dk_21 (by decide +kernel)
theorem dX4_earlierOf_39 : decode cX4_earlierOf 39 = .ok (.iload_n 2, 1) := dk_28 (by decide +kernel)
theorem dX4_earlierOf_40 : decode cX4_earlierOf 40 = .ok (.invokevirtual 90, 3) := dk_182 (a := 0) (b := 90) (by decide +kernel) rfl
theorem dX4_earlierOf_43 : decode cX4_earlierOf 43 = .ok (.ifCond .eq 13, 3) := dk_153 (a := 0) (b := 13) (by decide +kernel) rfl
theorem dX4_earlierOf_46 : decode cX4_earlierOf 46 = .ok (.iload_n 3, 1) := dk_29 (by decide +kernel)
theorem dX4_earlierOf_47 : decode cX4_earlierOf 47 = .ok (.ifCond .ne 6, 3) := dk_154 (a := 0) (b := 6) (by decide +kernel) rfl
theorem dX4_earlierOf_50 : decode cX4_earlierOf 50 = .ok (.iload 4, 2) := dk_21 (by decide +kernel)
theorem dX4_earlierOf_52 : decode cX4_earlierOf 52 = .ok (.ireturn, 1) := dk_172 (by decide +kernel)
theorem dX4_earlierOf_53 : decode cX4_earlierOf 53 = .ok (.iinc 3 (-1), 3) := dk_132 (b := 255) (by decide +kernel) rfl
theorem dX4_earlierOf_56 : decode cX4_earlierOf 56 = .ok (.iinc 4 1, 3) := dk_132 (b := 1) (by decide +kernel) rfl
theorem dX4_earlierOf_59 : decode cX4_earlierOf 59 = .ok (.goto (-29), 3) := dk_167 (a := 255) (b := 227) (by decide +kernel) rfl
theorem dX4_earlierOf_62 : decode cX4_earlierOf 62 = .ok (.iconst 0, 1) := dk_3 (by decide +kernel)
theorem dX4_earlierOf_63 : decode cX4_earlierOf 63 = .ok (.ireturn, 1) := dk_172 (by decide +kernel)
theorem dX5_become_0 : decode cX5_become 0 = .ok (.aload_n 1, 1) := dk_43 (by decide +kernel)
theorem dX5_become_1 : decode cX5_become 1 = .ok (.getfield 9, 3) := dk_180 (a := 0) (b := 9) (by decide +kernel) rfl
theorem dX5_become_4 : decode cX5_become 4 = .ok (.iconst 0, 1) := dk_3 (by decide +kernel)
theorem dX5_become_5 : decode cX5_become 5 = .ok (.aload_n 0, 1) := dk_42 (by decide +kernel)
theorem dX5_become_6 : decode cX5_become 6 = .ok (.getfield 9, 3) := dk_180 (a := 0) (b := 9) (by decide +kernel) rfl
theorem dX5_become_9 : decode cX5_become 9 = .ok (.iconst 0, 1) := dk_3 (by decide +kernel)
theorem dX5_become_10 : decode cX5_become 10 = .ok (.iconst 4, 1) := dk_7 (by decide +kernel)
theorem dX5_become_11 : decode cX5_become 11 = .ok (.invokestatic 30, 3) := dk_184 (a := 0) (b := 30) (by decide +kernel) rfl
theorem dX5_become_14 : decode cX5_become 14 = .ok (.aload_n 1, 1) := dk_43 (by decide +kernel)
theorem dX5_become_15 : decode cX5_become 15 = .ok (.getfield 15, 3) := dk_180 (a := 0) (b := 15) (by decide +kernel) rfl
theorem dX5_become_18 : decode cX5_become 18 = .ok (.iconst 0, 1) := dk_3 (by decide +kernel)
theorem dX5_become_19 : decode cX5_become 19 = .ok (.aload_n 0, 1) := dk_42 (by decide +kernel)
theorem dX5_become_20 : decode cX5_become 20 = .ok (.getfield 15, 3) := dk_180 (a := 0) (b := 15) (by decide +kernel) rfl
theorem dX5_become_23 : decode cX5_become 23 = .ok (.iconst 0, 1) := dk_3 (by decide +kernel)
theorem dX5_become_24 : decode cX5_become 24 = .ok (.aload_n 0, 1) := dk_42 (by decide +kernel)
theorem dX5_become_25 : decode cX5_become 25 = .ok (.getfield 15, 3) := dk_180 (a := 0) (b := 15) (by decide +kernel) rfl
theorem dX5_become_28 : decode cX5_become 28 = .ok (.arraylength, 1) := dk_190 (by decide +kernel)
theorem dX5_become_29 : decode cX5_become 29 = .ok (.invokestatic 30, 3) := dk_184 (a := 0) (b := 30) (by decide +kernel) rfl
theorem dX5_become_32 : decode cX5_become 32 = .ok (.aload_n 1, 1) := dk_43 (by decide +kernel)
theorem dX5_become_33 : decode cX5_become 33 = .ok (.getfield 18, 3) := dk_180 (a := 0) (b := 18) (by decide +kernel) rfl
theorem dX5_become_36 : decode cX5_become 36 = .ok (.iconst 0, 1) := dk_3 (by decide +kernel)
theorem dX5_become_37 : decode cX5_become 37 = .ok (.aload_n 0, 1) := dk_42 (by decide +kernel)
theorem dX5_become_38 : decode cX5_become 38 = .ok (.getfield 18, 3) := dk_180 (a := 0) (b := 18) (by decide +kernel) rfl
theorem dX5_become_41 : decode cX5_become 41 = .ok (.iconst 0, 1) := dk_3 (by decide +kernel)
theorem dX5_become_42 : decode cX5_become 42 = .ok (.bipush 12, 2) := dk_16 (a := 12) (by decide +kernel) rfl
theorem dX5_become_44 : decode cX5_become 44 = .ok (.invokestatic 30, 3) := dk_184 (a := 0) (b := 30) (by decide +kernel) rfl
theorem dX5_become_47 : decode cX5_become 47 = .ok (.aload_n 1, 1) := dk_43 (by decide +kernel)
theorem dX5_become_48 : decode cX5_become 48 = .ok (.getfield 21, 3) := dk_180 (a := 0) (b := 21) (by decide +kernel) rfl
theorem dX5_become_51 : decode cX5_become 51 = .ok (.iconst 0, 1) := dk_3 (by decide +kernel)
theorem dX5_become_52 : decode cX5_become 52 = .ok (.aload_n 0, 1) := dk_42 (by decide +kernel)
theorem dX5_become_53 : decode cX5_become 53 = .ok (.getfield 21, 3) := dk_180 (a := 0) (b := 21) (by decide +kernel) rfl
theorem dX5_become_56 : decode cX5_become 56 = .ok (.iconst 0, 1) := dk_3 (by decide +kernel)
theorem dX5_become_57 : decode cX5_become 57 = .ok (.bipush 30, 2) := dk_16 (a := 30) (by decide +kernel) rfl
theorem dX5_become_59 : decode cX5_become 59 = .ok (.invokestatic 30, 3) := dk_184 (a := 0) (b := 30) (by decide +kernel) rfl
theorem dX5_become_62 : decode cX5_become 62 = .ok (.aload_n 1, 1) := dk_43 (by decide +kernel)
theorem dX5_become_63 : decode cX5_become 63 = .ok (.getfield 24, 3) := dk_180 (a := 0) (b := 24) (by decide +kernel) rfl
theorem dX5_become_66 : decode cX5_become 66 = .ok (.iconst 0, 1) := dk_3 (by decide +kernel)
theorem dX5_become_67 : decode cX5_become 67 = .ok (.aload_n 0, 1) := dk_42 (by decide +kernel)
theorem dX5_become_68 : decode cX5_become 68 = .ok (.getfield 24, 3) := dk_180 (a := 0) (b := 24) (by decide +kernel) rfl
theorem dX5_become_71 : decode cX5_become 71 = .ok (.iconst 0, 1) := dk_3 (by decide +kernel)
theorem dX5_become_72 : decode cX5_become 72 = .ok (.bipush 40, 2) := dk_16 (a := 40) (by decide +kernel) rfl
theorem dX5_become_74 : decode cX5_become 74 = .ok (.invokestatic 30, 3) := dk_184 (a := 0) (b := 30) (by decide +kernel) rfl
theorem dX5_become_77 : decode cX5_become 77 = .ok (.aload_n 1, 1) := dk_43 (by decide +kernel)
theorem dX5_become_78 : decode cX5_become 78 = .ok (.getfield 27, 3) := dk_180 (a := 0) (b := 27) (by decide +kernel) rfl
theorem dX5_become_81 : decode cX5_become 81 = .ok (.iconst 0, 1) := dk_3 (by decide +kernel)
theorem dX5_become_82 : decode cX5_become 82 = .ok (.aload_n 0, 1) := dk_42 (by decide +kernel)
theorem dX5_become_83 : decode cX5_become 83 = .ok (.getfield 27, 3) := dk_180 (a := 0) (b := 27) (by decide +kernel) rfl
theorem dX5_become_86 : decode cX5_become 86 = .ok (.iconst 0, 1) := dk_3 (by decide +kernel)
theorem dX5_become_87 : decode cX5_become 87 = .ok (.bipush 40, 2) := dk_16 (a := 40) (by decide +kernel) rfl
theorem dX5_become_89 : decode cX5_become 89 = .ok (.invokestatic 30, 3) := dk_184 (a := 0) (b := 30) (by decide +kernel) rfl
theorem dX5_become_92 : decode cX5_become 92 = .ok (.aload_n 0, 1) := dk_42 (by decide +kernel)
theorem dX5_become_93 : decode cX5_become 93 = .ok (.aload_n 1, 1) := dk_43 (by decide +kernel)
theorem dX5_become_94 : decode cX5_become 94 = .ok (.getfield 36, 3) := dk_180 (a := 0) (b := 36) (by decide +kernel) rfl
theorem dX5_become_97 : decode cX5_become 97 = .ok (.putfield 36, 3) := dk_181 (a := 0) (b := 36) (by decide +kernel) rfl
theorem dX5_become_100 : decode cX5_become 100 = .ok (.aload_n 0, 1) := dk_42 (by decide +kernel)
theorem dX5_become_101 : decode cX5_become 101 = .ok (.aload_n 1, 1) := dk_43 (by decide +kernel)
theorem dX5_become_102 : decode cX5_become 102 = .ok (.getfield 40, 3) := dk_180 (a := 0) (b := 40) (by decide +kernel) rfl
theorem dX5_become_105 : decode cX5_become 105 = .ok (.putfield 40, 3) := dk_181 (a := 0) (b := 40) (by decide +kernel) rfl
theorem dX5_become_108 : decode cX5_become 108 = .ok (.return_, 1) := dk_177 (by decide +kernel)
theorem dX5_has_0 : decode cX5_has 0 = .ok (.iload_n 2, 1) := dk_28 (by decide +kernel)
theorem dX5_has_1 : decode cX5_has 1 = .ok (.ifCond .lt 23, 3) := dk_155 (a := 0) (b := 23) (by decide +kernel) rfl
theorem dX5_has_4 : decode cX5_has 4 = .ok (.iload_n 2, 1) := dk_28 (by decide +kernel)
theorem dX5_has_5 : decode cX5_has 5 = .ok (.bipush 24, 2) := dk_16 (a := 24) (by decide +kernel) rfl
theorem dX5_has_7 : decode cX5_has 7 = .ok (.if_icmp .ge 17, 3) := dk_162 (a := 0) (b := 17) (by decide +kernel) rfl
theorem dX5_has_10 : decode cX5_has 10 = .ok (.iload_n 2, 1) := dk_28 (by decide +kernel)
theorem dX5_has_11 : decode cX5_has 11 = .ok (.aload_n 0, 1) := dk_42 (by decide +kernel)
theorem dX5_has_12 : decode cX5_has 12 = .ok (.getfield 9, 3) := dk_180 (a := 0) (b := 9) (by decide +kernel) rfl
theorem dX5_has_15 : decode cX5_has 15 = .ok (.iload_n 1, 1) := dk_27 (by decide +kernel)
theorem dX5_has_16 : decode cX5_has 16 = .ok (.iaload, 1) := dk_46 (by decide +kernel)
theorem dX5_has_17 : decode cX5_has 17 = .ok (.if_icmp .ge 7, 3) := dk_162 (a := 0) (b := 7) (by decide +kernel) rfl
theorem dX5_has_20 : decode cX5_has 20 = .ok (.iconst 1, 1) := dk_4 (by decide +kernel)
theorem dX5_has_21 : decode cX5_has 21 = .ok (.goto 4, 3) := dk_167 (a := 0) (b := 4) (by decide +kernel) rfl
theorem dX5_has_24 : decode cX5_has 24 = .ok (.iconst 0, 1) := dk_3 (by decide +kernel)
theorem dX5_has_25 : decode cX5_has 25 = .ok (.ireturn, 1) := dk_172 (by decide +kernel)
theorem dX5_firstPart_0 : decode cX5_firstPart 0 = .ok (.iload_n 1, 1) := dk_27 (by decide +kernel)
theorem dX5_firstPart_1 : decode cX5_firstPart 1 = .ok (.bipush 24, 2) := dk_16 (a := 24) (by decide +kernel) rfl
theorem dX5_firstPart_3 : decode cX5_firstPart 3 = .ok (.imul, 1) := dk_104 (by decide +kernel)
theorem dX5_firstPart_4 : decode cX5_firstPart 4 = .ok (.iload_n 2, 1) := dk_28 (by decide +kernel)
theorem dX5_firstPart_5 : decode cX5_firstPart 5 = .ok (.iadd, 1) := dk_96 (by decide +kernel)
theorem dX5_firstPart_6 : decode cX5_firstPart 6 = .ok (.iconst 4, 1) := dk_7 (by decide +kernel)
theorem dX5_firstPart_7 : decode cX5_firstPart 7 = .ok (.imul, 1) := dk_104 (by decide +kernel)
theorem dX5_firstPart_8 : decode cX5_firstPart 8 = .ok (.ireturn, 1) := dk_172 (by decide +kernel)
theorem dX5_opOf_0 : decode cX5_opOf 0 = .ok (.aload_n 0, 1) := dk_42 (by decide +kernel)
theorem dX5_opOf_1 : decode cX5_opOf 1 = .ok (.iload_n 1, 1) := dk_27 (by decide +kernel)
theorem dX5_opOf_2 : decode cX5_opOf 2 = .ok (.iload_n 2, 1) := dk_28 (by decide +kernel)
theorem dX5_opOf_3 : decode cX5_opOf 3 = .ok (.invokevirtual 43, 3) := dk_182 (a := 0) (b := 43) (by decide +kernel) rfl
theorem dX5_opOf_6 : decode cX5_opOf 6 = .ok (.ifCond .eq 17, 3) := dk_153 (a := 0) (b := 17) (by decide +kernel) rfl
theorem dX5_opOf_9 : decode cX5_opOf 9 = .ok (.aload_n 0, 1) := dk_42 (by decide +kernel)
theorem dX5_opOf_10 : decode cX5_opOf 10 = .ok (.getfield 15, 3) := dk_180 (a := 0) (b := 15) (by decide +kernel) rfl
theorem dX5_opOf_13 : decode cX5_opOf 13 = .ok (.aload_n 0, 1) := dk_42 (by decide +kernel)
theorem dX5_opOf_14 : decode cX5_opOf 14 = .ok (.iload_n 1, 1) := dk_27 (by decide +kernel)
theorem dX5_opOf_15 : decode cX5_opOf 15 = .ok (.iload_n 2, 1) := dk_28 (by decide +kernel)
theorem dX5_opOf_16 : decode cX5_opOf 16 = .ok (.invokevirtual 47, 3) := dk_182 (a := 0) (b := 47) (by decide +kernel) rfl
theorem dX5_opOf_19 : decode cX5_opOf 19 = .ok (.iaload, 1) := dk_46 (by decide +kernel)
theorem dX5_opOf_20 : decode cX5_opOf 20 = .ok (.goto 5, 3) := dk_167 (a := 0) (b := 5) (by decide +kernel) rfl
theorem dX5_opOf_23 : decode cX5_opOf 23 = .ok (.bipush 19, 2) := dk_16 (a := 19) (by decide +kernel) rfl
theorem dX5_opOf_25 : decode cX5_opOf 25 = .ok (.ireturn, 1) := dk_172 (by decide +kernel)
theorem dX6_look_0 : decode cX6_look 0 = .ok (.aload_n 0, 1) := dk_42 (by decide +kernel)
theorem dX6_look_1 : decode cX6_look 1 = .ok (.iconst 0, 1) := dk_3 (by decide +kernel)
theorem dX6_look_2 : decode cX6_look 2 = .ok (.putfield 34, 3) := dk_181 (a := 0) (b := 34) (by decide +kernel) rfl
theorem dX6_look_5 : decode cX6_look 5 = .ok (.aload_n 0, 1) := dk_42 (by decide +kernel)
theorem dX6_look_6 : decode cX6_look 6 = .ok (.iconst 1, 1) := dk_4 (by decide +kernel)
theorem dX6_look_7 : decode cX6_look 7 = .ok (.putfield 38, 3) := dk_181 (a := 0) (b := 38) (by decide +kernel) rfl
theorem dX6_look_10 : decode cX6_look 10 = .ok (.aload_n 0, 1) := dk_42 (by decide +kernel)
theorem dX6_look_11 : decode cX6_look 11 = .ok (.iconst 0, 1) := dk_3 (by decide +kernel)
theorem dX6_look_12 : decode cX6_look 12 = .ok (.invokevirtual 41, 3) := dk_182 (a := 0) (b := 41) (by decide +kernel) rfl
theorem dX6_look_15 : decode cX6_look 15 = .ok (.iconst 1, 1) := dk_4 (by decide +kernel)
theorem dX6_look_16 : decode cX6_look 16 = .ok (.istore_n 3, 1) := dk_62 (by decide +kernel)
theorem dX6_look_17 : decode cX6_look 17 = .ok (.iload_n 3, 1) := dk_29 (by decide +kernel)
theorem dX6_look_18 : decode cX6_look 18 = .ok (.iload_n 1, 1) := dk_27 (by decide +kernel)
theorem dX6_look_19 : decode cX6_look 19 = .ok (.if_icmp .gt 74, 3) := dk_163 (a := 0) (b := 74) (by decide +kernel) rfl
theorem dX6_look_22 : decode cX6_look 22 = .ok (.aload_n 0, 1) := dk_42 (by decide +kernel)
theorem dX6_look_23 : decode cX6_look 23 = .ok (.getfield 45, 3) := dk_180 (a := 0) (b := 45) (by decide +kernel) rfl
theorem dX6_look_26 : decode cX6_look 26 = .ok (.ifCond .ne 67, 3) := dk_154 (a := 0) (b := 67) (by decide +kernel) rfl
theorem dX6_look_29 : decode cX6_look 29 = .ok (.aload_n 0, 1) := dk_42 (by decide +kernel)
theorem dX6_look_30 : decode cX6_look 30 = .ok (.iload_n 3, 1) := dk_29 (by decide +kernel)
theorem dX6_look_31 : decode cX6_look 31 = .ok (.putfield 34, 3) := dk_181 (a := 0) (b := 34) (by decide +kernel) rfl
theorem dX6_look_34 : decode cX6_look 34 = .ok (.aload_n 0, 1) := dk_42 (by decide +kernel)
theorem dX6_look_35 : decode cX6_look 35 = .ok (.iconst 0, 1) := dk_3 (by decide +kernel)
theorem dX6_look_36 : decode cX6_look 36 = .ok (.iconst 1, 1) := dk_4 (by decide +kernel)
theorem dX6_look_37 : decode cX6_look 37 = .ok (.invokevirtual 48, 3) := dk_182 (a := 0) (b := 48) (by decide +kernel) rfl
theorem dX6_look_40 : decode cX6_look 40 = .ok (.aload_n 0, 1) := dk_42 (by decide +kernel)
theorem dX6_look_41 : decode cX6_look 41 = .ok (.getfield 16, 3) := dk_180 (a := 0) (b := 16) (by decide +kernel) rfl
theorem dX6_look_44 : decode cX6_look 44 = .ok (.iconst 1, 1) := dk_4 (by decide +kernel)
theorem dX6_look_45 : decode cX6_look 45 = .ok (.iconst 0, 1) := dk_3 (by decide +kernel)
theorem dX6_look_46 : decode cX6_look 46 = .ok (.iastore, 1) := dk_79 (by decide +kernel)
theorem dX6_look_47 : decode cX6_look 47 = .ok (.aload_n 0, 1) := dk_42 (by decide +kernel)
theorem dX6_look_48 : decode cX6_look 48 = .ok (.getfield 38, 3) := dk_180 (a := 0) (b := 38) (by decide +kernel) rfl
theorem dX6_look_51 : decode cX6_look 51 = .ok (.iload_n 2, 1) := dk_28 (by decide +kernel)
theorem dX6_look_52 : decode cX6_look 52 = .ok (.if_icmp .ge 35, 3) := dk_162 (a := 0) (b := 35) (by decide +kernel) rfl
theorem dX6_look_55 : decode cX6_look 55 = .ok (.aload_n 0, 1) := dk_42 (by decide +kernel)
theorem dX6_look_56 : decode cX6_look 56 = .ok (.getfield 45, 3) := dk_180 (a := 0) (b := 45) (by decide +kernel) rfl
theorem dX6_look_59 : decode cX6_look 59 = .ok (.ifCond .ne 28, 3) := dk_154 (a := 0) (b := 28) (by decide +kernel) rfl
theorem dX6_look_62 : decode cX6_look 62 = .ok (.aload_n 0, 1) := dk_42 (by decide +kernel)
theorem dX6_look_63 : decode cX6_look 63 = .ok (.invokevirtual 52, 3) := dk_182 (a := 0) (b := 52) (by decide +kernel) rfl
theorem dX6_look_66 : decode cX6_look 66 = .ok (.ifCond .eq 21, 3) := dk_153 (a := 0) (b := 21) (by decide +kernel) rfl
theorem dX6_look_69 : decode cX6_look 69 = .ok (.aload_n 0, 1) := dk_42 (by decide +kernel)
theorem dX6_look_70 : decode cX6_look 70 = .ok (.dup, 1) := dk_89 (by decide +kernel)
theorem dX6_look_71 : decode cX6_look 71 = .ok (.getfield 38, 3) := dk_180 (a := 0) (b := 38) (by decide +kernel) rfl
theorem dX6_look_74 : decode cX6_look 74 = .ok (.iconst 1, 1) := dk_4 (by decide +kernel)
theorem dX6_look_75 : decode cX6_look 75 = .ok (.iadd, 1) := dk_96 (by decide +kernel)
theorem dX6_look_76 : decode cX6_look 76 = .ok (.putfield 38, 3) := dk_181 (a := 0) (b := 38) (by decide +kernel) rfl
theorem dX6_look_79 : decode cX6_look 79 = .ok (.aload_n 0, 1) := dk_42 (by decide +kernel)
theorem dX6_look_80 : decode cX6_look 80 = .ok (.iconst (-1), 1) := dk_2 (by decide +kernel)
theorem dX6_look_81 : decode cX6_look 81 = .ok (.invokevirtual 41, 3) := dk_182 (a := 0) (b := 41) (by decide +kernel) rfl
theorem dX6_look_84 : decode cX6_look 84 = .ok (.goto (-37), 3) := dk_167 (a := 255) (b := 219) (by decide +kernel) rfl
theorem dX6_look_87 : decode cX6_look 87 = .ok (.iinc 3 1, 3) := dk_132 (b := 1) (by decide +kernel) rfl
theorem dX6_look_90 : decode cX6_look 90 = .ok (.goto (-73), 3) := dk_167 (a := 255) (b := 183) (by decide +kernel) rfl
theorem dX6_look_93 : decode cX6_look 93 = .ok (.aload_n 0, 1) := dk_42 (by decide +kernel)
theorem dX6_look_94 : decode cX6_look 94 = .ok (.aload_n 0, 1) := dk_42 (by decide +kernel)
theorem dX6_look_95 : decode cX6_look 95 = .ok (.getfield 45, 3) := dk_180 (a := 0) (b := 45) (by decide +kernel) rfl
theorem dX6_look_98 : decode cX6_look 98 = .ok (.ifCond .eq 7, 3) := dk_153 (a := 0) (b := 7) (by decide +kernel) rfl
theorem dX6_look_101 : decode cX6_look 101 = .ok (.iconst 1, 1) := dk_4 (by decide +kernel)
theorem dX6_look_102 : decode cX6_look 102 = .ok (.goto 4, 3) := dk_167 (a := 0) (b := 4) (by decide +kernel) rfl
theorem dX6_look_105 : decode cX6_look 105 = .ok (.iconst 0, 1) := dk_3 (by decide +kernel)
theorem dX6_look_106 : decode cX6_look 106 = .ok (.putfield 56, 3) := dk_181 (a := 0) (b := 56) (by decide +kernel) rfl
theorem dX6_look_109 : decode cX6_look 109 = .ok (.aload_n 0, 1) := dk_42 (by decide +kernel)
theorem dX6_look_110 : decode cX6_look 110 = .ok (.getfield 56, 3) := dk_180 (a := 0) (b := 56) (by decide +kernel) rfl
theorem dX6_look_113 : decode cX6_look 113 = .ok (.ifCond .eq 10, 3) := dk_153 (a := 0) (b := 10) (by decide +kernel) rfl
theorem dX6_look_116 : decode cX6_look 116 = .ok (.aload_n 0, 1) := dk_42 (by decide +kernel)
theorem dX6_look_117 : decode cX6_look 117 = .ok (.getfield 38, 3) := dk_180 (a := 0) (b := 38) (by decide +kernel) rfl
theorem dX6_look_120 : decode cX6_look 120 = .ok (.goto 4, 3) := dk_167 (a := 0) (b := 4) (by decide +kernel) rfl
theorem dX6_look_123 : decode cX6_look 123 = .ok (.iconst 0, 1) := dk_3 (by decide +kernel)
theorem dX6_look_124 : decode cX6_look 124 = .ok (.ireturn, 1) := dk_172 (by decide +kernel)
theorem dX6_putChanges_0 : decode cX6_putChanges 0 = .ok (.aload_n 0, 1) := dk_42 (by decide +kernel)
theorem dX6_putChanges_1 : decode cX6_putChanges 1 = .ok (.getfield 34, 3) := dk_180 (a := 0) (b := 34) (by decide +kernel) rfl
theorem dX6_putChanges_4 : decode cX6_putChanges 4 = .ok (.iconst 1, 1) := dk_4 (by decide +kernel)
theorem dX6_putChanges_5 : decode cX6_putChanges 5 = .ok (.if_icmp .ne 9, 3) := dk_160 (a := 0) (b := 9) (by decide +kernel) rfl
theorem dX6_putChanges_8 : decode cX6_putChanges 8 = .ok (.aload_n 0, 1) := dk_42 (by decide +kernel)
theorem dX6_putChanges_9 : decode cX6_putChanges 9 = .ok (.iconst 0, 1) := dk_3 (by decide +kernel)
theorem dX6_putChanges_10 : decode cX6_putChanges 10 = .ok (.invokevirtual 60, 3) := dk_182 (a := 0) (b := 60) (by decide +kernel) rfl
theorem dX6_putChanges_13 : decode cX6_putChanges 13 = .ok (.ireturn, 1) := dk_172 (by decide +kernel)
theorem dX6_putChanges_14 : decode cX6_putChanges 14 = .ok (.iconst 0, 1) := dk_3 (by decide +kernel)
theorem dX6_putChanges_15 : decode cX6_putChanges 15 = .ok (.istore_n 1, 1) := dk_60 (by decide +kernel)
theorem dX6_putChanges_16 : decode cX6_putChanges 16 = .ok (.iload_n 1, 1) := dk_27 (by decide +kernel)
theorem dX6_putChanges_17 : decode cX6_putChanges 17 = .ok (.sipush 1200, 3) := dk_17 (a := 4) (b := 176) (by decide +kernel) rfl
theorem dX6_putChanges_20 : decode cX6_putChanges 20 = .ok (.if_icmp .ge 57, 3) := dk_162 (a := 0) (b := 57) (by decide +kernel) rfl
theorem dX6_putChanges_23 : decode cX6_putChanges 23 = .ok (.aload_n 0, 1) := dk_42 (by decide +kernel)
theorem dX6_putChanges_24 : decode cX6_putChanges 24 = .ok (.iconst 1, 1) := dk_4 (by decide +kernel)
theorem dX6_putChanges_25 : decode cX6_putChanges 25 = .ok (.invokevirtual 60, 3) := dk_182 (a := 0) (b := 60) (by decide +kernel) rfl
theorem dX6_putChanges_28 : decode cX6_putChanges 28 = .ok (.ifCond .eq 5, 3) := dk_153 (a := 0) (b := 5) (by decide +kernel) rfl
theorem dX6_putChanges_31 : decode cX6_putChanges 31 = .ok (.iconst 1, 1) := dk_4 (by decide +kernel)
theorem dX6_putChanges_32 : decode cX6_putChanges 32 = .ok (.ireturn, 1) := dk_172 (by decide +kernel)
theorem dX6_putChanges_33 : decode cX6_putChanges 33 = .ok (.aload_n 0, 1) := dk_42 (by decide +kernel)
theorem dX6_putChanges_34 : decode cX6_putChanges 34 = .ok (.iconst 0, 1) := dk_3 (by decide +kernel)
theorem dX6_putChanges_35 : decode cX6_putChanges 35 = .ok (.invokevirtual 60, 3) := dk_182 (a := 0) (b := 60) (by decide +kernel) rfl
theorem dX6_putChanges_38 : decode cX6_putChanges 38 = .ok (.ifCond .ne 5, 3) := dk_154 (a := 0) (b := 5) (by decide +kernel) rfl
theorem dX6_putChanges_41 : decode cX6_putChanges 41 = .ok (.iconst 0, 1) := dk_3 (by decide +kernel)
theorem dX6_putChanges_42 : decode cX6_putChanges 42 = .ok (.ireturn, 1) := dk_172 (by decide +kernel)
theorem dX6_putChanges_43 : decode cX6_putChanges 43 = .ok (.aload_n 0, 1) := dk_42 (by decide +kernel)
theorem dX6_putChanges_44 : decode cX6_putChanges 44 = .ok (.iconst 1, 1) := dk_4 (by decide +kernel)
theorem dX6_putChanges_45 : decode cX6_putChanges 45 = .ok (.putfield 34, 3) := dk_181 (a := 0) (b := 34) (by decide +kernel) rfl
theorem dX6_putChanges_48 : decode cX6_putChanges 48 = .ok (.aload_n 0, 1) := dk_42 (by decide +kernel)
theorem dX6_putChanges_49 : decode cX6_putChanges 49 = .ok (.iconst 1, 1) := dk_4 (by decide +kernel)
theorem dX6_putChanges_50 : decode cX6_putChanges 50 = .ok (.invokevirtual 41, 3) := dk_182 (a := 0) (b := 41) (by decide +kernel) rfl
theorem dX6_putChanges_53 : decode cX6_putChanges 53 = .ok (.aload_n 0, 1) := dk_42 (by decide +kernel)
theorem dX6_putChanges_54 : decode cX6_putChanges 54 = .ok (.iconst 2, 1) := dk_5 (by decide +kernel)
theorem dX6_putChanges_55 : decode cX6_putChanges 55 = .ok (.putfield 34, 3) := dk_181 (a := 0) (b := 34) (by decide +kernel) rfl
theorem dX6_putChanges_58 : decode cX6_putChanges 58 = .ok (.aload_n 0, 1) := dk_42 (by decide +kernel)
theorem dX6_putChanges_59 : decode cX6_putChanges 59 = .ok (.iconst 1, 1) := dk_4 (by decide +kernel)
theorem dX6_putChanges_60 : decode cX6_putChanges 60 = .ok (.aload_n 0, 1) := dk_42 (by decide +kernel)
theorem dX6_putChanges_61 : decode cX6_putChanges 61 = .ok (.getfield 20, 3) := dk_180 (a := 0) (b := 20) (by decide +kernel) rfl
theorem dX6_putChanges_64 : decode cX6_putChanges 64 = .ok (.iconst 0, 1) := dk_3 (by decide +kernel)
theorem dX6_putChanges_65 : decode cX6_putChanges 65 = .ok (.iaload, 1) := dk_46 (by decide +kernel)
theorem dX6_putChanges_66 : decode cX6_putChanges 66 = .ok (.iconst 1, 1) := dk_4 (by decide +kernel)
theorem dX6_putChanges_67 : decode cX6_putChanges 67 = .ok (.iadd, 1) := dk_96 (by decide +kernel)
theorem dX6_putChanges_68 : decode cX6_putChanges 68 = .ok (.invokevirtual 48, 3) := dk_182 (a := 0) (b := 48) (by decide +kernel) rfl
theorem dX6_putChanges_71 : decode cX6_putChanges 71 = .ok (.iinc 1 1, 3) := dk_132 (b := 1) (by decide +kernel) rfl
theorem dX6_putChanges_74 : decode cX6_putChanges 74 = .ok (.goto (-58), 3) := dk_167 (a := 255) (b := 198) (by decide +kernel) rfl
theorem dX6_putChanges_77 : decode cX6_putChanges 77 = .ok (.iconst 0, 1) := dk_3 (by decide +kernel)
theorem dX6_putChanges_78 : decode cX6_putChanges 78 = .ok (.ireturn, 1) := dk_172 (by decide +kernel)
theorem dX6_putAhead_0 : decode cX6_putAhead 0 = .ok (.aload_n 0, 1) := dk_42 (by decide +kernel)
theorem dX6_putAhead_1 : decode cX6_putAhead 1 = .ok (.getfield 20, 3) := dk_180 (a := 0) (b := 20) (by decide +kernel) rfl
theorem dX6_putAhead_4 : decode cX6_putAhead 4 = .ok (.iload_n 1, 1) := dk_27 (by decide +kernel)
theorem dX6_putAhead_5 : decode cX6_putAhead 5 = .ok (.iload_n 2, 1) := dk_28 (by decide +kernel)
theorem dX6_putAhead_6 : decode cX6_putAhead 6 = .ok (.iastore, 1) := dk_79 (by decide +kernel)
theorem dX6_putAhead_7 : decode cX6_putAhead 7 = .ok (.aload_n 0, 1) := dk_42 (by decide +kernel)
theorem dX6_putAhead_8 : decode cX6_putAhead 8 = .ok (.getfield 23, 3) := dk_180 (a := 0) (b := 23) (by decide +kernel) rfl
theorem dX6_putAhead_11 : decode cX6_putAhead 11 = .ok (.iload_n 1, 1) := dk_27 (by decide +kernel)
theorem dX6_putAhead_12 : decode cX6_putAhead 12 = .ok (.iconst (-1), 1) := dk_2 (by decide +kernel)
theorem dX6_putAhead_13 : decode cX6_putAhead 13 = .ok (.iastore, 1) := dk_79 (by decide +kernel)
theorem dX6_putAhead_14 : decode cX6_putAhead 14 = .ok (.return_, 1) := dk_177 (by decide +kernel)
theorem dX6_moveOn_0 : decode cX6_moveOn 0 = .ok (.aload_n 0, 1) := dk_42 (by decide +kernel)
theorem dX6_moveOn_1 : decode cX6_moveOn 1 = .ok (.getfield 23, 3) := dk_180 (a := 0) (b := 23) (by decide +kernel) rfl
theorem dX6_moveOn_4 : decode cX6_moveOn 4 = .ok (.iload_n 1, 1) := dk_27 (by decide +kernel)
theorem dX6_moveOn_5 : decode cX6_moveOn 5 = .ok (.iaload, 1) := dk_46 (by decide +kernel)
theorem dX6_moveOn_6 : decode cX6_moveOn 6 = .ok (.iconst 1, 1) := dk_4 (by decide +kernel)
theorem dX6_moveOn_7 : decode cX6_moveOn 7 = .ok (.iadd, 1) := dk_96 (by decide +kernel)
theorem dX6_moveOn_8 : decode cX6_moveOn 8 = .ok (.istore_n 2, 1) := dk_61 (by decide +kernel)
theorem dX6_moveOn_9 : decode cX6_moveOn 9 = .ok (.aload_n 0, 1) := dk_42 (by decide +kernel)
theorem dX6_moveOn_10 : decode cX6_moveOn 10 = .ok (.getfield 20, 3) := dk_180 (a := 0) (b := 20) (by decide +kernel) rfl
theorem dX6_moveOn_13 : decode cX6_moveOn 13 = .ok (.iload_n 1, 1) := dk_27 (by decide +kernel)
theorem dX6_moveOn_14 : decode cX6_moveOn 14 = .ok (.iaload, 1) := dk_46 (by decide +kernel)
theorem dX6_moveOn_15 : decode cX6_moveOn 15 = .ok (.istore_n 3, 1) := dk_62 (by decide +kernel)
theorem dX6_moveOn_16 : decode cX6_moveOn 16 = .ok (.iload_n 3, 1) := dk_29 (by decide +kernel)
theorem dX6_moveOn_17 : decode cX6_moveOn 17 = .ok (.aload_n 0, 1) := dk_42 (by decide +kernel)
theorem dX6_moveOn_18 : decode cX6_moveOn 18 = .ok (.getfield 16, 3) := dk_180 (a := 0) (b := 16) (by decide +kernel) rfl
theorem dX6_moveOn_21 : decode cX6_moveOn 21 = .ok (.iload_n 1, 1) := dk_27 (by decide +kernel)
theorem dX6_moveOn_22 : decode cX6_moveOn 22 = .ok (.iaload, 1) := dk_46 (by decide +kernel)
theorem dX6_moveOn_23 : decode cX6_moveOn 23 = .ok (.if_icmp .ge 59, 3) := dk_162 (a := 0) (b := 59) (by decide +kernel) rfl
theorem dX6_moveOn_26 : decode cX6_moveOn 26 = .ok (.iload_n 2, 1) := dk_28 (by decide +kernel)
theorem dX6_moveOn_27 : decode cX6_moveOn 27 = .ok (.istore 4, 2) := dk_54 (by decide +kernel)
theorem dX6_moveOn_29 : decode cX6_moveOn 29 = .ok (.iload 4, 2) := dk_21 (by decide +kernel)
theorem dX6_moveOn_31 : decode cX6_moveOn 31 = .ok (.iconst 4, 1) := dk_7 (by decide +kernel)
theorem dX6_moveOn_32 : decode cX6_moveOn 32 = .ok (.if_icmp .ge 42, 3) := dk_162 (a := 0) (b := 42) (by decide +kernel) rfl
theorem dX6_moveOn_35 : decode cX6_moveOn 35 = .ok (.aload_n 0, 1) := dk_42 (by decide +kernel)
theorem dX6_moveOn_36 : decode cX6_moveOn 36 = .ok (.getfield 11, 3) := dk_180 (a := 0) (b := 11) (by decide +kernel) rfl
theorem dX6_moveOn_39 : decode cX6_moveOn 39 = .ok (.iload_n 1, 1) := dk_27 (by decide +kernel)
theorem dX6_moveOn_40 : decode cX6_moveOn 40 = .ok (.aaload, 1) := dk_50 (by decide +kernel)
theorem dX6_moveOn_41 : decode cX6_moveOn 41 = .ok (.iload_n 3, 1) := dk_29 (by decide +kernel)
theorem dX6_moveOn_42 : decode cX6_moveOn 42 = .ok (.iaload, 1) := dk_46 (by decide +kernel)
theorem dX6_moveOn_43 : decode cX6_moveOn 43 = .ok (.iload 4, 2) := dk_21 (by decide +kernel)
theorem dX6_moveOn_45 : decode cX6_moveOn 45 = .ok (.ishr, 1) := by decide +kernel
theorem dX6_moveOn_46 : decode cX6_moveOn 46 = .ok (.iconst 1, 1) := dk_4 (by decide +kernel)
theorem dX6_moveOn_47 : decode cX6_moveOn 47 = .ok (.iand, 1) := dk_126 (by decide +kernel)
theorem dX6_moveOn_48 : decode cX6_moveOn 48 = .ok (.ifCond .eq 20, 3) := dk_153 (a := 0) (b := 20) (by decide +kernel) rfl
theorem dX6_moveOn_51 : decode cX6_moveOn 51 = .ok (.aload_n 0, 1) := dk_42 (by decide +kernel)
theorem dX6_moveOn_52 : decode cX6_moveOn 52 = .ok (.getfield 20, 3) := dk_180 (a := 0) (b := 20) (by decide +kernel) rfl
theorem dX6_moveOn_55 : decode cX6_moveOn 55 = .ok (.iload_n 1, 1) := dk_27 (by decide +kernel)
theorem dX6_moveOn_56 : decode cX6_moveOn 56 = .ok (.iload_n 3, 1) := dk_29 (by decide +kernel)
theorem dX6_moveOn_57 : decode cX6_moveOn 57 = .ok (.iastore, 1) := dk_79 (by decide +kernel)
theorem dX6_moveOn_58 : decode cX6_moveOn 58 = .ok (.aload_n 0, 1) := dk_42 (by decide +kernel)
theorem dX6_moveOn_59 : decode cX6_moveOn 59 = .ok (.getfield 23, 3) := dk_180 (a := 0) (b := 23) (by decide +kernel) rfl
theorem dX6_moveOn_62 : decode cX6_moveOn 62 = .ok (.iload_n 1, 1) := dk_27 (by decide +kernel)
theorem dX6_moveOn_63 : decode cX6_moveOn 63 = .ok (.iload 4, 2) := dk_21 (by decide +kernel)
theorem dX6_moveOn_65 : decode cX6_moveOn 65 = .ok (.iastore, 1) := dk_79 (by decide +kernel)
theorem dX6_moveOn_66 : decode cX6_moveOn 66 = .ok (.iconst 1, 1) := dk_4 (by decide +kernel)
theorem dX6_moveOn_67 : decode cX6_moveOn 67 = .ok (.ireturn, 1) := dk_172 (by decide +kernel)
theorem dX6_moveOn_68 : decode cX6_moveOn 68 = .ok (.iinc 4 1, 3) := dk_132 (b := 1) (by decide +kernel) rfl
theorem dX6_moveOn_71 : decode cX6_moveOn 71 = .ok (.goto (-42), 3) := dk_167 (a := 255) (b := 214) (by decide +kernel) rfl
theorem dX6_moveOn_74 : decode cX6_moveOn 74 = .ok (.iconst 0, 1) := dk_3 (by decide +kernel)
theorem dX6_moveOn_75 : decode cX6_moveOn 75 = .ok (.istore_n 2, 1) := dk_61 (by decide +kernel)
theorem dX6_moveOn_76 : decode cX6_moveOn 76 = .ok (.iinc 3 1, 3) := dk_132 (b := 1) (by decide +kernel) rfl
theorem dX6_moveOn_79 : decode cX6_moveOn 79 = .ok (.goto (-63), 3) := dk_167 (a := 255) (b := 193) (by decide +kernel) rfl
theorem dX6_moveOn_82 : decode cX6_moveOn 82 = .ok (.iconst 0, 1) := dk_3 (by decide +kernel)
theorem dX6_moveOn_83 : decode cX6_moveOn 83 = .ok (.ireturn, 1) := dk_172 (by decide +kernel)
theorem dX6_goThrough_0 : decode cX6_goThrough 0 = .ok (.aload_n 0, 1) := dk_42 (by decide +kernel)
theorem dX6_goThrough_1 : decode cX6_goThrough 1 = .ok (.getfield 30, 3) := dk_180 (a := 0) (b := 30) (by decide +kernel) rfl
theorem dX6_goThrough_4 : decode cX6_goThrough 4 = .ok (.aload_n 0, 1) := dk_42 (by decide +kernel)
theorem dX6_goThrough_5 : decode cX6_goThrough 5 = .ok (.getfield 26, 3) := dk_180 (a := 0) (b := 26) (by decide +kernel) rfl
theorem dX6_goThrough_8 : decode cX6_goThrough 8 = .ok (.aload_n 0, 1) := dk_42 (by decide +kernel)
theorem dX6_goThrough_9 : decode cX6_goThrough 9 = .ok (.getfield 26, 3) := dk_180 (a := 0) (b := 26) (by decide +kernel) rfl
theorem dX6_goThrough_12 : decode cX6_goThrough 12 = .ok (.getfield 64, 3) := dk_180 (a := 0) (b := 64) (by decide +kernel) rfl
theorem dX6_goThrough_15 : decode cX6_goThrough 15 = .ok (.invokevirtual 69, 3) := dk_182 (a := 0) (b := 69) (by decide +kernel) rfl
theorem dX6_goThrough_18 : decode cX6_goThrough 18 = .ok (.aload_n 0, 1) := dk_42 (by decide +kernel)
theorem dX6_goThrough_19 : decode cX6_goThrough 19 = .ok (.getfield 30, 3) := dk_180 (a := 0) (b := 30) (by decide +kernel) rfl
theorem dX6_goThrough_22 : decode cX6_goThrough 22 = .ok (.iconst 0, 1) := dk_3 (by decide +kernel)
theorem dX6_goThrough_23 : decode cX6_goThrough 23 = .ok (.invokevirtual 75, 3) := dk_182 (a := 0) (b := 75) (by decide +kernel) rfl
theorem dX6_goThrough_26 : decode cX6_goThrough 26 = .ok (.istore_n 2, 1) := dk_61 (by decide +kernel)
theorem dX6_goThrough_27 : decode cX6_goThrough 27 = .ok (.aload_n 0, 1) := dk_42 (by decide +kernel)
theorem dX6_goThrough_28 : decode cX6_goThrough 28 = .ok (.iconst 0, 1) := dk_3 (by decide +kernel)
theorem dX6_goThrough_29 : decode cX6_goThrough 29 = .ok (.putfield 45, 3) := dk_181 (a := 0) (b := 45) (by decide +kernel) rfl
theorem dX6_goThrough_32 : decode cX6_goThrough 32 = .ok (.aload_n 0, 1) := dk_42 (by decide +kernel)
theorem dX6_goThrough_33 : decode cX6_goThrough 33 = .ok (.iconst 0, 1) := dk_3 (by decide +kernel)
theorem dX6_goThrough_34 : decode cX6_goThrough 34 = .ok (.putfield 79, 3) := dk_181 (a := 0) (b := 79) (by decide +kernel) rfl
theorem dX6_goThrough_37 : decode cX6_goThrough 37 = .ok (.aload_n 0, 1) := dk_42 (by decide +kernel)
theorem dX6_goThrough_38 : decode cX6_goThrough 38 = .ok (.getfield 79, 3) := dk_180 (a := 0) (b := 79) (by decide +kernel) rfl
theorem dX6_goThrough_41 : decode cX6_goThrough 41 = .ok (.sipush 300, 3) := dk_17 (a := 1) (b := 44) (by decide +kernel) rfl
theorem dX6_goThrough_44 : decode cX6_goThrough 44 = .ok (.if_icmp .ge 78, 3) := dk_162 (a := 0) (b := 78) (by decide +kernel) rfl
theorem dX6_goThrough_47 : decode cX6_goThrough 47 = .ok (.iload_n 2, 1) := dk_28 (by decide +kernel)
theorem dX6_goThrough_48 : decode cX6_goThrough 48 = .ok (.ifCond .lt 74, 3) := dk_155 (a := 0) (b := 74) (by decide +kernel) rfl
theorem dX6_goThrough_51 : decode cX6_goThrough 51 = .ok (.aload_n 0, 1) := dk_42 (by decide +kernel)
theorem dX6_goThrough_52 : decode cX6_goThrough 52 = .ok (.getfield 45, 3) := dk_180 (a := 0) (b := 45) (by decide +kernel) rfl
theorem dX6_goThrough_55 : decode cX6_goThrough 55 = .ok (.ifCond .ne 67, 3) := dk_154 (a := 0) (b := 67) (by decide +kernel) rfl
theorem dX6_goThrough_58 : decode cX6_goThrough 58 = .ok (.iload_n 1, 1) := dk_27 (by decide +kernel)
theorem dX6_goThrough_59 : decode cX6_goThrough 59 = .ok (.iconst (-1), 1) := dk_2 (by decide +kernel)
theorem dX6_goThrough_60 : decode cX6_goThrough 60 = .ok (.if_icmp .eq 22, 3) := dk_159 (a := 0) (b := 22) (by decide +kernel) rfl
theorem dX6_goThrough_63 : decode cX6_goThrough 63 = .ok (.aload_n 0, 1) := dk_42 (by decide +kernel)
theorem dX6_goThrough_64 : decode cX6_goThrough 64 = .ok (.getfield 11, 3) := dk_180 (a := 0) (b := 11) (by decide +kernel) rfl
theorem dX6_goThrough_67 : decode cX6_goThrough 67 = .ok (.iload_n 1, 1) := dk_27 (by decide +kernel)
theorem dX6_goThrough_68 : decode cX6_goThrough 68 = .ok (.aaload, 1) := dk_50 (by decide +kernel)
theorem dX6_goThrough_69 : decode cX6_goThrough 69 = .ok (.aload_n 0, 1) := dk_42 (by decide +kernel)
theorem dX6_goThrough_70 : decode cX6_goThrough 70 = .ok (.getfield 79, 3) := dk_180 (a := 0) (b := 79) (by decide +kernel) rfl
theorem dX6_goThrough_73 : decode cX6_goThrough 73 = .ok (.aload_n 0, 1) := dk_42 (by decide +kernel)
theorem dX6_goThrough_74 : decode cX6_goThrough 74 = .ok (.getfield 30, 3) := dk_180 (a := 0) (b := 30) (by decide +kernel) rfl
theorem dX6_goThrough_77 : decode cX6_goThrough 77 = .ok (.iload_n 2, 1) := dk_28 (by decide +kernel)
theorem dX6_goThrough_78 : decode cX6_goThrough 78 = .ok (.invokevirtual 82, 3) := dk_182 (a := 0) (b := 82) (by decide +kernel) rfl
theorem dX6_goThrough_81 : decode cX6_goThrough 81 = .ok (.iastore, 1) := dk_79 (by decide +kernel)
theorem dX6_goThrough_82 : decode cX6_goThrough 82 = .ok (.aload_n 0, 1) := dk_42 (by decide +kernel)
theorem dX6_goThrough_83 : decode cX6_goThrough 83 = .ok (.iload_n 2, 1) := dk_28 (by decide +kernel)
theorem dX6_goThrough_84 : decode cX6_goThrough 84 = .ok (.invokevirtual 85, 3) := dk_182 (a := 0) (b := 85) (by decide +kernel) rfl
theorem dX6_goThrough_87 : decode cX6_goThrough 87 = .ok (.istore_n 2, 1) := dk_61 (by decide +kernel)
theorem dX6_goThrough_88 : decode cX6_goThrough 88 = .ok (.aload_n 0, 1) := dk_42 (by decide +kernel)
theorem dX6_goThrough_89 : decode cX6_goThrough 89 = .ok (.aload_n 0, 1) := dk_42 (by decide +kernel)
theorem dX6_goThrough_90 : decode cX6_goThrough 90 = .ok (.getfield 30, 3) := dk_180 (a := 0) (b := 30) (by decide +kernel) rfl
theorem dX6_goThrough_93 : decode cX6_goThrough 93 = .ok (.iload_n 2, 1) := dk_28 (by decide +kernel)
theorem dX6_goThrough_94 : decode cX6_goThrough 94 = .ok (.invokevirtual 88, 3) := dk_182 (a := 0) (b := 88) (by decide +kernel) rfl
theorem dX6_goThrough_97 : decode cX6_goThrough 97 = .ok (.putfield 45, 3) := dk_181 (a := 0) (b := 45) (by decide +kernel) rfl
theorem dX6_goThrough_100 : decode cX6_goThrough 100 = .ok (.aload_n 0, 1) := dk_42 (by decide +kernel)
theorem dX6_goThrough_101 : decode cX6_goThrough 101 = .ok (.getfield 30, 3) := dk_180 (a := 0) (b := 30) (by decide +kernel) rfl
theorem dX6_goThrough_104 : decode cX6_goThrough 104 = .ok (.iload_n 2, 1) := dk_28 (by decide +kernel)
theorem dX6_goThrough_105 : decode cX6_goThrough 105 = .ok (.invokevirtual 75, 3) := dk_182 (a := 0) (b := 75) (by decide +kernel) rfl
theorem dX6_goThrough_108 : decode cX6_goThrough 108 = .ok (.istore_n 2, 1) := dk_61 (by decide +kernel)
theorem dX6_goThrough_109 : decode cX6_goThrough 109 = .ok (.aload_n 0, 1) := dk_42 (by decide +kernel)
theorem dX6_goThrough_110 : decode cX6_goThrough 110 = .ok (.dup, 1) := dk_89 (by decide +kernel)
theorem dX6_goThrough_111 : decode cX6_goThrough 111 = .ok (.getfield 79, 3) := dk_180 (a := 0) (b := 79) (by decide +kernel) rfl
theorem dX6_goThrough_114 : decode cX6_goThrough 114 = .ok (.iconst 1, 1) := dk_4 (by decide +kernel)
theorem dX6_goThrough_115 : decode cX6_goThrough 115 = .ok (.iadd, 1) := dk_96 (by decide +kernel)
theorem dX6_goThrough_116 : decode cX6_goThrough 116 = .ok (.putfield 79, 3) := dk_181 (a := 0) (b := 79) (by decide +kernel) rfl
theorem dX6_goThrough_119 : decode cX6_goThrough 119 = .ok (.goto (-82), 3) := dk_167 (a := 255) (b := 174) (by decide +kernel) rfl
theorem dX6_goThrough_122 : decode cX6_goThrough 122 = .ok (.iload_n 1, 1) := dk_27 (by decide +kernel)
theorem dX6_goThrough_123 : decode cX6_goThrough 123 = .ok (.iconst (-1), 1) := dk_2 (by decide +kernel)
theorem dX6_goThrough_124 : decode cX6_goThrough 124 = .ok (.if_icmp .eq 13, 3) := dk_159 (a := 0) (b := 13) (by decide +kernel) rfl
theorem dX6_goThrough_127 : decode cX6_goThrough 127 = .ok (.aload_n 0, 1) := dk_42 (by decide +kernel)
theorem dX6_goThrough_128 : decode cX6_goThrough 128 = .ok (.getfield 16, 3) := dk_180 (a := 0) (b := 16) (by decide +kernel) rfl
theorem dX6_goThrough_131 : decode cX6_goThrough 131 = .ok (.iload_n 1, 1) := dk_27 (by decide +kernel)
theorem dX6_goThrough_132 : decode cX6_goThrough 132 = .ok (.aload_n 0, 1) := dk_42 (by decide +kernel)
theorem dX6_goThrough_133 : decode cX6_goThrough 133 = .ok (.getfield 79, 3) := dk_180 (a := 0) (b := 79) (by decide +kernel) rfl
theorem dX6_goThrough_136 : decode cX6_goThrough 136 = .ok (.iastore, 1) := dk_79 (by decide +kernel)
theorem dX6_goThrough_137 : decode cX6_goThrough 137 = .ok (.return_, 1) := dk_177 (by decide +kernel)
theorem dX6_chosen_0 : decode cX6_chosen 0 = .ok (.iconst 0, 1) := dk_3 (by decide +kernel)
theorem dX6_chosen_1 : decode cX6_chosen 1 = .ok (.istore_n 2, 1) := dk_61 (by decide +kernel)
theorem dX6_chosen_2 : decode cX6_chosen 2 = .ok (.iload_n 2, 1) := dk_28 (by decide +kernel)
theorem dX6_chosen_3 : decode cX6_chosen 3 = .ok (.aload_n 0, 1) := dk_42 (by decide +kernel)
theorem dX6_chosen_4 : decode cX6_chosen 4 = .ok (.getfield 34, 3) := dk_180 (a := 0) (b := 34) (by decide +kernel) rfl
theorem dX6_chosen_7 : decode cX6_chosen 7 = .ok (.if_icmp .ge 34, 3) := dk_162 (a := 0) (b := 34) (by decide +kernel) rfl
theorem dX6_chosen_10 : decode cX6_chosen 10 = .ok (.iload_n 2, 1) := dk_28 (by decide +kernel)
theorem dX6_chosen_11 : decode cX6_chosen 11 = .ok (.iconst 2, 1) := dk_5 (by decide +kernel)
theorem dX6_chosen_12 : decode cX6_chosen 12 = .ok (.if_icmp .ge 29, 3) := dk_162 (a := 0) (b := 29) (by decide +kernel) rfl
theorem dX6_chosen_15 : decode cX6_chosen 15 = .ok (.aload_n 0, 1) := dk_42 (by decide +kernel)
theorem dX6_chosen_16 : decode cX6_chosen 16 = .ok (.getfield 20, 3) := dk_180 (a := 0) (b := 20) (by decide +kernel) rfl
theorem dX6_chosen_19 : decode cX6_chosen 19 = .ok (.iload_n 2, 1) := dk_28 (by decide +kernel)
theorem dX6_chosen_20 : decode cX6_chosen 20 = .ok (.iaload, 1) := dk_46 (by decide +kernel)
theorem dX6_chosen_21 : decode cX6_chosen 21 = .ok (.aload_n 0, 1) := dk_42 (by decide +kernel)
theorem dX6_chosen_22 : decode cX6_chosen 22 = .ok (.getfield 79, 3) := dk_180 (a := 0) (b := 79) (by decide +kernel) rfl
theorem dX6_chosen_25 : decode cX6_chosen 25 = .ok (.if_icmp .ne 10, 3) := dk_160 (a := 0) (b := 10) (by decide +kernel) rfl
theorem dX6_chosen_28 : decode cX6_chosen 28 = .ok (.aload_n 0, 1) := dk_42 (by decide +kernel)
theorem dX6_chosen_29 : decode cX6_chosen 29 = .ok (.getfield 23, 3) := dk_180 (a := 0) (b := 23) (by decide +kernel) rfl
theorem dX6_chosen_32 : decode cX6_chosen 32 = .ok (.iload_n 2, 1) := dk_28 (by decide +kernel)
theorem dX6_chosen_33 : decode cX6_chosen 33 = .ok (.iaload, 1) := dk_46 (by decide +kernel)
theorem dX6_chosen_34 : decode cX6_chosen 34 = .ok (.ireturn, 1) := dk_172 (by decide +kernel)
theorem dX6_chosen_35 : decode cX6_chosen 35 = .ok (.iinc 2 1, 3) := dk_132 (b := 1) (by decide +kernel) rfl
theorem dX6_chosen_38 : decode cX6_chosen 38 = .ok (.goto (-36), 3) := dk_167 (a := 255) (b := 220) (by decide +kernel) rfl
theorem dX6_chosen_41 : decode cX6_chosen 41 = .ok (.iload_n 1, 1) := dk_27 (by decide +kernel)
theorem dX6_chosen_42 : decode cX6_chosen 42 = .ok (.ireturn, 1) := dk_172 (by decide +kernel)
theorem dX10_record_0 : decode cX10_record 0 = .ok (.aload_n 0, 1) := dk_42 (by decide +kernel)
theorem dX10_record_1 : decode cX10_record 1 = .ok (.iconst 0, 1) := dk_3 (by decide +kernel)
theorem dX10_record_2 : decode cX10_record 2 = .ok (.putfield 45, 3) := dk_181 (a := 0) (b := 45) (by decide +kernel) rfl
theorem dX10_record_5 : decode cX10_record 5 = .ok (.aload_n 0, 1) := dk_42 (by decide +kernel)
theorem dX10_record_6 : decode cX10_record 6 = .ok (.iconst 0, 1) := dk_3 (by decide +kernel)
theorem dX10_record_7 : decode cX10_record 7 = .ok (.putfield 49, 3) := dk_181 (a := 0) (b := 49) (by decide +kernel) rfl
theorem dX10_record_10 : decode cX10_record 10 = .ok (.aload_n 0, 1) := dk_42 (by decide +kernel)
theorem dX10_record_11 : decode cX10_record 11 = .ok (.iconst 0, 1) := dk_3 (by decide +kernel)
theorem dX10_record_12 : decode cX10_record 12 = .ok (.putfield 52, 3) := dk_181 (a := 0) (b := 52) (by decide +kernel) rfl
theorem dX10_record_15 : decode cX10_record 15 = .ok (.aload_n 0, 1) := dk_42 (by decide +kernel)
theorem dX10_record_16 : decode cX10_record 16 = .ok (.aload_n 1, 1) := dk_43 (by decide +kernel)
theorem dX10_record_17 : decode cX10_record 17 = .ok (.aload_n 1, 1) := dk_43 (by decide +kernel)
theorem dX10_record_18 : decode cX10_record 18 = .ok (.getfield 55, 3) := dk_180 (a := 0) (b := 55) (by decide +kernel) rfl
theorem dX10_record_21 : decode cX10_record 21 = .ok (.invokevirtual 61, 3) := dk_182 (a := 0) (b := 61) (by decide +kernel) rfl
theorem dX10_record_24 : decode cX10_record 24 = .ok (.aload_n 0, 1) := dk_42 (by decide +kernel)
theorem dX10_record_25 : decode cX10_record 25 = .ok (.aload_n 1, 1) := dk_43 (by decide +kernel)
theorem dX10_record_26 : decode cX10_record 26 = .ok (.invokevirtual 65, 3) := dk_182 (a := 0) (b := 65) (by decide +kernel) rfl
theorem dX10_record_29 : decode cX10_record 29 = .ok (.aload_n 0, 1) := dk_42 (by decide +kernel)
theorem dX10_record_30 : decode cX10_record 30 = .ok (.aload_n 0, 1) := dk_42 (by decide +kernel)
theorem dX10_record_31 : decode cX10_record 31 = .ok (.aload_n 1, 1) := dk_43 (by decide +kernel)
theorem dX10_record_32 : decode cX10_record 32 = .ok (.invokevirtual 69, 3) := dk_182 (a := 0) (b := 69) (by decide +kernel) rfl
theorem dX10_record_35 : decode cX10_record 35 = .ok (.putfield 73, 3) := dk_181 (a := 0) (b := 73) (by decide +kernel) rfl
theorem dX10_record_38 : decode cX10_record 38 = .ok (.aload_n 0, 1) := dk_42 (by decide +kernel)
theorem dX10_record_39 : decode cX10_record 39 = .ok (.aload_n 1, 1) := dk_43 (by decide +kernel)
theorem dX10_record_40 : decode cX10_record 40 = .ok (.getfield 76, 3) := dk_180 (a := 0) (b := 76) (by decide +kernel) rfl
theorem dX10_record_43 : decode cX10_record 43 = .ok (.putfield 79, 3) := dk_181 (a := 0) (b := 79) (by decide +kernel) rfl
theorem dX10_record_46 : decode cX10_record 46 = .ok (.aload_n 0, 1) := dk_42 (by decide +kernel)
theorem dX10_record_47 : decode cX10_record 47 = .ok (.aload_n 1, 1) := dk_43 (by decide +kernel)
theorem dX10_record_48 : decode cX10_record 48 = .ok (.getfield 82, 3) := dk_180 (a := 0) (b := 82) (by decide +kernel) rfl
theorem dX10_record_51 : decode cX10_record 51 = .ok (.putfield 85, 3) := dk_181 (a := 0) (b := 85) (by decide +kernel) rfl
theorem dX10_record_54 : decode cX10_record 54 = .ok (.return_, 1) := dk_177 (by decide +kernel)
theorem dX10_latestThread_0 : decode cX10_latestThread 0 = .ok (.aload_n 0, 1) := dk_42 (by decide +kernel)
theorem dX10_latestThread_1 : decode cX10_latestThread 1 = .ok (.getfield 45, 3) := dk_180 (a := 0) (b := 45) (by decide +kernel) rfl
theorem dX10_latestThread_4 : decode cX10_latestThread 4 = .ok (.ifCond .le 25, 3) := dk_158 (a := 0) (b := 25) (by decide +kernel) rfl
theorem dX10_latestThread_7 : decode cX10_latestThread 7 = .ok (.aload_n 0, 1) := dk_42 (by decide +kernel)
theorem dX10_latestThread_8 : decode cX10_latestThread 8 = .ok (.getfield 45, 3) := dk_180 (a := 0) (b := 45) (by decide +kernel) rfl
theorem dX10_latestThread_11 : decode cX10_latestThread 11 = .ok (.sipush 300, 3) := dk_17 (a := 1) (b := 44) (by decide +kernel) rfl
theorem dX10_latestThread_14 : decode cX10_latestThread 14 = .ok (.if_icmp .gt 15, 3) := dk_163 (a := 0) (b := 15) (by decide +kernel) rfl
theorem dX10_latestThread_17 : decode cX10_latestThread 17 = .ok (.aload_n 0, 1) := dk_42 (by decide +kernel)
theorem dX10_latestThread_18 : decode cX10_latestThread 18 = .ok (.getfield 9, 3) := dk_180 (a := 0) (b := 9) (by decide +kernel) rfl
theorem dX10_latestThread_21 : decode cX10_latestThread 21 = .ok (.aload_n 0, 1) := dk_42 (by decide +kernel)
theorem dX10_latestThread_22 : decode cX10_latestThread 22 = .ok (.getfield 45, 3) := dk_180 (a := 0) (b := 45) (by decide +kernel) rfl
theorem dX10_latestThread_25 : decode cX10_latestThread 25 = .ok (.iaload, 1) := dk_46 (by decide +kernel)
theorem dX10_latestThread_26 : decode cX10_latestThread 26 = .ok (.goto 4, 3) := dk_167 (a := 0) (b := 4) (by decide +kernel) rfl
theorem dX10_latestThread_29 : decode cX10_latestThread 29 = .ok (.iconst 0, 1) := dk_3 (by decide +kernel)
theorem dX10_latestThread_30 : decode cX10_latestThread 30 = .ok (.ireturn, 1) := dk_172 (by decide +kernel)
theorem dX10_takeTurns_0 : decode cX10_takeTurns 0 = .ok (.iconst 0, 1) := dk_3 (by decide +kernel)
theorem dX10_takeTurns_1 : decode cX10_takeTurns 1 = .ok (.istore_n 3, 1) := dk_62 (by decide +kernel)
theorem dX10_takeTurns_2 : decode cX10_takeTurns 2 = .ok (.iload_n 3, 1) := dk_29 (by decide +kernel)
theorem dX10_takeTurns_3 : decode cX10_takeTurns 3 = .ok (.aload_n 2, 1) := dk_44 (by decide +kernel)
theorem dX10_takeTurns_4 : decode cX10_takeTurns 4 = .ok (.getfield 86, 3) := dk_180 (a := 0) (b := 86) (by decide +kernel) rfl
theorem dX10_takeTurns_7 : decode cX10_takeTurns 7 = .ok (.if_icmp .ge 60, 3) := dk_162 (a := 0) (b := 60) (by decide +kernel) rfl
theorem dX10_takeTurns_10 : decode cX10_takeTurns 10 = .ok (.iload_n 3, 1) := dk_29 (by decide +kernel)
theorem dX10_takeTurns_11 : decode cX10_takeTurns 11 = .ok (.bipush 40, 2) := dk_16 (a := 40) (by decide +kernel) rfl
theorem dX10_takeTurns_13 : decode cX10_takeTurns 13 = .ok (.if_icmp .ge 54, 3) := dk_162 (a := 0) (b := 54) (by decide +kernel) rfl
theorem dX10_takeTurns_16 : decode cX10_takeTurns 16 = .ok (.aload_n 2, 1) := dk_44 (by decide +kernel)
theorem dX10_takeTurns_17 : decode cX10_takeTurns 17 = .ok (.getfield 91, 3) := dk_180 (a := 0) (b := 91) (by decide +kernel) rfl
theorem dX10_takeTurns_20 : decode cX10_takeTurns 20 = .ok (.iload_n 3, 1) := dk_29 (by decide +kernel)
theorem dX10_takeTurns_21 : decode cX10_takeTurns 21 = .ok (.iaload, 1) := dk_46 (by decide +kernel)
theorem dX10_takeTurns_22 : decode cX10_takeTurns 22 = .ok (.istore 4, 2) := dk_54 (by decide +kernel)
theorem dX10_takeTurns_24 : decode cX10_takeTurns 24 = .ok (.iconst 1, 1) := dk_4 (by decide +kernel)
theorem dX10_takeTurns_25 : decode cX10_takeTurns 25 = .ok (.istore 5, 2) := dk_54 (by decide +kernel)
theorem dX10_takeTurns_27 : decode cX10_takeTurns 27 = .ok (.iconst 0, 1) := dk_3 (by decide +kernel)
theorem dX10_takeTurns_28 : decode cX10_takeTurns 28 = .ok (.istore 6, 2) := dk_54 (by decide +kernel)
theorem dX10_takeTurns_30 : decode cX10_takeTurns 30 = .ok (.iload 6, 2) := dk_21 (by decide +kernel)
theorem dX10_takeTurns_32 : decode cX10_takeTurns 32 = .ok (.aload_n 2, 1) := dk_44 (by decide +kernel)
theorem dX10_takeTurns_33 : decode cX10_takeTurns 33 = .ok (.getfield 94, 3) := dk_180 (a := 0) (b := 94) (by decide +kernel) rfl
theorem dX10_takeTurns_36 : decode cX10_takeTurns 36 = .ok (.iload_n 3, 1) := dk_29 (by decide +kernel)
theorem dX10_takeTurns_37 : decode cX10_takeTurns 37 = .ok (.iaload, 1) := dk_46 (by decide +kernel)
theorem dX10_takeTurns_38 : decode cX10_takeTurns 38 = .ok (.if_icmp .ge 23, 3) := dk_162 (a := 0) (b := 23) (by decide +kernel) rfl
theorem dX10_takeTurns_41 : decode cX10_takeTurns 41 = .ok (.iload 5, 2) := dk_21 (by decide +kernel)
theorem dX10_takeTurns_43 : decode cX10_takeTurns 43 = .ok (.ifCond .eq 18, 3) := dk_153 (a := 0) (b := 18) (by decide +kernel) rfl
theorem dX10_takeTurns_46 : decode cX10_takeTurns 46 = .ok (.aload_n 0, 1) := dk_42 (by decide +kernel)
theorem dX10_takeTurns_47 : decode cX10_takeTurns 47 = .ok (.aload_n 1, 1) := dk_43 (by decide +kernel)
theorem dX10_takeTurns_48 : decode cX10_takeTurns 48 = .ok (.iload 4, 2) := dk_21 (by decide +kernel)
theorem dX10_takeTurns_50 : decode cX10_takeTurns 50 = .ok (.invokevirtual 97, 3) := dk_182 (a := 0) (b := 97) (by decide +kernel) rfl
theorem dX10_takeTurns_53 : decode cX10_takeTurns 53 = .ok (.istore 5, 2) := dk_54 (by decide +kernel)
theorem dX10_takeTurns_55 : decode cX10_takeTurns 55 = .ok (.iinc 6 1, 3) := dk_132 (b := 1) (by decide +kernel) rfl
theorem dX10_takeTurns_58 : decode cX10_takeTurns 58 = .ok (.goto (-28), 3) := dk_167 (a := 255) (b := 228) (by decide +kernel) rfl
theorem dX10_takeTurns_61 : decode cX10_takeTurns 61 = .ok (.iinc 3 1, 3) := dk_132 (b := 1) (by decide +kernel) rfl
theorem dX10_takeTurns_64 : decode cX10_takeTurns 64 = .ok (.goto (-62), 3) := dk_167 (a := 255) (b := 194) (by decide +kernel) rfl
theorem dX10_takeTurns_67 : decode cX10_takeTurns 67 = .ok (.return_, 1) := dk_177 (by decide +kernel)
theorem dX10_goOn_0 : decode cX10_goOn 0 = .ok (.iconst 1, 1) := dk_4 (by decide +kernel)
theorem dX10_goOn_1 : decode cX10_goOn 1 = .ok (.istore_n 2, 1) := dk_61 (by decide +kernel)
theorem dX10_goOn_2 : decode cX10_goOn 2 = .ok (.iconst 0, 1) := dk_3 (by decide +kernel)
theorem dX10_goOn_3 : decode cX10_goOn 3 = .ok (.istore_n 3, 1) := dk_62 (by decide +kernel)
theorem dX10_goOn_4 : decode cX10_goOn 4 = .ok (.iload_n 3, 1) := dk_29 (by decide +kernel)
theorem dX10_goOn_5 : decode cX10_goOn 5 = .ok (.sipush 300, 3) := dk_17 (a := 1) (b := 44) (by decide +kernel) rfl
theorem dX10_goOn_8 : decode cX10_goOn 8 = .ok (.if_icmp .ge 44, 3) := dk_162 (a := 0) (b := 44) (by decide +kernel) rfl
theorem dX10_goOn_11 : decode cX10_goOn 11 = .ok (.iload_n 2, 1) := dk_28 (by decide +kernel)
theorem dX10_goOn_12 : decode cX10_goOn 12 = .ok (.ifCond .eq 40, 3) := dk_153 (a := 0) (b := 40) (by decide +kernel) rfl
theorem dX10_goOn_15 : decode cX10_goOn 15 = .ok (.aload_n 1, 1) := dk_43 (by decide +kernel)
theorem dX10_goOn_16 : decode cX10_goOn 16 = .ok (.aload_n 0, 1) := dk_42 (by decide +kernel)
theorem dX10_goOn_17 : decode cX10_goOn 17 = .ok (.invokevirtual 101, 3) := dk_182 (a := 0) (b := 101) (by decide +kernel) rfl
theorem dX10_goOn_20 : decode cX10_goOn 20 = .ok (.invokevirtual 105, 3) := dk_182 (a := 0) (b := 105) (by decide +kernel) rfl
theorem dX10_goOn_23 : decode cX10_goOn 23 = .ok (.istore 4, 2) := dk_54 (by decide +kernel)
theorem dX10_goOn_25 : decode cX10_goOn 25 = .ok (.iload 4, 2) := dk_21 (by decide +kernel)
theorem dX10_goOn_27 : decode cX10_goOn 27 = .ok (.ifCond .lt 17, 3) := dk_155 (a := 0) (b := 17) (by decide +kernel) rfl
theorem dX10_goOn_30 : decode cX10_goOn 30 = .ok (.aload_n 0, 1) := dk_42 (by decide +kernel)
theorem dX10_goOn_31 : decode cX10_goOn 31 = .ok (.aload_n 1, 1) := dk_43 (by decide +kernel)
theorem dX10_goOn_32 : decode cX10_goOn 32 = .ok (.iload 4, 2) := dk_21 (by decide +kernel)
theorem dX10_goOn_34 : decode cX10_goOn 34 = .ok (.invokevirtual 97, 3) := dk_182 (a := 0) (b := 97) (by decide +kernel) rfl
theorem dX10_goOn_37 : decode cX10_goOn 37 = .ok (.ifCond .eq 7, 3) := dk_153 (a := 0) (b := 7) (by decide +kernel) rfl
theorem dX10_goOn_40 : decode cX10_goOn 40 = .ok (.iconst 1, 1) := dk_4 (by decide +kernel)
theorem dX10_goOn_41 : decode cX10_goOn 41 = .ok (.goto 4, 3) := dk_167 (a := 0) (b := 4) (by decide +kernel) rfl
theorem dX10_goOn_44 : decode cX10_goOn 44 = .ok (.iconst 0, 1) := dk_3 (by decide +kernel)
theorem dX10_goOn_45 : decode cX10_goOn 45 = .ok (.istore_n 2, 1) := dk_61 (by decide +kernel)
theorem dX10_goOn_46 : decode cX10_goOn 46 = .ok (.iinc 3 1, 3) := dk_132 (b := 1) (by decide +kernel) rfl
theorem dX10_goOn_49 : decode cX10_goOn 49 = .ok (.goto (-45), 3) := dk_167 (a := 255) (b := 211) (by decide +kernel) rfl
theorem dX10_goOn_52 : decode cX10_goOn 52 = .ok (.return_, 1) := dk_177 (by decide +kernel)
theorem dX10_advance_0 : decode cX10_advance 0 = .ok (.aload_n 0, 1) := dk_42 (by decide +kernel)
theorem dX10_advance_1 : decode cX10_advance 1 = .ok (.getfield 52, 3) := dk_180 (a := 0) (b := 52) (by decide +kernel) rfl
theorem dX10_advance_4 : decode cX10_advance 4 = .ok (.ifCond .ne 13, 3) := dk_154 (a := 0) (b := 13) (by decide +kernel) rfl
theorem dX10_advance_7 : decode cX10_advance 7 = .ok (.aload_n 0, 1) := dk_42 (by decide +kernel)
theorem dX10_advance_8 : decode cX10_advance 8 = .ok (.getfield 45, 3) := dk_180 (a := 0) (b := 45) (by decide +kernel) rfl
theorem dX10_advance_11 : decode cX10_advance 11 = .ok (.sipush 300, 3) := dk_17 (a := 1) (b := 44) (by decide +kernel) rfl
theorem dX10_advance_14 : decode cX10_advance 14 = .ok (.if_icmp .lt 5, 3) := dk_161 (a := 0) (b := 5) (by decide +kernel) rfl
theorem dX10_advance_17 : decode cX10_advance 17 = .ok (.iconst 0, 1) := dk_3 (by decide +kernel)
theorem dX10_advance_18 : decode cX10_advance 18 = .ok (.ireturn, 1) := dk_172 (by decide +kernel)
theorem dX10_advance_19 : decode cX10_advance 19 = .ok (.aload_n 1, 1) := dk_43 (by decide +kernel)
theorem dX10_advance_20 : decode cX10_advance 20 = .ok (.iload_n 2, 1) := dk_28 (by decide +kernel)
theorem dX10_advance_21 : decode cX10_advance 21 = .ok (.invokevirtual 109, 3) := dk_182 (a := 0) (b := 109) (by decide +kernel) rfl
theorem dX10_advance_24 : decode cX10_advance 24 = .ok (.istore_n 3, 1) := dk_62 (by decide +kernel)
theorem dX10_advance_25 : decode cX10_advance 25 = .ok (.aload_n 1, 1) := dk_43 (by decide +kernel)
theorem dX10_advance_26 : decode cX10_advance 26 = .ok (.iload_n 2, 1) := dk_28 (by decide +kernel)
theorem dX10_advance_27 : decode cX10_advance 27 = .ok (.invokevirtual 112, 3) := dk_182 (a := 0) (b := 112) (by decide +kernel) rfl
theorem dX10_advance_30 : decode cX10_advance 30 = .ok (.istore 4, 2) := dk_54 (by decide +kernel)
theorem dX10_advance_32 : decode cX10_advance 32 = .ok (.iload 4, 2) := dk_21 (by decide +kernel)
theorem dX10_advance_34 : decode cX10_advance 34 = .ok (.iconst (-1), 1) := dk_2 (by decide +kernel)
theorem dX10_advance_35 : decode cX10_advance 35 = .ok (.if_icmp .ne 5, 3) := dk_160 (a := 0) (b := 5) (by decide +kernel) rfl
theorem dX10_advance_38 : decode cX10_advance 38 = .ok (.iconst 0, 1) := dk_3 (by decide +kernel)
theorem dX10_advance_39 : decode cX10_advance 39 = .ok (.ireturn, 1) := dk_172 (by decide +kernel)
theorem dX10_advance_40 : decode cX10_advance 40 = .ok (.aload_n 0, 1) := dk_42 (by decide +kernel)
theorem dX10_advance_41 : decode cX10_advance 41 = .ok (.iload 4, 2) := dk_21 (by decide +kernel)
theorem dX10_advance_43 : decode cX10_advance 43 = .ok (.putfield 52, 3) := dk_181 (a := 0) (b := 52) (by decide +kernel) rfl
theorem dX10_advance_46 : decode cX10_advance 46 = .ok (.aload_n 0, 1) := dk_42 (by decide +kernel)
theorem dX10_advance_47 : decode cX10_advance 47 = .ok (.iload_n 2, 1) := dk_28 (by decide +kernel)
theorem dX10_advance_48 : decode cX10_advance 48 = .ok (.invokevirtual 115, 3) := dk_182 (a := 0) (b := 115) (by decide +kernel) rfl
theorem dX10_advance_51 : decode cX10_advance 51 = .ok (.aload_n 0, 1) := dk_42 (by decide +kernel)
theorem dX10_advance_52 : decode cX10_advance 52 = .ok (.dup, 1) := dk_89 (by decide +kernel)
theorem dX10_advance_53 : decode cX10_advance 53 = .ok (.getfield 45, 3) := dk_180 (a := 0) (b := 45) (by decide +kernel) rfl
theorem dX10_advance_56 : decode cX10_advance 56 = .ok (.iconst 1, 1) := dk_4 (by decide +kernel)
theorem dX10_advance_57 : decode cX10_advance 57 = .ok (.iadd, 1) := dk_96 (by decide +kernel)
theorem dX10_advance_58 : decode cX10_advance 58 = .ok (.putfield 45, 3) := dk_181 (a := 0) (b := 45) (by decide +kernel) rfl
theorem dX10_advance_61 : decode cX10_advance 61 = .ok (.aload_n 0, 1) := dk_42 (by decide +kernel)
theorem dX10_advance_62 : decode cX10_advance 62 = .ok (.getfield 9, 3) := dk_180 (a := 0) (b := 9) (by decide +kernel) rfl
theorem dX10_advance_65 : decode cX10_advance 65 = .ok (.aload_n 0, 1) := dk_42 (by decide +kernel)
theorem dX10_advance_66 : decode cX10_advance 66 = .ok (.getfield 45, 3) := dk_180 (a := 0) (b := 45) (by decide +kernel) rfl
theorem dX10_advance_69 : decode cX10_advance 69 = .ok (.iload_n 2, 1) := dk_28 (by decide +kernel)
theorem dX10_advance_70 : decode cX10_advance 70 = .ok (.iastore, 1) := dk_79 (by decide +kernel)
theorem dX10_advance_71 : decode cX10_advance 71 = .ok (.aload_n 0, 1) := dk_42 (by decide +kernel)
theorem dX10_advance_72 : decode cX10_advance 72 = .ok (.getfield 15, 3) := dk_180 (a := 0) (b := 15) (by decide +kernel) rfl
theorem dX10_advance_75 : decode cX10_advance 75 = .ok (.aload_n 0, 1) := dk_42 (by decide +kernel)
theorem dX10_advance_76 : decode cX10_advance 76 = .ok (.getfield 45, 3) := dk_180 (a := 0) (b := 45) (by decide +kernel) rfl
theorem dX10_advance_79 : decode cX10_advance 79 = .ok (.iload_n 3, 1) := dk_29 (by decide +kernel)
theorem dX10_advance_80 : decode cX10_advance 80 = .ok (.iastore, 1) := dk_79 (by decide +kernel)
theorem dX10_advance_81 : decode cX10_advance 81 = .ok (.aload_n 0, 1) := dk_42 (by decide +kernel)
theorem dX10_advance_82 : decode cX10_advance 82 = .ok (.getfield 18, 3) := dk_180 (a := 0) (b := 18) (by decide +kernel) rfl
theorem dX10_advance_85 : decode cX10_advance 85 = .ok (.aload_n 0, 1) := dk_42 (by decide +kernel)
theorem dX10_advance_86 : decode cX10_advance 86 = .ok (.getfield 45, 3) := dk_180 (a := 0) (b := 45) (by decide +kernel) rfl
theorem dX10_advance_89 : decode cX10_advance 89 = .ok (.aload_n 1, 1) := dk_43 (by decide +kernel)
theorem dX10_advance_90 : decode cX10_advance 90 = .ok (.getfield 55, 3) := dk_180 (a := 0) (b := 55) (by decide +kernel) rfl
theorem dX10_advance_93 : decode cX10_advance 93 = .ok (.iload_n 2, 1) := dk_28 (by decide +kernel)
theorem dX10_advance_94 : decode cX10_advance 94 = .ok (.iload_n 3, 1) := dk_29 (by decide +kernel)
theorem dX10_advance_95 : decode cX10_advance 95 = .ok (.invokevirtual 119, 3) := dk_182 (a := 0) (b := 119) (by decide +kernel) rfl
theorem dX10_advance_98 : decode cX10_advance 98 = .ok (.iastore, 1) := dk_79 (by decide +kernel)
theorem dX10_advance_99 : decode cX10_advance 99 = .ok (.aload_n 0, 1) := dk_42 (by decide +kernel)
theorem dX10_advance_100 : decode cX10_advance 100 = .ok (.aload_n 1, 1) := dk_43 (by decide +kernel)
theorem dX10_advance_101 : decode cX10_advance 101 = .ok (.invokevirtual 123, 3) := dk_182 (a := 0) (b := 123) (by decide +kernel) rfl
theorem dX10_advance_104 : decode cX10_advance 104 = .ok (.iconst 1, 1) := dk_4 (by decide +kernel)
theorem dX10_advance_105 : decode cX10_advance 105 = .ok (.ireturn, 1) := dk_172 (by decide +kernel)
theorem dX10_noteChange_0 : decode cX10_noteChange 0 = .ok (.iload_n 1, 1) := dk_27 (by decide +kernel)
theorem dX10_noteChange_1 : decode cX10_noteChange 1 = .ok (.aload_n 0, 1) := dk_42 (by decide +kernel)
theorem dX10_noteChange_2 : decode cX10_noteChange 2 = .ok (.invokevirtual 101, 3) := dk_182 (a := 0) (b := 101) (by decide +kernel) rfl
theorem dX10_noteChange_5 : decode cX10_noteChange 5 = .ok (.if_icmp .eq 36, 3) := dk_159 (a := 0) (b := 36) (by decide +kernel) rfl
theorem dX10_noteChange_8 : decode cX10_noteChange 8 = .ok (.aload_n 0, 1) := dk_42 (by decide +kernel)
theorem dX10_noteChange_9 : decode cX10_noteChange 9 = .ok (.getfield 39, 3) := dk_180 (a := 0) (b := 39) (by decide +kernel) rfl
theorem dX10_noteChange_12 : decode cX10_noteChange 12 = .ok (.aload_n 0, 1) := dk_42 (by decide +kernel)
theorem dX10_noteChange_13 : decode cX10_noteChange 13 = .ok (.getfield 49, 3) := dk_180 (a := 0) (b := 49) (by decide +kernel) rfl
theorem dX10_noteChange_16 : decode cX10_noteChange 16 = .ok (.aload_n 0, 1) := dk_42 (by decide +kernel)
theorem dX10_noteChange_17 : decode cX10_noteChange 17 = .ok (.getfield 45, 3) := dk_180 (a := 0) (b := 45) (by decide +kernel) rfl
theorem dX10_noteChange_20 : decode cX10_noteChange 20 = .ok (.iastore, 1) := dk_79 (by decide +kernel)
theorem dX10_noteChange_21 : decode cX10_noteChange 21 = .ok (.aload_n 0, 1) := dk_42 (by decide +kernel)
theorem dX10_noteChange_22 : decode cX10_noteChange 22 = .ok (.getfield 42, 3) := dk_180 (a := 0) (b := 42) (by decide +kernel) rfl
theorem dX10_noteChange_25 : decode cX10_noteChange 25 = .ok (.aload_n 0, 1) := dk_42 (by decide +kernel)
theorem dX10_noteChange_26 : decode cX10_noteChange 26 = .ok (.getfield 49, 3) := dk_180 (a := 0) (b := 49) (by decide +kernel) rfl
theorem dX10_noteChange_29 : decode cX10_noteChange 29 = .ok (.iload_n 1, 1) := dk_27 (by decide +kernel)
theorem dX10_noteChange_30 : decode cX10_noteChange 30 = .ok (.iastore, 1) := dk_79 (by decide +kernel)
theorem dX10_noteChange_31 : decode cX10_noteChange 31 = .ok (.aload_n 0, 1) := dk_42 (by decide +kernel)
theorem dX10_noteChange_32 : decode cX10_noteChange 32 = .ok (.dup, 1) := dk_89 (by decide +kernel)
theorem dX10_noteChange_33 : decode cX10_noteChange 33 = .ok (.getfield 49, 3) := dk_180 (a := 0) (b := 49) (by decide +kernel) rfl
theorem dX10_noteChange_36 : decode cX10_noteChange 36 = .ok (.iconst 1, 1) := dk_4 (by decide +kernel)
theorem dX10_noteChange_37 : decode cX10_noteChange 37 = .ok (.iadd, 1) := dk_96 (by decide +kernel)
theorem dX10_noteChange_38 : decode cX10_noteChange 38 = .ok (.putfield 49, 3) := dk_181 (a := 0) (b := 49) (by decide +kernel) rfl
theorem dX10_noteChange_41 : decode cX10_noteChange 41 = .ok (.return_, 1) := dk_177 (by decide +kernel)
theorem dX10_noteEffects_0 : decode cX10_noteEffects 0 = .ok (.aload_n 1, 1) := dk_43 (by decide +kernel)
theorem dX10_noteEffects_1 : decode cX10_noteEffects 1 = .ok (.getfield 126, 3) := dk_180 (a := 0) (b := 126) (by decide +kernel) rfl
theorem dX10_noteEffects_4 : decode cX10_noteEffects 4 = .ok (.istore_n 2, 1) := dk_61 (by decide +kernel)
theorem dX10_noteEffects_5 : decode cX10_noteEffects 5 = .ok (.aload_n 0, 1) := dk_42 (by decide +kernel)
theorem dX10_noteEffects_6 : decode cX10_noteEffects 6 = .ok (.getfield 21, 3) := dk_180 (a := 0) (b := 21) (by decide +kernel) rfl
theorem dX10_noteEffects_9 : decode cX10_noteEffects 9 = .ok (.aload_n 0, 1) := dk_42 (by decide +kernel)
theorem dX10_noteEffects_10 : decode cX10_noteEffects 10 = .ok (.getfield 45, 3) := dk_180 (a := 0) (b := 45) (by decide +kernel) rfl
theorem dX10_noteEffects_13 : decode cX10_noteEffects 13 = .ok (.aload_n 1, 1) := dk_43 (by decide +kernel)
theorem dX10_noteEffects_14 : decode cX10_noteEffects 14 = .ok (.getfield 129, 3) := dk_180 (a := 0) (b := 129) (by decide +kernel) rfl
theorem dX10_noteEffects_17 : decode cX10_noteEffects 17 = .ok (.iastore, 1) := dk_79 (by decide +kernel)
theorem dX10_noteEffects_18 : decode cX10_noteEffects 18 = .ok (.aload_n 0, 1) := dk_42 (by decide +kernel)
theorem dX10_noteEffects_19 : decode cX10_noteEffects 19 = .ok (.getfield 24, 3) := dk_180 (a := 0) (b := 24) (by decide +kernel) rfl
theorem dX10_noteEffects_22 : decode cX10_noteEffects 22 = .ok (.aload_n 0, 1) := dk_42 (by decide +kernel)
theorem dX10_noteEffects_23 : decode cX10_noteEffects 23 = .ok (.getfield 45, 3) := dk_180 (a := 0) (b := 45) (by decide +kernel) rfl
theorem dX10_noteEffects_26 : decode cX10_noteEffects 26 = .ok (.iload_n 2, 1) := dk_28 (by decide +kernel)
theorem dX10_noteEffects_27 : decode cX10_noteEffects 27 = .ok (.iastore, 1) := dk_79 (by decide +kernel)
theorem dX10_noteEffects_28 : decode cX10_noteEffects 28 = .ok (.iload_n 2, 1) := dk_28 (by decide +kernel)
theorem dX10_noteEffects_29 : decode cX10_noteEffects 29 = .ok (.ifCond .lt 39, 3) := dk_155 (a := 0) (b := 39) (by decide +kernel) rfl
theorem dX10_noteEffects_32 : decode cX10_noteEffects 32 = .ok (.iload_n 2, 1) := dk_28 (by decide +kernel)
theorem dX10_noteEffects_33 : decode cX10_noteEffects 33 = .ok (.bipush 12, 2) := dk_16 (a := 12) (by decide +kernel) rfl
theorem dX10_noteEffects_35 : decode cX10_noteEffects 35 = .ok (.if_icmp .ge 33, 3) := dk_162 (a := 0) (b := 33) (by decide +kernel) rfl
theorem dX10_noteEffects_38 : decode cX10_noteEffects 38 = .ok (.aload_n 0, 1) := dk_42 (by decide +kernel)
theorem dX10_noteEffects_39 : decode cX10_noteEffects 39 = .ok (.getfield 27, 3) := dk_180 (a := 0) (b := 27) (by decide +kernel) rfl
theorem dX10_noteEffects_42 : decode cX10_noteEffects 42 = .ok (.aload_n 0, 1) := dk_42 (by decide +kernel)
theorem dX10_noteEffects_43 : decode cX10_noteEffects 43 = .ok (.getfield 45, 3) := dk_180 (a := 0) (b := 45) (by decide +kernel) rfl
theorem dX10_noteEffects_46 : decode cX10_noteEffects 46 = .ok (.aload_n 1, 1) := dk_43 (by decide +kernel)
theorem dX10_noteEffects_47 : decode cX10_noteEffects 47 = .ok (.getfield 132, 3) := dk_180 (a := 0) (b := 132) (by decide +kernel) rfl
theorem dX10_noteEffects_50 : decode cX10_noteEffects 50 = .ok (.iload_n 2, 1) := dk_28 (by decide +kernel)
theorem dX10_noteEffects_51 : decode cX10_noteEffects 51 = .ok (.iaload, 1) := dk_46 (by decide +kernel)
theorem dX10_noteEffects_52 : decode cX10_noteEffects 52 = .ok (.iastore, 1) := dk_79 (by decide +kernel)
theorem dX10_noteEffects_53 : decode cX10_noteEffects 53 = .ok (.aload_n 0, 1) := dk_42 (by decide +kernel)
theorem dX10_noteEffects_54 : decode cX10_noteEffects 54 = .ok (.getfield 30, 3) := dk_180 (a := 0) (b := 30) (by decide +kernel) rfl
theorem dX10_noteEffects_57 : decode cX10_noteEffects 57 = .ok (.aload_n 0, 1) := dk_42 (by decide +kernel)
theorem dX10_noteEffects_58 : decode cX10_noteEffects 58 = .ok (.getfield 45, 3) := dk_180 (a := 0) (b := 45) (by decide +kernel) rfl
theorem dX10_noteEffects_61 : decode cX10_noteEffects 61 = .ok (.aload_n 1, 1) := dk_43 (by decide +kernel)
theorem dX10_noteEffects_62 : decode cX10_noteEffects 62 = .ok (.getfield 135, 3) := dk_180 (a := 0) (b := 135) (by decide +kernel) rfl
theorem dX10_noteEffects_65 : decode cX10_noteEffects 65 = .ok (.iload_n 2, 1) := dk_28 (by decide +kernel)
theorem dX10_noteEffects_66 : decode cX10_noteEffects 66 = .ok (.iaload, 1) := dk_46 (by decide +kernel)
theorem dX10_noteEffects_67 : decode cX10_noteEffects 67 = .ok (.iastore, 1) := dk_79 (by decide +kernel)
theorem dX10_noteEffects_68 : decode cX10_noteEffects 68 = .ok (.aload_n 0, 1) := dk_42 (by decide +kernel)
theorem dX10_noteEffects_69 : decode cX10_noteEffects 69 = .ok (.getfield 33, 3) := dk_180 (a := 0) (b := 33) (by decide +kernel) rfl
theorem dX10_noteEffects_72 : decode cX10_noteEffects 72 = .ok (.aload_n 0, 1) := dk_42 (by decide +kernel)
theorem dX10_noteEffects_73 : decode cX10_noteEffects 73 = .ok (.getfield 45, 3) := dk_180 (a := 0) (b := 45) (by decide +kernel) rfl
theorem dX10_noteEffects_76 : decode cX10_noteEffects 76 = .ok (.aload_n 1, 1) := dk_43 (by decide +kernel)
theorem dX10_noteEffects_77 : decode cX10_noteEffects 77 = .ok (.getfield 138, 3) := dk_180 (a := 0) (b := 138) (by decide +kernel) rfl
theorem dX10_noteEffects_80 : decode cX10_noteEffects 80 = .ok (.iastore, 1) := dk_79 (by decide +kernel)
theorem dX10_noteEffects_81 : decode cX10_noteEffects 81 = .ok (.aload_n 0, 1) := dk_42 (by decide +kernel)
theorem dX10_noteEffects_82 : decode cX10_noteEffects 82 = .ok (.getfield 36, 3) := dk_180 (a := 0) (b := 36) (by decide +kernel) rfl
theorem dX10_noteEffects_85 : decode cX10_noteEffects 85 = .ok (.aload_n 0, 1) := dk_42 (by decide +kernel)
theorem dX10_noteEffects_86 : decode cX10_noteEffects 86 = .ok (.getfield 45, 3) := dk_180 (a := 0) (b := 45) (by decide +kernel) rfl
theorem dX10_noteEffects_89 : decode cX10_noteEffects 89 = .ok (.aload_n 1, 1) := dk_43 (by decide +kernel)
theorem dX10_noteEffects_90 : decode cX10_noteEffects 90 = .ok (.getfield 141, 3) := dk_180 (a := 0) (b := 141) (by decide +kernel) rfl
theorem dX10_noteEffects_93 : decode cX10_noteEffects 93 = .ok (.iastore, 1) := dk_79 (by decide +kernel)
theorem dX10_noteEffects_94 : decode cX10_noteEffects 94 = .ok (.return_, 1) := dk_177 (by decide +kernel)
theorem dX10_howOver_0 : decode cX10_howOver 0 = .ok (.aload_n 0, 1) := dk_42 (by decide +kernel)
theorem dX10_howOver_1 : decode cX10_howOver 1 = .ok (.getfield 52, 3) := dk_180 (a := 0) (b := 52) (by decide +kernel) rfl
theorem dX10_howOver_4 : decode cX10_howOver 4 = .ok (.ifCond .eq 5, 3) := dk_153 (a := 0) (b := 5) (by decide +kernel) rfl
theorem dX10_howOver_7 : decode cX10_howOver 7 = .ok (.iconst 2, 1) := dk_5 (by decide +kernel)
theorem dX10_howOver_8 : decode cX10_howOver 8 = .ok (.ireturn, 1) := dk_172 (by decide +kernel)
theorem dX10_howOver_9 : decode cX10_howOver 9 = .ok (.aload_n 1, 1) := dk_43 (by decide +kernel)
theorem dX10_howOver_10 : decode cX10_howOver 10 = .ok (.iconst 0, 1) := dk_3 (by decide +kernel)
theorem dX10_howOver_11 : decode cX10_howOver 11 = .ok (.invokevirtual 105, 3) := dk_182 (a := 0) (b := 105) (by decide +kernel) rfl
theorem dX10_howOver_14 : decode cX10_howOver 14 = .ok (.ifCond .lt 5, 3) := dk_155 (a := 0) (b := 5) (by decide +kernel) rfl
theorem dX10_howOver_17 : decode cX10_howOver 17 = .ok (.iconst 3, 1) := dk_6 (by decide +kernel)
theorem dX10_howOver_18 : decode cX10_howOver 18 = .ok (.ireturn, 1) := dk_172 (by decide +kernel)
theorem dX10_howOver_19 : decode cX10_howOver 19 = .ok (.aload_n 1, 1) := dk_43 (by decide +kernel)
theorem dX10_howOver_20 : decode cX10_howOver 20 = .ok (.invokevirtual 143, 3) := dk_182 (a := 0) (b := 143) (by decide +kernel) rfl
theorem dX10_howOver_23 : decode cX10_howOver 23 = .ok (.ifCond .eq 7, 3) := dk_153 (a := 0) (b := 7) (by decide +kernel) rfl
theorem dX10_howOver_26 : decode cX10_howOver 26 = .ok (.iconst 0, 1) := dk_3 (by decide +kernel)
theorem dX10_howOver_27 : decode cX10_howOver 27 = .ok (.goto 4, 3) := dk_167 (a := 0) (b := 4) (by decide +kernel) rfl
theorem dX10_howOver_30 : decode cX10_howOver 30 = .ok (.iconst 1, 1) := dk_4 (by decide +kernel)
theorem dX10_howOver_31 : decode cX10_howOver 31 = .ok (.ireturn, 1) := dk_172 (by decide +kernel)
theorem dX10_placeOf_0 : decode cX10_placeOf 0 = .ok (.aload_n 0, 1) := dk_42 (by decide +kernel)
theorem dX10_placeOf_1 : decode cX10_placeOf 1 = .ok (.getfield 21, 3) := dk_180 (a := 0) (b := 21) (by decide +kernel) rfl
theorem dX10_placeOf_4 : decode cX10_placeOf 4 = .ok (.iload_n 1, 1) := dk_27 (by decide +kernel)
theorem dX10_placeOf_5 : decode cX10_placeOf 5 = .ok (.iaload, 1) := dk_46 (by decide +kernel)
theorem dX10_placeOf_6 : decode cX10_placeOf 6 = .ok (.bipush (-2), 2) := dk_16 (a := 254) (by decide +kernel) rfl
theorem dX10_placeOf_8 : decode cX10_placeOf 8 = .ok (.if_icmp .eq 12, 3) := dk_159 (a := 0) (b := 12) (by decide +kernel) rfl
theorem dX10_placeOf_11 : decode cX10_placeOf 11 = .ok (.aload_n 0, 1) := dk_42 (by decide +kernel)
theorem dX10_placeOf_12 : decode cX10_placeOf 12 = .ok (.getfield 21, 3) := dk_180 (a := 0) (b := 21) (by decide +kernel) rfl
theorem dX10_placeOf_15 : decode cX10_placeOf 15 = .ok (.iload_n 1, 1) := dk_27 (by decide +kernel)
theorem dX10_placeOf_16 : decode cX10_placeOf 16 = .ok (.iaload, 1) := dk_46 (by decide +kernel)
theorem dX10_placeOf_17 : decode cX10_placeOf 17 = .ok (.goto 9, 3) := dk_167 (a := 0) (b := 9) (by decide +kernel) rfl
theorem dX10_placeOf_20 : decode cX10_placeOf 20 = .ok (.aload_n 0, 1) := dk_42 (by decide +kernel)
theorem dX10_placeOf_21 : decode cX10_placeOf 21 = .ok (.getfield 24, 3) := dk_180 (a := 0) (b := 24) (by decide +kernel) rfl
theorem dX10_placeOf_24 : decode cX10_placeOf 24 = .ok (.iload_n 1, 1) := dk_27 (by decide +kernel)
theorem dX10_placeOf_25 : decode cX10_placeOf 25 = .ok (.iaload, 1) := dk_46 (by decide +kernel)
theorem dX10_placeOf_26 : decode cX10_placeOf 26 = .ok (.ireturn, 1) := dk_172 (by decide +kernel)
theorem dX10_lastWrite_0 : decode cX10_lastWrite 0 = .ok (.iload_n 1, 1) := dk_27 (by decide +kernel)
theorem dX10_lastWrite_1 : decode cX10_lastWrite 1 = .ok (.bipush (-2), 2) := dk_16 (a := 254) (by decide +kernel) rfl
theorem dX10_lastWrite_3 : decode cX10_lastWrite 3 = .ok (.if_icmp .ne 5, 3) := dk_160 (a := 0) (b := 5) (by decide +kernel) rfl
theorem dX10_lastWrite_6 : decode cX10_lastWrite 6 = .ok (.iconst 0, 1) := dk_3 (by decide +kernel)
theorem dX10_lastWrite_7 : decode cX10_lastWrite 7 = .ok (.ireturn, 1) := dk_172 (by decide +kernel)
theorem dX10_lastWrite_8 : decode cX10_lastWrite 8 = .ok (.iload_n 2, 1) := dk_28 (by decide +kernel)
theorem dX10_lastWrite_9 : decode cX10_lastWrite 9 = .ok (.istore_n 3, 1) := dk_62 (by decide +kernel)
theorem dX10_lastWrite_10 : decode cX10_lastWrite 10 = .ok (.iload_n 3, 1) := dk_29 (by decide +kernel)
theorem dX10_lastWrite_11 : decode cX10_lastWrite 11 = .ok (.ifCond .le 21, 3) := dk_158 (a := 0) (b := 21) (by decide +kernel) rfl
theorem dX10_lastWrite_14 : decode cX10_lastWrite 14 = .ok (.aload_n 0, 1) := dk_42 (by decide +kernel)
theorem dX10_lastWrite_15 : decode cX10_lastWrite 15 = .ok (.getfield 24, 3) := dk_180 (a := 0) (b := 24) (by decide +kernel) rfl
theorem dX10_lastWrite_18 : decode cX10_lastWrite 18 = .ok (.iload_n 3, 1) := dk_29 (by decide +kernel)
theorem dX10_lastWrite_19 : decode cX10_lastWrite 19 = .ok (.iaload, 1) := dk_46 (by decide +kernel)
theorem dX10_lastWrite_20 : decode cX10_lastWrite 20 = .ok (.iload_n 1, 1) := dk_27 (by decide +kernel)
theorem dX10_lastWrite_21 : decode cX10_lastWrite 21 = .ok (.if_icmp .ne 5, 3) := dk_160 (a := 0) (b := 5) (by decide +kernel) rfl
theorem dX10_lastWrite_24 : decode cX10_lastWrite 24 = .ok (.iload_n 3, 1) := dk_29 (by decide +kernel)
theorem dX10_lastWrite_25 : decode cX10_lastWrite 25 = .ok (.ireturn, 1) := dk_172 (by decide +kernel)
theorem dX10_lastWrite_26 : decode cX10_lastWrite 26 = .ok (.iinc 3 (-1), 3) := dk_132 (b := 255) (by decide +kernel) rfl
theorem dX10_lastWrite_29 : decode cX10_lastWrite 29 = .ok (.goto (-19), 3) := dk_167 (a := 255) (b := 237) (by decide +kernel) rfl
theorem dX10_lastWrite_32 : decode cX10_lastWrite 32 = .ok (.iconst 0, 1) := dk_3 (by decide +kernel)
theorem dX10_lastWrite_33 : decode cX10_lastWrite 33 = .ok (.ireturn, 1) := dk_172 (by decide +kernel)
theorem dX10_nextRead_0 : decode cX10_nextRead 0 = .ok (.iload_n 1, 1) := dk_27 (by decide +kernel)
theorem dX10_nextRead_1 : decode cX10_nextRead 1 = .ok (.bipush (-2), 2) := dk_16 (a := 254) (by decide +kernel) rfl
theorem dX10_nextRead_3 : decode cX10_nextRead 3 = .ok (.if_icmp .ne 5, 3) := dk_160 (a := 0) (b := 5) (by decide +kernel) rfl
theorem dX10_nextRead_6 : decode cX10_nextRead 6 = .ok (.iconst 0, 1) := dk_3 (by decide +kernel)
theorem dX10_nextRead_7 : decode cX10_nextRead 7 = .ok (.ireturn, 1) := dk_172 (by decide +kernel)
theorem dX10_nextRead_8 : decode cX10_nextRead 8 = .ok (.iload_n 2, 1) := dk_28 (by decide +kernel)
theorem dX10_nextRead_9 : decode cX10_nextRead 9 = .ok (.iconst 1, 1) := dk_4 (by decide +kernel)
theorem dX10_nextRead_10 : decode cX10_nextRead 10 = .ok (.iadd, 1) := dk_96 (by decide +kernel)
theorem dX10_nextRead_11 : decode cX10_nextRead 11 = .ok (.istore_n 3, 1) := dk_62 (by decide +kernel)
theorem dX10_nextRead_12 : decode cX10_nextRead 12 = .ok (.iload_n 3, 1) := dk_29 (by decide +kernel)
theorem dX10_nextRead_13 : decode cX10_nextRead 13 = .ok (.aload_n 0, 1) := dk_42 (by decide +kernel)
theorem dX10_nextRead_14 : decode cX10_nextRead 14 = .ok (.getfield 45, 3) := dk_180 (a := 0) (b := 45) (by decide +kernel) rfl
theorem dX10_nextRead_17 : decode cX10_nextRead 17 = .ok (.if_icmp .gt 21, 3) := dk_163 (a := 0) (b := 21) (by decide +kernel) rfl
theorem dX10_nextRead_20 : decode cX10_nextRead 20 = .ok (.aload_n 0, 1) := dk_42 (by decide +kernel)
theorem dX10_nextRead_21 : decode cX10_nextRead 21 = .ok (.getfield 21, 3) := dk_180 (a := 0) (b := 21) (by decide +kernel) rfl
theorem dX10_nextRead_24 : decode cX10_nextRead 24 = .ok (.iload_n 3, 1) := dk_29 (by decide +kernel)
theorem dX10_nextRead_25 : decode cX10_nextRead 25 = .ok (.iaload, 1) := dk_46 (by decide +kernel)
theorem dX10_nextRead_26 : decode cX10_nextRead 26 = .ok (.iload_n 1, 1) := dk_27 (by decide +kernel)
theorem dX10_nextRead_27 : decode cX10_nextRead 27 = .ok (.if_icmp .ne 5, 3) := dk_160 (a := 0) (b := 5) (by decide +kernel) rfl
theorem dX10_nextRead_30 : decode cX10_nextRead 30 = .ok (.iload_n 3, 1) := dk_29 (by decide +kernel)
theorem dX10_nextRead_31 : decode cX10_nextRead 31 = .ok (.ireturn, 1) := dk_172 (by decide +kernel)
theorem dX10_nextRead_32 : decode cX10_nextRead 32 = .ok (.iinc 3 1, 3) := dk_132 (b := 1) (by decide +kernel) rfl
theorem dX10_nextRead_35 : decode cX10_nextRead 35 = .ok (.goto (-23), 3) := dk_167 (a := 255) (b := 233) (by decide +kernel) rfl
theorem dX10_nextRead_38 : decode cX10_nextRead 38 = .ok (.iconst 0, 1) := dk_3 (by decide +kernel)
theorem dX10_nextRead_39 : decode cX10_nextRead 39 = .ok (.ireturn, 1) := dk_172 (by decide +kernel)
theorem dX10_spanCount_0 : decode cX10_spanCount 0 = .ok (.iconst 0, 1) := dk_3 (by decide +kernel)
theorem dX10_spanCount_1 : decode cX10_spanCount 1 = .ok (.istore 4, 2) := dk_54 (by decide +kernel)
theorem dX10_spanCount_3 : decode cX10_spanCount 3 = .ok (.iconst 0, 1) := dk_3 (by decide +kernel)
theorem dX10_spanCount_4 : decode cX10_spanCount 4 = .ok (.istore 5, 2) := dk_54 (by decide +kernel)
theorem dX10_spanCount_6 : decode cX10_spanCount 6 = .ok (.iload_n 3, 1) := dk_29 (by decide +kernel)
theorem dX10_spanCount_7 : decode cX10_spanCount 7 = .ok (.iload_n 2, 1) := dk_28 (by decide +kernel)
theorem dX10_spanCount_8 : decode cX10_spanCount 8 = .ok (.if_icmp .ne 7, 3) := dk_160 (a := 0) (b := 7) (by decide +kernel) rfl
theorem dX10_spanCount_11 : decode cX10_spanCount 11 = .ok (.iconst 1, 1) := dk_4 (by decide +kernel)
theorem dX10_spanCount_12 : decode cX10_spanCount 12 = .ok (.goto 4, 3) := dk_167 (a := 0) (b := 4) (by decide +kernel) rfl
theorem dX10_spanCount_15 : decode cX10_spanCount 15 = .ok (.iconst 0, 1) := dk_3 (by decide +kernel)
theorem dX10_spanCount_16 : decode cX10_spanCount 16 = .ok (.istore 6, 2) := dk_54 (by decide +kernel)
theorem dX10_spanCount_18 : decode cX10_spanCount 18 = .ok (.iconst 0, 1) := dk_3 (by decide +kernel)
theorem dX10_spanCount_19 : decode cX10_spanCount 19 = .ok (.istore 7, 2) := dk_54 (by decide +kernel)
theorem dX10_spanCount_21 : decode cX10_spanCount 21 = .ok (.iload 7, 2) := dk_21 (by decide +kernel)
theorem dX10_spanCount_23 : decode cX10_spanCount 23 = .ok (.aload_n 0, 1) := dk_42 (by decide +kernel)
theorem dX10_spanCount_24 : decode cX10_spanCount 24 = .ok (.getfield 45, 3) := dk_180 (a := 0) (b := 45) (by decide +kernel) rfl
theorem dX10_spanCount_27 : decode cX10_spanCount 27 = .ok (.if_icmp .gt 38, 3) := dk_163 (a := 0) (b := 38) (by decide +kernel) rfl
theorem dX10_spanCount_30 : decode cX10_spanCount 30 = .ok (.aload_n 0, 1) := dk_42 (by decide +kernel)
theorem dX10_spanCount_31 : decode cX10_spanCount 31 = .ok (.iload 7, 2) := dk_21 (by decide +kernel)
theorem dX10_spanCount_33 : decode cX10_spanCount 33 = .ok (.iload_n 1, 1) := dk_27 (by decide +kernel)
theorem dX10_spanCount_34 : decode cX10_spanCount 34 = .ok (.iload_n 2, 1) := dk_28 (by decide +kernel)
theorem dX10_spanCount_35 : decode cX10_spanCount 35 = .ok (.iload 6, 2) := dk_21 (by decide +kernel)
theorem dX10_spanCount_37 : decode cX10_spanCount 37 = .ok (.invokevirtual 147, 3) := dk_182 (a := 0) (b := 147) (by decide +kernel) rfl
theorem dX10_spanCount_40 : decode cX10_spanCount 40 = .ok (.istore 6, 2) := dk_54 (by decide +kernel)
theorem dX10_spanCount_42 : decode cX10_spanCount 42 = .ok (.iload 6, 2) := dk_21 (by decide +kernel)
theorem dX10_spanCount_44 : decode cX10_spanCount 44 = .ok (.ifCond .eq 11, 3) := dk_153 (a := 0) (b := 11) (by decide +kernel) rfl
theorem dX10_spanCount_47 : decode cX10_spanCount 47 = .ok (.iload 5, 2) := dk_21 (by decide +kernel)
theorem dX10_spanCount_49 : decode cX10_spanCount 49 = .ok (.ifCond .ne 6, 3) := dk_154 (a := 0) (b := 6) (by decide +kernel) rfl
theorem dX10_spanCount_52 : decode cX10_spanCount 52 = .ok (.iinc 4 1, 3) := dk_132 (b := 1) (by decide +kernel) rfl
theorem dX10_spanCount_55 : decode cX10_spanCount 55 = .ok (.iload 6, 2) := dk_21 (by decide +kernel)
theorem dX10_spanCount_57 : decode cX10_spanCount 57 = .ok (.istore 5, 2) := dk_54 (by decide +kernel)
theorem dX10_spanCount_59 : decode cX10_spanCount 59 = .ok (.iinc 7 1, 3) := dk_132 (b := 1) (by decide +kernel) rfl
theorem dX10_spanCount_62 : decode cX10_spanCount 62 = .ok (.goto (-41), 3) := dk_167 (a := 255) (b := 215) (by decide +kernel) rfl
theorem dX10_spanCount_65 : decode cX10_spanCount 65 = .ok (.iload 4, 2) := dk_21 (by decide +kernel)
theorem dX10_spanCount_67 : decode cX10_spanCount 67 = .ok (.ireturn, 1) := dk_172 (by decide +kernel)
theorem dX10_spanEdge_0 : decode cX10_spanEdge 0 = .ok (.iconst (-1), 1) := dk_2 (by decide +kernel)
theorem dX10_spanEdge_1 : decode cX10_spanEdge 1 = .ok (.istore 6, 2) := dk_54 (by decide +kernel)
theorem dX10_spanEdge_3 : decode cX10_spanEdge 3 = .ok (.iconst 0, 1) := dk_3 (by decide +kernel)
theorem dX10_spanEdge_4 : decode cX10_spanEdge 4 = .ok (.istore 7, 2) := dk_54 (by decide +kernel)
theorem dX10_spanEdge_6 : decode cX10_spanEdge 6 = .ok (.iload_n 3, 1) := dk_29 (by decide +kernel)
theorem dX10_spanEdge_7 : decode cX10_spanEdge 7 = .ok (.iload_n 2, 1) := dk_28 (by decide +kernel)
theorem dX10_spanEdge_8 : decode cX10_spanEdge 8 = .ok (.if_icmp .ne 7, 3) := dk_160 (a := 0) (b := 7) (by decide +kernel) rfl
theorem dX10_spanEdge_11 : decode cX10_spanEdge 11 = .ok (.iconst 1, 1) := dk_4 (by decide +kernel)
theorem dX10_spanEdge_12 : decode cX10_spanEdge 12 = .ok (.goto 4, 3) := dk_167 (a := 0) (b := 4) (by decide +kernel) rfl
theorem dX10_spanEdge_15 : decode cX10_spanEdge 15 = .ok (.iconst 0, 1) := dk_3 (by decide +kernel)
theorem dX10_spanEdge_16 : decode cX10_spanEdge 16 = .ok (.istore 8, 2) := dk_54 (by decide +kernel)
theorem dX10_spanEdge_18 : decode cX10_spanEdge 18 = .ok (.iconst 0, 1) := dk_3 (by decide +kernel)
theorem dX10_spanEdge_19 : decode cX10_spanEdge 19 = .ok (.istore 9, 2) := dk_54 (by decide +kernel)
theorem dX10_spanEdge_21 : decode cX10_spanEdge 21 = .ok (.iload 9, 2) := dk_21 (by decide +kernel)
theorem dX10_spanEdge_23 : decode cX10_spanEdge 23 = .ok (.aload_n 0, 1) := dk_42 (by decide +kernel)
theorem dX10_spanEdge_24 : decode cX10_spanEdge 24 = .ok (.getfield 45, 3) := dk_180 (a := 0) (b := 45) (by decide +kernel) rfl
theorem dX10_spanEdge_27 : decode cX10_spanEdge 27 = .ok (.if_icmp .gt 75, 3) := dk_163 (a := 0) (b := 75) (by decide +kernel) rfl
theorem dX10_spanEdge_30 : decode cX10_spanEdge 30 = .ok (.aload_n 0, 1) := dk_42 (by decide +kernel)
theorem dX10_spanEdge_31 : decode cX10_spanEdge 31 = .ok (.iload 9, 2) := dk_21 (by decide +kernel)
theorem dX10_spanEdge_33 : decode cX10_spanEdge 33 = .ok (.iload_n 1, 1) := dk_27 (by decide +kernel)
theorem dX10_spanEdge_34 : decode cX10_spanEdge 34 = .ok (.iload_n 2, 1) := dk_28 (by decide +kernel)
theorem dX10_spanEdge_35 : decode cX10_spanEdge 35 = .ok (.iload 8, 2) := dk_21 (by decide +kernel)
theorem dX10_spanEdge_37 : decode cX10_spanEdge 37 = .ok (.invokevirtual 147, 3) := dk_182 (a := 0) (b := 147) (by decide +kernel) rfl
theorem dX10_spanEdge_40 : decode cX10_spanEdge 40 = .ok (.istore 8, 2) := dk_54 (by decide +kernel)
theorem dX10_spanEdge_42 : decode cX10_spanEdge 42 = .ok (.iload 8, 2) := dk_21 (by decide +kernel)
theorem dX10_spanEdge_44 : decode cX10_spanEdge 44 = .ok (.ifCond .eq 26, 3) := dk_153 (a := 0) (b := 26) (by decide +kernel) rfl
theorem dX10_spanEdge_47 : decode cX10_spanEdge 47 = .ok (.iload 7, 2) := dk_21 (by decide +kernel)
theorem dX10_spanEdge_49 : decode cX10_spanEdge 49 = .ok (.ifCond .ne 21, 3) := dk_154 (a := 0) (b := 21) (by decide +kernel) rfl
theorem dX10_spanEdge_52 : decode cX10_spanEdge 52 = .ok (.iinc 6 1, 3) := dk_132 (b := 1) (by decide +kernel) rfl
theorem dX10_spanEdge_55 : decode cX10_spanEdge 55 = .ok (.iload 5, 2) := dk_21 (by decide +kernel)
theorem dX10_spanEdge_57 : decode cX10_spanEdge 57 = .ok (.ifCond .eq 13, 3) := dk_153 (a := 0) (b := 13) (by decide +kernel) rfl
theorem dX10_spanEdge_60 : decode cX10_spanEdge 60 = .ok (.iload 6, 2) := dk_21 (by decide +kernel)
theorem dX10_spanEdge_62 : decode cX10_spanEdge 62 = .ok (.iload 4, 2) := dk_21 (by decide +kernel)
theorem dX10_spanEdge_64 : decode cX10_spanEdge 64 = .ok (.if_icmp .ne 6, 3) := dk_160 (a := 0) (b := 6) (by decide +kernel) rfl
theorem dX10_spanEdge_67 : decode cX10_spanEdge 67 = .ok (.iload 9, 2) := dk_21 (by decide +kernel)
theorem dX10_spanEdge_69 : decode cX10_spanEdge 69 = .ok (.ireturn, 1) := dk_172 (by decide +kernel)
theorem dX10_spanEdge_70 : decode cX10_spanEdge 70 = .ok (.iload 7, 2) := dk_21 (by decide +kernel)
theorem dX10_spanEdge_72 : decode cX10_spanEdge 72 = .ok (.ifCond .eq 20, 3) := dk_153 (a := 0) (b := 20) (by decide +kernel) rfl
theorem dX10_spanEdge_75 : decode cX10_spanEdge 75 = .ok (.iload 8, 2) := dk_21 (by decide +kernel)
theorem dX10_spanEdge_77 : decode cX10_spanEdge 77 = .ok (.ifCond .ne 15, 3) := dk_154 (a := 0) (b := 15) (by decide +kernel) rfl
theorem dX10_spanEdge_80 : decode cX10_spanEdge 80 = .ok (.iload 6, 2) := dk_21 (by decide +kernel)
theorem dX10_spanEdge_82 : decode cX10_spanEdge 82 = .ok (.iload 4, 2) := dk_21 (by decide +kernel)
theorem dX10_spanEdge_84 : decode cX10_spanEdge 84 = .ok (.if_icmp .ne 8, 3) := dk_160 (a := 0) (b := 8) (by decide +kernel) rfl
theorem dX10_spanEdge_87 : decode cX10_spanEdge 87 = .ok (.iload 9, 2) := dk_21 (by decide +kernel)
theorem dX10_spanEdge_89 : decode cX10_spanEdge 89 = .ok (.iconst 1, 1) := dk_4 (by decide +kernel)
theorem dX10_spanEdge_90 : decode cX10_spanEdge 90 = .ok (.isub, 1) := dk_100 (by decide +kernel)
theorem dX10_spanEdge_91 : decode cX10_spanEdge 91 = .ok (.ireturn, 1) := dk_172 (by decide +kernel)
theorem dX10_spanEdge_92 : decode cX10_spanEdge 92 = .ok (.iload 8, 2) := dk_21 (by decide +kernel)
theorem dX10_spanEdge_94 : decode cX10_spanEdge 94 = .ok (.istore 7, 2) := dk_54 (by decide +kernel)
theorem dX10_spanEdge_96 : decode cX10_spanEdge 96 = .ok (.iinc 9 1, 3) := dk_132 (b := 1) (by decide +kernel) rfl
theorem dX10_spanEdge_99 : decode cX10_spanEdge 99 = .ok (.goto (-78), 3) := dk_167 (a := 255) (b := 178) (by decide +kernel) rfl
theorem dX10_spanEdge_102 : decode cX10_spanEdge 102 = .ok (.iload 7, 2) := dk_21 (by decide +kernel)
theorem dX10_spanEdge_104 : decode cX10_spanEdge 104 = .ok (.ifCond .eq 22, 3) := dk_153 (a := 0) (b := 22) (by decide +kernel) rfl
theorem dX10_spanEdge_107 : decode cX10_spanEdge 107 = .ok (.iload 5, 2) := dk_21 (by decide +kernel)
theorem dX10_spanEdge_109 : decode cX10_spanEdge 109 = .ok (.ifCond .ne 17, 3) := dk_154 (a := 0) (b := 17) (by decide +kernel) rfl
theorem dX10_spanEdge_112 : decode cX10_spanEdge 112 = .ok (.iload 6, 2) := dk_21 (by decide +kernel)
theorem dX10_spanEdge_114 : decode cX10_spanEdge 114 = .ok (.iload 4, 2) := dk_21 (by decide +kernel)
theorem dX10_spanEdge_116 : decode cX10_spanEdge 116 = .ok (.if_icmp .ne 10, 3) := dk_160 (a := 0) (b := 10) (by decide +kernel) rfl
theorem dX10_spanEdge_119 : decode cX10_spanEdge 119 = .ok (.aload_n 0, 1) := dk_42 (by decide +kernel)
theorem dX10_spanEdge_120 : decode cX10_spanEdge 120 = .ok (.getfield 45, 3) := dk_180 (a := 0) (b := 45) (by decide +kernel) rfl
theorem dX10_spanEdge_123 : decode cX10_spanEdge 123 = .ok (.goto 4, 3) := dk_167 (a := 0) (b := 4) (by decide +kernel) rfl
theorem dX10_spanEdge_126 : decode cX10_spanEdge 126 = .ok (.iconst (-1), 1) := dk_2 (by decide +kernel)
theorem dX10_spanEdge_127 : decode cX10_spanEdge 127 = .ok (.ireturn, 1) := dk_172 (by decide +kernel)
theorem dX10_holdsBehind_0 : decode cX10_holdsBehind 0 = .ok (.iload_n 1, 1) := dk_27 (by decide +kernel)
theorem dX10_holdsBehind_1 : decode cX10_holdsBehind 1 = .ok (.ifCond .eq 13, 3) := dk_153 (a := 0) (b := 13) (by decide +kernel) rfl
theorem dX10_holdsBehind_4 : decode cX10_holdsBehind 4 = .ok (.aload_n 0, 1) := dk_42 (by decide +kernel)
theorem dX10_holdsBehind_5 : decode cX10_holdsBehind 5 = .ok (.getfield 24, 3) := dk_180 (a := 0) (b := 24) (by decide +kernel) rfl
theorem dX10_holdsBehind_8 : decode cX10_holdsBehind 8 = .ok (.iload_n 1, 1) := dk_27 (by decide +kernel)
theorem dX10_holdsBehind_9 : decode cX10_holdsBehind 9 = .ok (.iaload, 1) := dk_46 (by decide +kernel)
theorem dX10_holdsBehind_10 : decode cX10_holdsBehind 10 = .ok (.iload_n 2, 1) := dk_28 (by decide +kernel)
theorem dX10_holdsBehind_11 : decode cX10_holdsBehind 11 = .ok (.if_icmp .eq 6, 3) := dk_159 (a := 0) (b := 6) (by decide +kernel) rfl
theorem dX10_holdsBehind_14 : decode cX10_holdsBehind 14 = .ok (.iload 4, 2) := dk_21 (by decide +kernel)
theorem dX10_holdsBehind_16 : decode cX10_holdsBehind 16 = .ok (.ireturn, 1) := dk_172 (by decide +kernel)
theorem dX10_holdsBehind_17 : decode cX10_holdsBehind 17 = .ok (.aload_n 0, 1) := dk_42 (by decide +kernel)
theorem dX10_holdsBehind_18 : decode cX10_holdsBehind 18 = .ok (.getfield 27, 3) := dk_180 (a := 0) (b := 27) (by decide +kernel) rfl
theorem dX10_holdsBehind_21 : decode cX10_holdsBehind 21 = .ok (.iload_n 1, 1) := dk_27 (by decide +kernel)
theorem dX10_holdsBehind_22 : decode cX10_holdsBehind 22 = .ok (.iaload, 1) := dk_46 (by decide +kernel)
theorem dX10_holdsBehind_23 : decode cX10_holdsBehind 23 = .ok (.ifCond .ne 17, 3) := dk_154 (a := 0) (b := 17) (by decide +kernel) rfl
theorem dX10_holdsBehind_26 : decode cX10_holdsBehind 26 = .ok (.aload_n 0, 1) := dk_42 (by decide +kernel)
theorem dX10_holdsBehind_27 : decode cX10_holdsBehind 27 = .ok (.getfield 30, 3) := dk_180 (a := 0) (b := 30) (by decide +kernel) rfl
theorem dX10_holdsBehind_30 : decode cX10_holdsBehind 30 = .ok (.iload_n 1, 1) := dk_27 (by decide +kernel)
theorem dX10_holdsBehind_31 : decode cX10_holdsBehind 31 = .ok (.iaload, 1) := dk_46 (by decide +kernel)
theorem dX10_holdsBehind_32 : decode cX10_holdsBehind 32 = .ok (.iload_n 3, 1) := dk_29 (by decide +kernel)
theorem dX10_holdsBehind_33 : decode cX10_holdsBehind 33 = .ok (.if_icmp .ne 7, 3) := dk_160 (a := 0) (b := 7) (by decide +kernel) rfl
theorem dX10_holdsBehind_36 : decode cX10_holdsBehind 36 = .ok (.iconst 1, 1) := dk_4 (by decide +kernel)
theorem dX10_holdsBehind_37 : decode cX10_holdsBehind 37 = .ok (.goto 4, 3) := dk_167 (a := 0) (b := 4) (by decide +kernel) rfl
theorem dX10_holdsBehind_40 : decode cX10_holdsBehind 40 = .ok (.iconst 0, 1) := dk_3 (by decide +kernel)
theorem dX10_holdsBehind_41 : decode cX10_holdsBehind 41 = .ok (.ireturn, 1) := dk_172 (by decide +kernel)
theorem dX11_code_0 : decode cX11_code 0 = .ok (.iload_n 1, 1) := dk_27 (by decide +kernel)
theorem dX11_code_1 : decode cX11_code 1 = .ok (.invokestatic 66, 3) := dk_184 (a := 0) (b := 66) (by decide +kernel) rfl
theorem dX11_code_4 : decode cX11_code 4 = .ok (.ifCond .eq 13, 3) := dk_153 (a := 0) (b := 13) (by decide +kernel) rfl
theorem dX11_code_7 : decode cX11_code 7 = .ok (.iload_n 2, 1) := dk_28 (by decide +kernel)
theorem dX11_code_8 : decode cX11_code 8 = .ok (.ifCond .lt 9, 3) := dk_155 (a := 0) (b := 9) (by decide +kernel) rfl
theorem dX11_code_11 : decode cX11_code 11 = .ok (.iload_n 2, 1) := dk_28 (by decide +kernel)
theorem dX11_code_12 : decode cX11_code 12 = .ok (.bipush 19, 2) := dk_16 (a := 19) (by decide +kernel) rfl
theorem dX11_code_14 : decode cX11_code 14 = .ok (.if_icmp .le 5, 3) := dk_164 (a := 0) (b := 5) (by decide +kernel) rfl
theorem dX11_code_17 : decode cX11_code 17 = .ok (.iconst (-1), 1) := dk_2 (by decide +kernel)
theorem dX11_code_18 : decode cX11_code 18 = .ok (.ireturn, 1) := dk_172 (by decide +kernel)
theorem dX11_code_19 : decode cX11_code 19 = .ok (.aload_n 0, 1) := dk_42 (by decide +kernel)
theorem dX11_code_20 : decode cX11_code 20 = .ok (.getfield 12, 3) := dk_180 (a := 0) (b := 12) (by decide +kernel) rfl
theorem dX11_code_23 : decode cX11_code 23 = .ok (.getfield 70, 3) := dk_180 (a := 0) (b := 70) (by decide +kernel) rfl
theorem dX11_code_26 : decode cX11_code 26 = .ok (.iload_n 1, 1) := dk_27 (by decide +kernel)
theorem dX11_code_27 : decode cX11_code 27 = .ok (.iaload, 1) := dk_46 (by decide +kernel)
theorem dX11_code_28 : decode cX11_code 28 = .ok (.istore 6, 2) := dk_54 (by decide +kernel)
theorem dX11_code_30 : decode cX11_code 30 = .ok (.iload 6, 2) := dk_21 (by decide +kernel)
theorem dX11_code_32 : decode cX11_code 32 = .ok (.bipush 24, 2) := dk_16 (a := 24) (by decide +kernel) rfl
theorem dX11_code_34 : decode cX11_code 34 = .ok (.if_icmp .lt 6, 3) := dk_161 (a := 0) (b := 6) (by decide +kernel) rfl
theorem dX11_code_37 : decode cX11_code 37 = .ok (.bipush (-2), 2) := dk_16 (a := 254) (by decide +kernel) rfl
theorem dX11_code_39 : decode cX11_code 39 = .ok (.ireturn, 1) := dk_172 (by decide +kernel)
theorem dX11_code_40 : decode cX11_code 40 = .ok (.aload_n 0, 1) := dk_42 (by decide +kernel)
theorem dX11_code_41 : decode cX11_code 41 = .ok (.getfield 12, 3) := dk_180 (a := 0) (b := 12) (by decide +kernel) rfl
theorem dX11_code_44 : decode cX11_code 44 = .ok (.iload_n 1, 1) := dk_27 (by decide +kernel)
theorem dX11_code_45 : decode cX11_code 45 = .ok (.iload 6, 2) := dk_21 (by decide +kernel)
theorem dX11_code_47 : decode cX11_code 47 = .ok (.invokevirtual 74, 3) := dk_182 (a := 0) (b := 74) (by decide +kernel) rfl
theorem dX11_code_50 : decode cX11_code 50 = .ok (.istore 7, 2) := dk_54 (by decide +kernel)
theorem dX11_code_52 : decode cX11_code 52 = .ok (.aload_n 0, 1) := dk_42 (by decide +kernel)
theorem dX11_code_53 : decode cX11_code 53 = .ok (.getfield 12, 3) := dk_180 (a := 0) (b := 12) (by decide +kernel) rfl
theorem dX11_code_56 : decode cX11_code 56 = .ok (.getfield 78, 3) := dk_180 (a := 0) (b := 78) (by decide +kernel) rfl
theorem dX11_code_59 : decode cX11_code 59 = .ok (.iload 7, 2) := dk_21 (by decide +kernel)
theorem dX11_code_61 : decode cX11_code 61 = .ok (.iload_n 2, 1) := dk_28 (by decide +kernel)
theorem dX11_code_62 : decode cX11_code 62 = .ok (.iastore, 1) := dk_79 (by decide +kernel)
theorem dX11_code_63 : decode cX11_code 63 = .ok (.aload_n 0, 1) := dk_42 (by decide +kernel)
theorem dX11_code_64 : decode cX11_code 64 = .ok (.getfield 12, 3) := dk_180 (a := 0) (b := 12) (by decide +kernel) rfl
theorem dX11_code_67 : decode cX11_code 67 = .ok (.getfield 78, 3) := dk_180 (a := 0) (b := 78) (by decide +kernel) rfl
theorem dX11_code_70 : decode cX11_code 70 = .ok (.iload 7, 2) := dk_21 (by decide +kernel)
theorem dX11_code_72 : decode cX11_code 72 = .ok (.iconst 1, 1) := dk_4 (by decide +kernel)
theorem dX11_code_73 : decode cX11_code 73 = .ok (.iadd, 1) := dk_96 (by decide +kernel)
theorem dX11_code_74 : decode cX11_code 74 = .ok (.iload_n 3, 1) := dk_29 (by decide +kernel)
theorem dX11_code_75 : decode cX11_code 75 = .ok (.iastore, 1) := dk_79 (by decide +kernel)
theorem dX11_code_76 : decode cX11_code 76 = .ok (.aload_n 0, 1) := dk_42 (by decide +kernel)
theorem dX11_code_77 : decode cX11_code 77 = .ok (.getfield 12, 3) := dk_180 (a := 0) (b := 12) (by decide +kernel) rfl
theorem dX11_code_80 : decode cX11_code 80 = .ok (.getfield 78, 3) := dk_180 (a := 0) (b := 78) (by decide +kernel) rfl
theorem dX11_code_83 : decode cX11_code 83 = .ok (.iload 7, 2) := dk_21 (by decide +kernel)
theorem dX11_code_85 : decode cX11_code 85 = .ok (.iconst 2, 1) := dk_5 (by decide +kernel)
theorem dX11_code_86 : decode cX11_code 86 = .ok (.iadd, 1) := dk_96 (by decide +kernel)
theorem dX11_code_87 : decode cX11_code 87 = .ok (.iload 4, 2) := dk_21 (by decide +kernel)
theorem dX11_code_89 : decode cX11_code 89 = .ok (.iastore, 1) := dk_79 (by decide +kernel)
theorem dX11_code_90 : decode cX11_code 90 = .ok (.aload_n 0, 1) := dk_42 (by decide +kernel)
theorem dX11_code_91 : decode cX11_code 91 = .ok (.getfield 12, 3) := dk_180 (a := 0) (b := 12) (by decide +kernel) rfl
theorem dX11_code_94 : decode cX11_code 94 = .ok (.getfield 78, 3) := dk_180 (a := 0) (b := 78) (by decide +kernel) rfl
theorem dX11_code_97 : decode cX11_code 97 = .ok (.iload 7, 2) := dk_21 (by decide +kernel)
theorem dX11_code_99 : decode cX11_code 99 = .ok (.iconst 3, 1) := dk_6 (by decide +kernel)
theorem dX11_code_100 : decode cX11_code 100 = .ok (.iadd, 1) := dk_96 (by decide +kernel)
theorem dX11_code_101 : decode cX11_code 101 = .ok (.iload 5, 2) := dk_21 (by decide +kernel)
theorem dX11_code_103 : decode cX11_code 103 = .ok (.iastore, 1) := dk_79 (by decide +kernel)
theorem dX11_code_104 : decode cX11_code 104 = .ok (.aload_n 0, 1) := dk_42 (by decide +kernel)
theorem dX11_code_105 : decode cX11_code 105 = .ok (.getfield 12, 3) := dk_180 (a := 0) (b := 12) (by decide +kernel) rfl
theorem dX11_code_108 : decode cX11_code 108 = .ok (.getfield 70, 3) := dk_180 (a := 0) (b := 70) (by decide +kernel) rfl
theorem dX11_code_111 : decode cX11_code 111 = .ok (.iload_n 1, 1) := dk_27 (by decide +kernel)
theorem dX11_code_112 : decode cX11_code 112 = .ok (.iload 6, 2) := dk_21 (by decide +kernel)
theorem dX11_code_114 : decode cX11_code 114 = .ok (.iconst 1, 1) := dk_4 (by decide +kernel)
theorem dX11_code_115 : decode cX11_code 115 = .ok (.iadd, 1) := dk_96 (by decide +kernel)
theorem dX11_code_116 : decode cX11_code 116 = .ok (.iastore, 1) := dk_79 (by decide +kernel)
theorem dX11_code_117 : decode cX11_code 117 = .ok (.iload 6, 2) := dk_21 (by decide +kernel)
theorem dX11_code_119 : decode cX11_code 119 = .ok (.ireturn, 1) := dk_172 (by decide +kernel)
theorem dX11_clear_0 : decode cX11_clear 0 = .ok (.iload_n 1, 1) := dk_27 (by decide +kernel)
theorem dX11_clear_1 : decode cX11_clear 1 = .ok (.invokestatic 66, 3) := dk_184 (a := 0) (b := 66) (by decide +kernel) rfl
theorem dX11_clear_4 : decode cX11_clear 4 = .ok (.ifCond .ne 5, 3) := dk_154 (a := 0) (b := 5) (by decide +kernel) rfl
theorem dX11_clear_7 : decode cX11_clear 7 = .ok (.iconst (-1), 1) := dk_2 (by decide +kernel)
theorem dX11_clear_8 : decode cX11_clear 8 = .ok (.ireturn, 1) := dk_172 (by decide +kernel)
theorem dX11_clear_9 : decode cX11_clear 9 = .ok (.aload_n 0, 1) := dk_42 (by decide +kernel)
theorem dX11_clear_10 : decode cX11_clear 10 = .ok (.getfield 12, 3) := dk_180 (a := 0) (b := 12) (by decide +kernel) rfl
theorem dX11_clear_13 : decode cX11_clear 13 = .ok (.getfield 70, 3) := dk_180 (a := 0) (b := 70) (by decide +kernel) rfl
theorem dX11_clear_16 : decode cX11_clear 16 = .ok (.iload_n 1, 1) := dk_27 (by decide +kernel)
theorem dX11_clear_17 : decode cX11_clear 17 = .ok (.iaload, 1) := dk_46 (by decide +kernel)
theorem dX11_clear_18 : decode cX11_clear 18 = .ok (.istore_n 2, 1) := dk_61 (by decide +kernel)
theorem dX11_clear_19 : decode cX11_clear 19 = .ok (.aload_n 0, 1) := dk_42 (by decide +kernel)
theorem dX11_clear_20 : decode cX11_clear 20 = .ok (.getfield 12, 3) := dk_180 (a := 0) (b := 12) (by decide +kernel) rfl
theorem dX11_clear_23 : decode cX11_clear 23 = .ok (.getfield 70, 3) := dk_180 (a := 0) (b := 70) (by decide +kernel) rfl
theorem dX11_clear_26 : decode cX11_clear 26 = .ok (.iload_n 1, 1) := dk_27 (by decide +kernel)
theorem dX11_clear_27 : decode cX11_clear 27 = .ok (.iconst 0, 1) := dk_3 (by decide +kernel)
theorem dX11_clear_28 : decode cX11_clear 28 = .ok (.iastore, 1) := dk_79 (by decide +kernel)
theorem dX11_clear_29 : decode cX11_clear 29 = .ok (.iload_n 2, 1) := dk_28 (by decide +kernel)
theorem dX11_clear_30 : decode cX11_clear 30 = .ok (.ireturn, 1) := dk_172 (by decide +kernel)
theorem dX11_cell_0 : decode cX11_cell 0 = .ok (.iload_n 1, 1) := dk_27 (by decide +kernel)
theorem dX11_cell_1 : decode cX11_cell 1 = .ok (.invokestatic 81, 3) := dk_184 (a := 0) (b := 81) (by decide +kernel) rfl
theorem dX11_cell_4 : decode cX11_cell 4 = .ok (.ifCond .ne 5, 3) := dk_154 (a := 0) (b := 5) (by decide +kernel) rfl
theorem dX11_cell_7 : decode cX11_cell 7 = .ok (.iconst (-1), 1) := dk_2 (by decide +kernel)
theorem dX11_cell_8 : decode cX11_cell 8 = .ok (.ireturn, 1) := dk_172 (by decide +kernel)
theorem dX11_cell_9 : decode cX11_cell 9 = .ok (.aload_n 0, 1) := dk_42 (by decide +kernel)
theorem dX11_cell_10 : decode cX11_cell 10 = .ok (.getfield 12, 3) := dk_180 (a := 0) (b := 12) (by decide +kernel) rfl
theorem dX11_cell_13 : decode cX11_cell 13 = .ok (.getfield 84, 3) := dk_180 (a := 0) (b := 84) (by decide +kernel) rfl
theorem dX11_cell_16 : decode cX11_cell 16 = .ok (.iload_n 1, 1) := dk_27 (by decide +kernel)
theorem dX11_cell_17 : decode cX11_cell 17 = .ok (.iload_n 2, 1) := dk_28 (by decide +kernel)
theorem dX11_cell_18 : decode cX11_cell 18 = .ok (.iastore, 1) := dk_79 (by decide +kernel)
theorem dX11_cell_19 : decode cX11_cell 19 = .ok (.iconst 0, 1) := dk_3 (by decide +kernel)
theorem dX11_cell_20 : decode cX11_cell 20 = .ok (.ireturn, 1) := dk_172 (by decide +kernel)
theorem dX11_input_0 : decode cX11_input 0 = .ok (.aload_n 0, 1) := dk_42 (by decide +kernel)
theorem dX11_input_1 : decode cX11_input 1 = .ok (.getfield 12, 3) := dk_180 (a := 0) (b := 12) (by decide +kernel) rfl
theorem dX11_input_4 : decode cX11_input 4 = .ok (.getfield 87, 3) := dk_180 (a := 0) (b := 87) (by decide +kernel) rfl
theorem dX11_input_7 : decode cX11_input 7 = .ok (.bipush 30, 2) := dk_16 (a := 30) (by decide +kernel) rfl
theorem dX11_input_9 : decode cX11_input 9 = .ok (.if_icmp .lt 6, 3) := dk_161 (a := 0) (b := 6) (by decide +kernel) rfl
theorem dX11_input_12 : decode cX11_input 12 = .ok (.bipush (-2), 2) := dk_16 (a := 254) (by decide +kernel) rfl
theorem dX11_input_14 : decode cX11_input 14 = .ok (.ireturn, 1) := dk_172 (by decide +kernel)
theorem dX11_input_15 : decode cX11_input 15 = .ok (.aload_n 0, 1) := dk_42 (by decide +kernel)
theorem dX11_input_16 : decode cX11_input 16 = .ok (.getfield 12, 3) := dk_180 (a := 0) (b := 12) (by decide +kernel) rfl
theorem dX11_input_19 : decode cX11_input 19 = .ok (.getfield 90, 3) := dk_180 (a := 0) (b := 90) (by decide +kernel) rfl
theorem dX11_input_22 : decode cX11_input 22 = .ok (.aload_n 0, 1) := dk_42 (by decide +kernel)
theorem dX11_input_23 : decode cX11_input 23 = .ok (.getfield 12, 3) := dk_180 (a := 0) (b := 12) (by decide +kernel) rfl
theorem dX11_input_26 : decode cX11_input 26 = .ok (.getfield 87, 3) := dk_180 (a := 0) (b := 87) (by decide +kernel) rfl
theorem dX11_input_29 : decode cX11_input 29 = .ok (.iload_n 1, 1) := dk_27 (by decide +kernel)
theorem dX11_input_30 : decode cX11_input 30 = .ok (.iastore, 1) := dk_79 (by decide +kernel)
theorem dX11_input_31 : decode cX11_input 31 = .ok (.aload_n 0, 1) := dk_42 (by decide +kernel)
theorem dX11_input_32 : decode cX11_input 32 = .ok (.getfield 12, 3) := dk_180 (a := 0) (b := 12) (by decide +kernel) rfl
theorem dX11_input_35 : decode cX11_input 35 = .ok (.dup, 1) := dk_89 (by decide +kernel)
theorem dX11_input_36 : decode cX11_input 36 = .ok (.getfield 87, 3) := dk_180 (a := 0) (b := 87) (by decide +kernel) rfl
theorem dX11_input_39 : decode cX11_input 39 = .ok (.iconst 1, 1) := dk_4 (by decide +kernel)
theorem dX11_input_40 : decode cX11_input 40 = .ok (.iadd, 1) := dk_96 (by decide +kernel)
theorem dX11_input_41 : decode cX11_input 41 = .ok (.putfield 87, 3) := dk_181 (a := 0) (b := 87) (by decide +kernel) rfl
theorem dX11_input_44 : decode cX11_input 44 = .ok (.aload_n 0, 1) := dk_42 (by decide +kernel)
theorem dX11_input_45 : decode cX11_input 45 = .ok (.getfield 12, 3) := dk_180 (a := 0) (b := 12) (by decide +kernel) rfl
theorem dX11_input_48 : decode cX11_input 48 = .ok (.getfield 87, 3) := dk_180 (a := 0) (b := 87) (by decide +kernel) rfl
theorem dX11_input_51 : decode cX11_input 51 = .ok (.ireturn, 1) := dk_172 (by decide +kernel)
theorem dX11_turn_0 : decode cX11_turn 0 = .ok (.iload_n 1, 1) := dk_27 (by decide +kernel)
theorem dX11_turn_1 : decode cX11_turn 1 = .ok (.invokestatic 66, 3) := dk_184 (a := 0) (b := 66) (by decide +kernel) rfl
theorem dX11_turn_4 : decode cX11_turn 4 = .ok (.ifCond .eq 14, 3) := dk_153 (a := 0) (b := 14) (by decide +kernel) rfl
theorem dX11_turn_7 : decode cX11_turn 7 = .ok (.iload_n 2, 1) := dk_28 (by decide +kernel)
theorem dX11_turn_8 : decode cX11_turn 8 = .ok (.iconst 1, 1) := dk_4 (by decide +kernel)
theorem dX11_turn_9 : decode cX11_turn 9 = .ok (.if_icmp .lt 9, 3) := dk_161 (a := 0) (b := 9) (by decide +kernel) rfl
theorem dX11_turn_12 : decode cX11_turn 12 = .ok (.iload_n 2, 1) := dk_28 (by decide +kernel)
theorem dX11_turn_13 : decode cX11_turn 13 = .ok (.bipush 100, 2) := dk_16 (a := 100) (by decide +kernel) rfl
theorem dX11_turn_15 : decode cX11_turn 15 = .ok (.if_icmp .le 5, 3) := dk_164 (a := 0) (b := 5) (by decide +kernel) rfl
theorem dX11_turn_18 : decode cX11_turn 18 = .ok (.iconst (-1), 1) := dk_2 (by decide +kernel)
theorem dX11_turn_19 : decode cX11_turn 19 = .ok (.ireturn, 1) := dk_172 (by decide +kernel)
theorem dX11_turn_20 : decode cX11_turn 20 = .ok (.aload_n 0, 1) := dk_42 (by decide +kernel)
theorem dX11_turn_21 : decode cX11_turn 21 = .ok (.getfield 12, 3) := dk_180 (a := 0) (b := 12) (by decide +kernel) rfl
theorem dX11_turn_24 : decode cX11_turn 24 = .ok (.getfield 93, 3) := dk_180 (a := 0) (b := 93) (by decide +kernel) rfl
theorem dX11_turn_27 : decode cX11_turn 27 = .ok (.bipush 40, 2) := dk_16 (a := 40) (by decide +kernel) rfl
theorem dX11_turn_29 : decode cX11_turn 29 = .ok (.if_icmp .lt 6, 3) := dk_161 (a := 0) (b := 6) (by decide +kernel) rfl
theorem dX11_turn_32 : decode cX11_turn 32 = .ok (.bipush (-2), 2) := dk_16 (a := 254) (by decide +kernel) rfl
theorem dX11_turn_34 : decode cX11_turn 34 = .ok (.ireturn, 1) := dk_172 (by decide +kernel)
theorem dX11_turn_35 : decode cX11_turn 35 = .ok (.aload_n 0, 1) := dk_42 (by decide +kernel)
theorem dX11_turn_36 : decode cX11_turn 36 = .ok (.getfield 12, 3) := dk_180 (a := 0) (b := 12) (by decide +kernel) rfl
theorem dX11_turn_39 : decode cX11_turn 39 = .ok (.getfield 96, 3) := dk_180 (a := 0) (b := 96) (by decide +kernel) rfl
theorem dX11_turn_42 : decode cX11_turn 42 = .ok (.aload_n 0, 1) := dk_42 (by decide +kernel)
theorem dX11_turn_43 : decode cX11_turn 43 = .ok (.getfield 12, 3) := dk_180 (a := 0) (b := 12) (by decide +kernel) rfl
theorem dX11_turn_46 : decode cX11_turn 46 = .ok (.getfield 93, 3) := dk_180 (a := 0) (b := 93) (by decide +kernel) rfl
theorem dX11_turn_49 : decode cX11_turn 49 = .ok (.iload_n 1, 1) := dk_27 (by decide +kernel)
theorem dX11_turn_50 : decode cX11_turn 50 = .ok (.iastore, 1) := dk_79 (by decide +kernel)
theorem dX11_turn_51 : decode cX11_turn 51 = .ok (.aload_n 0, 1) := dk_42 (by decide +kernel)
theorem dX11_turn_52 : decode cX11_turn 52 = .ok (.getfield 12, 3) := dk_180 (a := 0) (b := 12) (by decide +kernel) rfl
theorem dX11_turn_55 : decode cX11_turn 55 = .ok (.getfield 99, 3) := dk_180 (a := 0) (b := 99) (by decide +kernel) rfl
theorem dX11_turn_58 : decode cX11_turn 58 = .ok (.aload_n 0, 1) := dk_42 (by decide +kernel)
theorem dX11_turn_59 : decode cX11_turn 59 = .ok (.getfield 12, 3) := dk_180 (a := 0) (b := 12) (by decide +kernel) rfl
theorem dX11_turn_62 : decode cX11_turn 62 = .ok (.getfield 93, 3) := dk_180 (a := 0) (b := 93) (by decide +kernel) rfl
theorem dX11_turn_65 : decode cX11_turn 65 = .ok (.iload_n 2, 1) := dk_28 (by decide +kernel)
theorem dX11_turn_66 : decode cX11_turn 66 = .ok (.iastore, 1) := dk_79 (by decide +kernel)
theorem dX11_turn_67 : decode cX11_turn 67 = .ok (.aload_n 0, 1) := dk_42 (by decide +kernel)
theorem dX11_turn_68 : decode cX11_turn 68 = .ok (.getfield 12, 3) := dk_180 (a := 0) (b := 12) (by decide +kernel) rfl
theorem dX11_turn_71 : decode cX11_turn 71 = .ok (.dup, 1) := dk_89 (by decide +kernel)
theorem dX11_turn_72 : decode cX11_turn 72 = .ok (.getfield 93, 3) := dk_180 (a := 0) (b := 93) (by decide +kernel) rfl
theorem dX11_turn_75 : decode cX11_turn 75 = .ok (.iconst 1, 1) := dk_4 (by decide +kernel)
theorem dX11_turn_76 : decode cX11_turn 76 = .ok (.iadd, 1) := dk_96 (by decide +kernel)
theorem dX11_turn_77 : decode cX11_turn 77 = .ok (.putfield 93, 3) := dk_181 (a := 0) (b := 93) (by decide +kernel) rfl
theorem dX11_turn_80 : decode cX11_turn 80 = .ok (.aload_n 0, 1) := dk_42 (by decide +kernel)
theorem dX11_turn_81 : decode cX11_turn 81 = .ok (.getfield 12, 3) := dk_180 (a := 0) (b := 12) (by decide +kernel) rfl
theorem dX11_turn_84 : decode cX11_turn 84 = .ok (.getfield 93, 3) := dk_180 (a := 0) (b := 93) (by decide +kernel) rfl
theorem dX11_turn_87 : decode cX11_turn 87 = .ok (.ireturn, 1) := dk_172 (by decide +kernel)
theorem dX11_freely_0 : decode cX11_freely 0 = .ok (.aload_n 0, 1) := dk_42 (by decide +kernel)
theorem dX11_freely_1 : decode cX11_freely 1 = .ok (.getfield 12, 3) := dk_180 (a := 0) (b := 12) (by decide +kernel) rfl
theorem dX11_freely_4 : decode cX11_freely 4 = .ok (.getfield 93, 3) := dk_180 (a := 0) (b := 93) (by decide +kernel) rfl
theorem dX11_freely_7 : decode cX11_freely 7 = .ok (.istore_n 1, 1) := dk_60 (by decide +kernel)
theorem dX11_freely_8 : decode cX11_freely 8 = .ok (.aload_n 0, 1) := dk_42 (by decide +kernel)
theorem dX11_freely_9 : decode cX11_freely 9 = .ok (.getfield 12, 3) := dk_180 (a := 0) (b := 12) (by decide +kernel) rfl
theorem dX11_freely_12 : decode cX11_freely 12 = .ok (.iconst 0, 1) := dk_3 (by decide +kernel)
theorem dX11_freely_13 : decode cX11_freely 13 = .ok (.putfield 93, 3) := dk_181 (a := 0) (b := 93) (by decide +kernel) rfl
theorem dX11_freely_16 : decode cX11_freely 16 = .ok (.iload_n 1, 1) := dk_27 (by decide +kernel)
theorem dX11_freely_17 : decode cX11_freely 17 = .ok (.ireturn, 1) := dk_172 (by decide +kernel)
theorem dX11_run_0 : decode cX11_run 0 = .ok (.aload_n 0, 1) := dk_42 (by decide +kernel)
theorem dX11_run_1 : decode cX11_run 1 = .ok (.getfield 16, 3) := dk_180 (a := 0) (b := 16) (by decide +kernel) rfl
theorem dX11_run_4 : decode cX11_run 4 = .ok (.aload_n 0, 1) := dk_42 (by decide +kernel)
theorem dX11_run_5 : decode cX11_run 5 = .ok (.getfield 12, 3) := dk_180 (a := 0) (b := 12) (by decide +kernel) rfl
theorem dX11_run_8 : decode cX11_run 8 = .ok (.invokevirtual 102, 3) := dk_182 (a := 0) (b := 102) (by decide +kernel) rfl
theorem dX11_run_11 : decode cX11_run 11 = .ok (.aload_n 0, 1) := dk_42 (by decide +kernel)
theorem dX11_run_12 : decode cX11_run 12 = .ok (.getfield 24, 3) := dk_180 (a := 0) (b := 24) (by decide +kernel) rfl
theorem dX11_run_15 : decode cX11_run 15 = .ok (.aload_n 0, 1) := dk_42 (by decide +kernel)
theorem dX11_run_16 : decode cX11_run 16 = .ok (.getfield 16, 3) := dk_180 (a := 0) (b := 16) (by decide +kernel) rfl
theorem dX11_run_19 : decode cX11_run 19 = .ok (.aload_n 0, 1) := dk_42 (by decide +kernel)
theorem dX11_run_20 : decode cX11_run 20 = .ok (.getfield 16, 3) := dk_180 (a := 0) (b := 16) (by decide +kernel) rfl
theorem dX11_run_23 : decode cX11_run 23 = .ok (.getfield 87, 3) := dk_180 (a := 0) (b := 87) (by decide +kernel) rfl
theorem dX11_run_26 : decode cX11_run 26 = .ok (.invokevirtual 105, 3) := dk_182 (a := 0) (b := 105) (by decide +kernel) rfl
theorem dX11_run_29 : decode cX11_run 29 = .ok (.aload_n 0, 1) := dk_42 (by decide +kernel)
theorem dX11_run_30 : decode cX11_run 30 = .ok (.getfield 34, 3) := dk_180 (a := 0) (b := 34) (by decide +kernel) rfl
theorem dX11_run_33 : decode cX11_run 33 = .ok (.aload_n 0, 1) := dk_42 (by decide +kernel)
theorem dX11_run_34 : decode cX11_run 34 = .ok (.getfield 24, 3) := dk_180 (a := 0) (b := 24) (by decide +kernel) rfl
theorem dX11_run_37 : decode cX11_run 37 = .ok (.invokevirtual 109, 3) := dk_182 (a := 0) (b := 109) (by decide +kernel) rfl
theorem dX11_run_40 : decode cX11_run 40 = .ok (.aload_n 0, 1) := dk_42 (by decide +kernel)
theorem dX11_run_41 : decode cX11_run 41 = .ok (.getfield 43, 3) := dk_180 (a := 0) (b := 43) (by decide +kernel) rfl
theorem dX11_run_44 : decode cX11_run 44 = .ok (.invokevirtual 113, 3) := dk_182 (a := 0) (b := 113) (by decide +kernel) rfl
theorem dX11_run_47 : decode cX11_run 47 = .ok (.aload_n 0, 1) := dk_42 (by decide +kernel)
theorem dX11_run_48 : decode cX11_run 48 = .ok (.iconst 1, 1) := dk_4 (by decide +kernel)
theorem dX11_run_49 : decode cX11_run 49 = .ok (.putfield 116, 3) := dk_181 (a := 0) (b := 116) (by decide +kernel) rfl
theorem dX11_run_52 : decode cX11_run 52 = .ok (.aload_n 0, 1) := dk_42 (by decide +kernel)
theorem dX11_run_53 : decode cX11_run 53 = .ok (.aload_n 0, 1) := dk_42 (by decide +kernel)
theorem dX11_run_54 : decode cX11_run 54 = .ok (.getfield 34, 3) := dk_180 (a := 0) (b := 34) (by decide +kernel) rfl
theorem dX11_run_57 : decode cX11_run 57 = .ok (.getfield 120, 3) := dk_180 (a := 0) (b := 120) (by decide +kernel) rfl
theorem dX11_run_60 : decode cX11_run 60 = .ok (.putfield 123, 3) := dk_181 (a := 0) (b := 123) (by decide +kernel) rfl
theorem dX11_run_63 : decode cX11_run 63 = .ok (.aload_n 0, 1) := dk_42 (by decide +kernel)
theorem dX11_run_64 : decode cX11_run 64 = .ok (.aload_n 0, 1) := dk_42 (by decide +kernel)
theorem dX11_run_65 : decode cX11_run 65 = .ok (.getfield 34, 3) := dk_180 (a := 0) (b := 34) (by decide +kernel) rfl
theorem dX11_run_68 : decode cX11_run 68 = .ok (.getfield 120, 3) := dk_180 (a := 0) (b := 120) (by decide +kernel) rfl
theorem dX11_run_71 : decode cX11_run 71 = .ok (.putfield 126, 3) := dk_181 (a := 0) (b := 126) (by decide +kernel) rfl
theorem dX11_run_74 : decode cX11_run 74 = .ok (.aload_n 0, 1) := dk_42 (by decide +kernel)
theorem dX11_run_75 : decode cX11_run 75 = .ok (.getfield 34, 3) := dk_180 (a := 0) (b := 34) (by decide +kernel) rfl
theorem dX11_run_78 : decode cX11_run 78 = .ok (.getfield 129, 3) := dk_180 (a := 0) (b := 129) (by decide +kernel) rfl
theorem dX11_run_81 : decode cX11_run 81 = .ok (.ireturn, 1) := dk_172 (by decide +kernel)
theorem dX11_told_0 : decode cX11_told 0 = .ok (.aload_n 0, 1) := dk_42 (by decide +kernel)
theorem dX11_told_1 : decode cX11_told 1 = .ok (.getfield 116, 3) := dk_180 (a := 0) (b := 116) (by decide +kernel) rfl
theorem dX11_told_4 : decode cX11_told 4 = .ok (.ifCond .ne 6, 3) := dk_154 (a := 0) (b := 6) (by decide +kernel) rfl
theorem dX11_told_7 : decode cX11_told 7 = .ok (.bipush (-2), 2) := dk_16 (a := 254) (by decide +kernel) rfl
theorem dX11_told_9 : decode cX11_told 9 = .ok (.ireturn, 1) := dk_172 (by decide +kernel)
theorem dX11_told_10 : decode cX11_told 10 = .ok (.iload_n 1, 1) := dk_27 (by decide +kernel)
theorem dX11_told_11 : decode cX11_told 11 = .ok (.tableswitch 135 0 7 #[45, 53, 61, 69, 91, 99, 107, 115], 45) := by decide +kernel
theorem dX11_told_56 : decode cX11_told 56 = .ok (.aload_n 0, 1) := dk_42 (by decide +kernel)
theorem dX11_told_57 : decode cX11_told 57 = .ok (.getfield 34, 3) := dk_180 (a := 0) (b := 34) (by decide +kernel) rfl
theorem dX11_told_60 : decode cX11_told 60 = .ok (.getfield 129, 3) := dk_180 (a := 0) (b := 129) (by decide +kernel) rfl
theorem dX11_told_63 : decode cX11_told 63 = .ok (.ireturn, 1) := dk_172 (by decide +kernel)
theorem dX11_told_64 : decode cX11_told 64 = .ok (.aload_n 0, 1) := dk_42 (by decide +kernel)
theorem dX11_told_65 : decode cX11_told 65 = .ok (.getfield 34, 3) := dk_180 (a := 0) (b := 34) (by decide +kernel) rfl
theorem dX11_told_68 : decode cX11_told 68 = .ok (.getfield 120, 3) := dk_180 (a := 0) (b := 120) (by decide +kernel) rfl
theorem dX11_told_71 : decode cX11_told 71 = .ok (.ireturn, 1) := dk_172 (by decide +kernel)
theorem dX11_told_72 : decode cX11_told 72 = .ok (.aload_n 0, 1) := dk_42 (by decide +kernel)
theorem dX11_told_73 : decode cX11_told 73 = .ok (.getfield 34, 3) := dk_180 (a := 0) (b := 34) (by decide +kernel) rfl
theorem dX11_told_76 : decode cX11_told 76 = .ok (.getfield 132, 3) := dk_180 (a := 0) (b := 132) (by decide +kernel) rfl
theorem dX11_told_79 : decode cX11_told 79 = .ok (.ireturn, 1) := dk_172 (by decide +kernel)
theorem dX11_told_80 : decode cX11_told 80 = .ok (.aload_n 0, 1) := dk_42 (by decide +kernel)
theorem dX11_told_81 : decode cX11_told 81 = .ok (.getfield 34, 3) := dk_180 (a := 0) (b := 34) (by decide +kernel) rfl
theorem dX11_told_84 : decode cX11_told 84 = .ok (.getfield 132, 3) := dk_180 (a := 0) (b := 132) (by decide +kernel) rfl
theorem dX11_told_87 : decode cX11_told 87 = .ok (.ifCond .ne 7, 3) := dk_154 (a := 0) (b := 7) (by decide +kernel) rfl
theorem dX11_told_90 : decode cX11_told 90 = .ok (.iconst (-1), 1) := dk_2 (by decide +kernel)
theorem dX11_told_91 : decode cX11_told 91 = .ok (.goto 10, 3) := dk_167 (a := 0) (b := 10) (by decide +kernel) rfl
theorem dX11_told_94 : decode cX11_told 94 = .ok (.aload_n 0, 1) := dk_42 (by decide +kernel)
theorem dX11_told_95 : decode cX11_told 95 = .ok (.getfield 34, 3) := dk_180 (a := 0) (b := 34) (by decide +kernel) rfl
theorem dX11_told_98 : decode cX11_told 98 = .ok (.invokevirtual 135, 3) := dk_182 (a := 0) (b := 135) (by decide +kernel) rfl
theorem dX11_told_101 : decode cX11_told 101 = .ok (.ireturn, 1) := dk_172 (by decide +kernel)
theorem dX11_told_102 : decode cX11_told 102 = .ok (.aload_n 0, 1) := dk_42 (by decide +kernel)
theorem dX11_told_103 : decode cX11_told 103 = .ok (.getfield 34, 3) := dk_180 (a := 0) (b := 34) (by decide +kernel) rfl
theorem dX11_told_106 : decode cX11_told 106 = .ok (.getfield 139, 3) := dk_180 (a := 0) (b := 139) (by decide +kernel) rfl
theorem dX11_told_109 : decode cX11_told 109 = .ok (.ireturn, 1) := dk_172 (by decide +kernel)
theorem dX11_told_110 : decode cX11_told 110 = .ok (.aload_n 0, 1) := dk_42 (by decide +kernel)
theorem dX11_told_111 : decode cX11_told 111 = .ok (.getfield 34, 3) := dk_180 (a := 0) (b := 34) (by decide +kernel) rfl
theorem dX11_told_114 : decode cX11_told 114 = .ok (.getfield 142, 3) := dk_180 (a := 0) (b := 142) (by decide +kernel) rfl
theorem dX11_told_117 : decode cX11_told 117 = .ok (.ireturn, 1) := dk_172 (by decide +kernel)
theorem dX11_told_118 : decode cX11_told 118 = .ok (.aload_n 0, 1) := dk_42 (by decide +kernel)
theorem dX11_told_119 : decode cX11_told 119 = .ok (.getfield 34, 3) := dk_180 (a := 0) (b := 34) (by decide +kernel) rfl
theorem dX11_told_122 : decode cX11_told 122 = .ok (.getfield 145, 3) := dk_180 (a := 0) (b := 145) (by decide +kernel) rfl
theorem dX11_told_125 : decode cX11_told 125 = .ok (.ireturn, 1) := dk_172 (by decide +kernel)
theorem dX11_told_126 : decode cX11_told 126 = .ok (.iconst 3, 1) := dk_6 (by decide +kernel)
theorem dX11_told_127 : decode cX11_told 127 = .ok (.aload_n 0, 1) := dk_42 (by decide +kernel)
theorem dX11_told_128 : decode cX11_told 128 = .ok (.getfield 34, 3) := dk_180 (a := 0) (b := 34) (by decide +kernel) rfl
theorem dX11_told_131 : decode cX11_told 131 = .ok (.getfield 142, 3) := dk_180 (a := 0) (b := 142) (by decide +kernel) rfl
theorem dX11_told_134 : decode cX11_told 134 = .ok (.imul, 1) := dk_104 (by decide +kernel)
theorem dX11_told_135 : decode cX11_told 135 = .ok (.iconst 4, 1) := dk_7 (by decide +kernel)
theorem dX11_told_136 : decode cX11_told 136 = .ok (.aload_n 0, 1) := dk_42 (by decide +kernel)
theorem dX11_told_137 : decode cX11_told 137 = .ok (.getfield 34, 3) := dk_180 (a := 0) (b := 34) (by decide +kernel) rfl
theorem dX11_told_140 : decode cX11_told 140 = .ok (.getfield 145, 3) := dk_180 (a := 0) (b := 145) (by decide +kernel) rfl
theorem dX11_told_143 : decode cX11_told 143 = .ok (.imul, 1) := dk_104 (by decide +kernel)
theorem dX11_told_144 : decode cX11_told 144 = .ok (.iadd, 1) := dk_96 (by decide +kernel)
theorem dX11_told_145 : decode cX11_told 145 = .ok (.ireturn, 1) := dk_172 (by decide +kernel)
theorem dX11_told_146 : decode cX11_told 146 = .ok (.iconst (-1), 1) := dk_2 (by decide +kernel)
theorem dX11_told_147 : decode cX11_told 147 = .ok (.ireturn, 1) := dk_172 (by decide +kernel)
theorem dX11_change_0 : decode cX11_change 0 = .ok (.aload_n 0, 1) := dk_42 (by decide +kernel)
theorem dX11_change_1 : decode cX11_change 1 = .ok (.getfield 116, 3) := dk_180 (a := 0) (b := 116) (by decide +kernel) rfl
theorem dX11_change_4 : decode cX11_change 4 = .ok (.ifCond .eq 27, 3) := dk_153 (a := 0) (b := 27) (by decide +kernel) rfl
theorem dX11_change_7 : decode cX11_change 7 = .ok (.iload_n 1, 1) := dk_27 (by decide +kernel)
theorem dX11_change_8 : decode cX11_change 8 = .ok (.ifCond .lt 23, 3) := dk_155 (a := 0) (b := 23) (by decide +kernel) rfl
theorem dX11_change_11 : decode cX11_change 11 = .ok (.iload_n 1, 1) := dk_27 (by decide +kernel)
theorem dX11_change_12 : decode cX11_change 12 = .ok (.aload_n 0, 1) := dk_42 (by decide +kernel)
theorem dX11_change_13 : decode cX11_change 13 = .ok (.getfield 34, 3) := dk_180 (a := 0) (b := 34) (by decide +kernel) rfl
theorem dX11_change_16 : decode cX11_change 16 = .ok (.getfield 142, 3) := dk_180 (a := 0) (b := 142) (by decide +kernel) rfl
theorem dX11_change_19 : decode cX11_change 19 = .ok (.if_icmp .ge 12, 3) := dk_162 (a := 0) (b := 12) (by decide +kernel) rfl
theorem dX11_change_22 : decode cX11_change 22 = .ok (.iload_n 2, 1) := dk_28 (by decide +kernel)
theorem dX11_change_23 : decode cX11_change 23 = .ok (.ifCond .lt 8, 3) := dk_155 (a := 0) (b := 8) (by decide +kernel) rfl
theorem dX11_change_26 : decode cX11_change 26 = .ok (.iload_n 2, 1) := dk_28 (by decide +kernel)
theorem dX11_change_27 : decode cX11_change 27 = .ok (.iconst 1, 1) := dk_4 (by decide +kernel)
theorem dX11_change_28 : decode cX11_change 28 = .ok (.if_icmp .le 5, 3) := dk_164 (a := 0) (b := 5) (by decide +kernel) rfl
theorem dX11_change_31 : decode cX11_change 31 = .ok (.iconst (-1), 1) := dk_2 (by decide +kernel)
theorem dX11_change_32 : decode cX11_change 32 = .ok (.ireturn, 1) := dk_172 (by decide +kernel)
theorem dX11_change_33 : decode cX11_change 33 = .ok (.iload_n 2, 1) := dk_28 (by decide +kernel)
theorem dX11_change_34 : decode cX11_change 34 = .ok (.ifCond .ne 15, 3) := dk_154 (a := 0) (b := 15) (by decide +kernel) rfl
theorem dX11_change_37 : decode cX11_change 37 = .ok (.aload_n 0, 1) := dk_42 (by decide +kernel)
theorem dX11_change_38 : decode cX11_change 38 = .ok (.getfield 34, 3) := dk_180 (a := 0) (b := 34) (by decide +kernel) rfl
theorem dX11_change_41 : decode cX11_change 41 = .ok (.getfield 148, 3) := dk_180 (a := 0) (b := 148) (by decide +kernel) rfl
theorem dX11_change_44 : decode cX11_change 44 = .ok (.iload_n 1, 1) := dk_27 (by decide +kernel)
theorem dX11_change_45 : decode cX11_change 45 = .ok (.iaload, 1) := dk_46 (by decide +kernel)
theorem dX11_change_46 : decode cX11_change 46 = .ok (.goto 12, 3) := dk_167 (a := 0) (b := 12) (by decide +kernel) rfl
theorem dX11_change_49 : decode cX11_change 49 = .ok (.aload_n 0, 1) := dk_42 (by decide +kernel)
theorem dX11_change_50 : decode cX11_change 50 = .ok (.getfield 34, 3) := dk_180 (a := 0) (b := 34) (by decide +kernel) rfl
theorem dX11_change_53 : decode cX11_change 53 = .ok (.getfield 151, 3) := dk_180 (a := 0) (b := 151) (by decide +kernel) rfl
theorem dX11_change_56 : decode cX11_change 56 = .ok (.iload_n 1, 1) := dk_27 (by decide +kernel)
theorem dX11_change_57 : decode cX11_change 57 = .ok (.iaload, 1) := dk_46 (by decide +kernel)
theorem dX11_change_58 : decode cX11_change 58 = .ok (.ireturn, 1) := dk_172 (by decide +kernel)
theorem dX11_step_0 : decode cX11_step 0 = .ok (.aload_n 0, 1) := dk_42 (by decide +kernel)
theorem dX11_step_1 : decode cX11_step 1 = .ok (.getfield 116, 3) := dk_180 (a := 0) (b := 116) (by decide +kernel) rfl
theorem dX11_step_4 : decode cX11_step 4 = .ok (.ifCond .eq 19, 3) := dk_153 (a := 0) (b := 19) (by decide +kernel) rfl
theorem dX11_step_7 : decode cX11_step 7 = .ok (.iload_n 1, 1) := dk_27 (by decide +kernel)
theorem dX11_step_8 : decode cX11_step 8 = .ok (.iconst 1, 1) := dk_4 (by decide +kernel)
theorem dX11_step_9 : decode cX11_step 9 = .ok (.if_icmp .lt 14, 3) := dk_161 (a := 0) (b := 14) (by decide +kernel) rfl
theorem dX11_step_12 : decode cX11_step 12 = .ok (.iload_n 1, 1) := dk_27 (by decide +kernel)
theorem dX11_step_13 : decode cX11_step 13 = .ok (.aload_n 0, 1) := dk_42 (by decide +kernel)
theorem dX11_step_14 : decode cX11_step 14 = .ok (.getfield 34, 3) := dk_180 (a := 0) (b := 34) (by decide +kernel) rfl
theorem dX11_step_17 : decode cX11_step 17 = .ok (.getfield 120, 3) := dk_180 (a := 0) (b := 120) (by decide +kernel) rfl
theorem dX11_step_20 : decode cX11_step 20 = .ok (.if_icmp .le 5, 3) := dk_164 (a := 0) (b := 5) (by decide +kernel) rfl
theorem dX11_step_23 : decode cX11_step 23 = .ok (.iconst (-1), 1) := dk_2 (by decide +kernel)
theorem dX11_step_24 : decode cX11_step 24 = .ok (.ireturn, 1) := dk_172 (by decide +kernel)
theorem dX11_step_25 : decode cX11_step 25 = .ok (.iload_n 2, 1) := dk_28 (by decide +kernel)
theorem dX11_step_26 : decode cX11_step 26 = .ok (.tableswitch 98 0 5 #[38, 48, 58, 68, 78, 88], 38) := by decide +kernel
theorem dX11_step_64 : decode cX11_step 64 = .ok (.aload_n 0, 1) := dk_42 (by decide +kernel)
theorem dX11_step_65 : decode cX11_step 65 = .ok (.getfield 34, 3) := dk_180 (a := 0) (b := 34) (by decide +kernel) rfl
theorem dX11_step_68 : decode cX11_step 68 = .ok (.getfield 154, 3) := dk_180 (a := 0) (b := 154) (by decide +kernel) rfl
theorem dX11_step_71 : decode cX11_step 71 = .ok (.iload_n 1, 1) := dk_27 (by decide +kernel)
theorem dX11_step_72 : decode cX11_step 72 = .ok (.iaload, 1) := dk_46 (by decide +kernel)
theorem dX11_step_73 : decode cX11_step 73 = .ok (.ireturn, 1) := dk_172 (by decide +kernel)
theorem dX11_step_74 : decode cX11_step 74 = .ok (.aload_n 0, 1) := dk_42 (by decide +kernel)
theorem dX11_step_75 : decode cX11_step 75 = .ok (.getfield 34, 3) := dk_180 (a := 0) (b := 34) (by decide +kernel) rfl
theorem dX11_step_78 : decode cX11_step 78 = .ok (.getfield 157, 3) := dk_180 (a := 0) (b := 157) (by decide +kernel) rfl
theorem dX11_step_81 : decode cX11_step 81 = .ok (.iload_n 1, 1) := dk_27 (by decide +kernel)
theorem dX11_step_82 : decode cX11_step 82 = .ok (.iaload, 1) := dk_46 (by decide +kernel)
theorem dX11_step_83 : decode cX11_step 83 = .ok (.ireturn, 1) := dk_172 (by decide +kernel)
theorem dX11_step_84 : decode cX11_step 84 = .ok (.aload_n 0, 1) := dk_42 (by decide +kernel)
theorem dX11_step_85 : decode cX11_step 85 = .ok (.getfield 34, 3) := dk_180 (a := 0) (b := 34) (by decide +kernel) rfl
theorem dX11_step_88 : decode cX11_step 88 = .ok (.getfield 160, 3) := dk_180 (a := 0) (b := 160) (by decide +kernel) rfl
theorem dX11_step_91 : decode cX11_step 91 = .ok (.iload_n 1, 1) := dk_27 (by decide +kernel)
theorem dX11_step_92 : decode cX11_step 92 = .ok (.iaload, 1) := dk_46 (by decide +kernel)
theorem dX11_step_93 : decode cX11_step 93 = .ok (.ireturn, 1) := dk_172 (by decide +kernel)
theorem dX11_step_94 : decode cX11_step 94 = .ok (.aload_n 0, 1) := dk_42 (by decide +kernel)
theorem dX11_step_95 : decode cX11_step 95 = .ok (.getfield 34, 3) := dk_180 (a := 0) (b := 34) (by decide +kernel) rfl
theorem dX11_step_98 : decode cX11_step 98 = .ok (.getfield 163, 3) := dk_180 (a := 0) (b := 163) (by decide +kernel) rfl
theorem dX11_step_101 : decode cX11_step 101 = .ok (.iload_n 1, 1) := dk_27 (by decide +kernel)
theorem dX11_step_102 : decode cX11_step 102 = .ok (.iaload, 1) := dk_46 (by decide +kernel)
theorem dX11_step_103 : decode cX11_step 103 = .ok (.ireturn, 1) := dk_172 (by decide +kernel)
theorem dX11_step_104 : decode cX11_step 104 = .ok (.aload_n 0, 1) := dk_42 (by decide +kernel)
theorem dX11_step_105 : decode cX11_step 105 = .ok (.getfield 34, 3) := dk_180 (a := 0) (b := 34) (by decide +kernel) rfl
theorem dX11_step_108 : decode cX11_step 108 = .ok (.getfield 166, 3) := dk_180 (a := 0) (b := 166) (by decide +kernel) rfl
theorem dX11_step_111 : decode cX11_step 111 = .ok (.iload_n 1, 1) := dk_27 (by decide +kernel)
theorem dX11_step_112 : decode cX11_step 112 = .ok (.iaload, 1) := dk_46 (by decide +kernel)
theorem dX11_step_113 : decode cX11_step 113 = .ok (.ireturn, 1) := dk_172 (by decide +kernel)
theorem dX11_step_114 : decode cX11_step 114 = .ok (.aload_n 0, 1) := dk_42 (by decide +kernel)
theorem dX11_step_115 : decode cX11_step 115 = .ok (.getfield 34, 3) := dk_180 (a := 0) (b := 34) (by decide +kernel) rfl
theorem dX11_step_118 : decode cX11_step 118 = .ok (.getfield 169, 3) := dk_180 (a := 0) (b := 169) (by decide +kernel) rfl
theorem dX11_step_121 : decode cX11_step 121 = .ok (.iload_n 1, 1) := dk_27 (by decide +kernel)
theorem dX11_step_122 : decode cX11_step 122 = .ok (.iaload, 1) := dk_46 (by decide +kernel)
theorem dX11_step_123 : decode cX11_step 123 = .ok (.ireturn, 1) := dk_172 (by decide +kernel)
theorem dX11_step_124 : decode cX11_step 124 = .ok (.iconst (-1), 1) := dk_2 (by decide +kernel)
theorem dX11_step_125 : decode cX11_step 125 = .ok (.ireturn, 1) := dk_172 (by decide +kernel)
theorem dX11_play_0 : decode cX11_play 0 = .ok (.aload_n 0, 1) := dk_42 (by decide +kernel)
theorem dX11_play_1 : decode cX11_play 1 = .ok (.getfield 116, 3) := dk_180 (a := 0) (b := 116) (by decide +kernel) rfl
theorem dX11_play_4 : decode cX11_play 4 = .ok (.ifCond .ne 6, 3) := dk_154 (a := 0) (b := 6) (by decide +kernel) rfl
theorem dX11_play_7 : decode cX11_play 7 = .ok (.bipush (-2), 2) := dk_16 (a := 254) (by decide +kernel) rfl
theorem dX11_play_9 : decode cX11_play 9 = .ok (.ireturn, 1) := dk_172 (by decide +kernel)
theorem dX11_play_10 : decode cX11_play 10 = .ok (.iload_n 1, 1) := dk_27 (by decide +kernel)
theorem dX11_play_11 : decode cX11_play 11 = .ok (.ifCond .lt 29, 3) := dk_155 (a := 0) (b := 29) (by decide +kernel) rfl
theorem dX11_play_14 : decode cX11_play 14 = .ok (.iload_n 1, 1) := dk_27 (by decide +kernel)
theorem dX11_play_15 : decode cX11_play 15 = .ok (.aload_n 0, 1) := dk_42 (by decide +kernel)
theorem dX11_play_16 : decode cX11_play 16 = .ok (.getfield 34, 3) := dk_180 (a := 0) (b := 34) (by decide +kernel) rfl
theorem dX11_play_19 : decode cX11_play 19 = .ok (.getfield 142, 3) := dk_180 (a := 0) (b := 142) (by decide +kernel) rfl
theorem dX11_play_22 : decode cX11_play 22 = .ok (.if_icmp .gt 18, 3) := dk_163 (a := 0) (b := 18) (by decide +kernel) rfl
theorem dX11_play_25 : decode cX11_play 25 = .ok (.iload_n 2, 1) := dk_28 (by decide +kernel)
theorem dX11_play_26 : decode cX11_play 26 = .ok (.ifCond .lt 14, 3) := dk_155 (a := 0) (b := 14) (by decide +kernel) rfl
theorem dX11_play_29 : decode cX11_play 29 = .ok (.iload_n 2, 1) := dk_28 (by decide +kernel)
theorem dX11_play_30 : decode cX11_play 30 = .ok (.aload_n 0, 1) := dk_42 (by decide +kernel)
theorem dX11_play_31 : decode cX11_play 31 = .ok (.getfield 34, 3) := dk_180 (a := 0) (b := 34) (by decide +kernel) rfl
theorem dX11_play_34 : decode cX11_play 34 = .ok (.getfield 145, 3) := dk_180 (a := 0) (b := 145) (by decide +kernel) rfl
theorem dX11_play_37 : decode cX11_play 37 = .ok (.if_icmp .le 5, 3) := dk_164 (a := 0) (b := 5) (by decide +kernel) rfl
theorem dX11_play_40 : decode cX11_play 40 = .ok (.iconst (-1), 1) := dk_2 (by decide +kernel)
theorem dX11_play_41 : decode cX11_play 41 = .ok (.ireturn, 1) := dk_172 (by decide +kernel)
theorem dX11_play_42 : decode cX11_play 42 = .ok (.aload_n 0, 1) := dk_42 (by decide +kernel)
theorem dX11_play_43 : decode cX11_play 43 = .ok (.getfield 28, 3) := dk_180 (a := 0) (b := 28) (by decide +kernel) rfl
theorem dX11_play_46 : decode cX11_play 46 = .ok (.aload_n 0, 1) := dk_42 (by decide +kernel)
theorem dX11_play_47 : decode cX11_play 47 = .ok (.getfield 12, 3) := dk_180 (a := 0) (b := 12) (by decide +kernel) rfl
theorem dX11_play_50 : decode cX11_play 50 = .ok (.iload_n 2, 1) := dk_28 (by decide +kernel)
theorem dX11_play_51 : decode cX11_play 51 = .ok (.invokevirtual 105, 3) := dk_182 (a := 0) (b := 105) (by decide +kernel) rfl
theorem dX11_play_54 : decode cX11_play 54 = .ok (.aload_n 0, 1) := dk_42 (by decide +kernel)
theorem dX11_play_55 : decode cX11_play 55 = .ok (.aload_n 0, 1) := dk_42 (by decide +kernel)
theorem dX11_play_56 : decode cX11_play 56 = .ok (.iload_n 1, 1) := dk_27 (by decide +kernel)
theorem dX11_play_57 : decode cX11_play 57 = .ok (.invokevirtual 172, 3) := dk_182 (a := 0) (b := 172) (by decide +kernel) rfl
theorem dX11_play_60 : decode cX11_play 60 = .ok (.putfield 62, 3) := dk_181 (a := 0) (b := 62) (by decide +kernel) rfl
theorem dX11_play_63 : decode cX11_play 63 = .ok (.aload_n 0, 1) := dk_42 (by decide +kernel)
theorem dX11_play_64 : decode cX11_play 64 = .ok (.getfield 176, 3) := dk_180 (a := 0) (b := 176) (by decide +kernel) rfl
theorem dX11_play_67 : decode cX11_play 67 = .ok (.ireturn, 1) := dk_172 (by decide +kernel)
theorem dX11_ended_0 : decode cX11_ended 0 = .ok (.aload_n 0, 1) := dk_42 (by decide +kernel)
theorem dX11_ended_1 : decode cX11_ended 1 = .ok (.getfield 62, 3) := dk_180 (a := 0) (b := 62) (by decide +kernel) rfl
theorem dX11_ended_4 : decode cX11_ended 4 = .ok (.ireturn, 1) := dk_172 (by decide +kernel)
theorem dX11_to_0 : decode cX11_to 0 = .ok (.aload_n 0, 1) := dk_42 (by decide +kernel)
theorem dX11_to_1 : decode cX11_to 1 = .ok (.getfield 116, 3) := dk_180 (a := 0) (b := 116) (by decide +kernel) rfl
theorem dX11_to_4 : decode cX11_to 4 = .ok (.ifCond .ne 6, 3) := dk_154 (a := 0) (b := 6) (by decide +kernel) rfl
theorem dX11_to_7 : decode cX11_to 7 = .ok (.bipush (-2), 2) := dk_16 (a := 254) (by decide +kernel) rfl
theorem dX11_to_9 : decode cX11_to 9 = .ok (.ireturn, 1) := dk_172 (by decide +kernel)
theorem dX11_to_10 : decode cX11_to 10 = .ok (.aload_n 0, 1) := dk_42 (by decide +kernel)
theorem dX11_to_11 : decode cX11_to 11 = .ok (.iload_n 1, 1) := dk_27 (by decide +kernel)
theorem dX11_to_12 : decode cX11_to 12 = .ok (.invokevirtual 179, 3) := dk_182 (a := 0) (b := 179) (by decide +kernel) rfl
theorem dX11_to_15 : decode cX11_to 15 = .ok (.ifCond .ne 5, 3) := dk_154 (a := 0) (b := 5) (by decide +kernel) rfl
theorem dX11_to_18 : decode cX11_to 18 = .ok (.iconst (-1), 1) := dk_2 (by decide +kernel)
theorem dX11_to_19 : decode cX11_to 19 = .ok (.ireturn, 1) := dk_172 (by decide +kernel)
theorem dX11_to_20 : decode cX11_to 20 = .ok (.aload_n 0, 1) := dk_42 (by decide +kernel)
theorem dX11_to_21 : decode cX11_to 21 = .ok (.iload_n 1, 1) := dk_27 (by decide +kernel)
theorem dX11_to_22 : decode cX11_to 22 = .ok (.putfield 126, 3) := dk_181 (a := 0) (b := 126) (by decide +kernel) rfl
theorem dX11_to_25 : decode cX11_to 25 = .ok (.aload_n 0, 1) := dk_42 (by decide +kernel)
theorem dX11_to_26 : decode cX11_to 26 = .ok (.getfield 126, 3) := dk_180 (a := 0) (b := 126) (by decide +kernel) rfl
theorem dX11_to_29 : decode cX11_to 29 = .ok (.ireturn, 1) := dk_172 (by decide +kernel)
theorem dX11_back_0 : decode cX11_back 0 = .ok (.aload_n 0, 1) := dk_42 (by decide +kernel)
theorem dX11_back_1 : decode cX11_back 1 = .ok (.getfield 116, 3) := dk_180 (a := 0) (b := 116) (by decide +kernel) rfl
theorem dX11_back_4 : decode cX11_back 4 = .ok (.ifCond .ne 6, 3) := dk_154 (a := 0) (b := 6) (by decide +kernel) rfl
theorem dX11_back_7 : decode cX11_back 7 = .ok (.bipush (-2), 2) := dk_16 (a := 254) (by decide +kernel) rfl
theorem dX11_back_9 : decode cX11_back 9 = .ok (.ireturn, 1) := dk_172 (by decide +kernel)
theorem dX11_back_10 : decode cX11_back 10 = .ok (.iload_n 1, 1) := dk_27 (by decide +kernel)
theorem dX11_back_11 : decode cX11_back 11 = .ok (.ifCond .lt 11, 3) := dk_155 (a := 0) (b := 11) (by decide +kernel) rfl
theorem dX11_back_14 : decode cX11_back 14 = .ok (.iload_n 1, 1) := dk_27 (by decide +kernel)
theorem dX11_back_15 : decode cX11_back 15 = .ok (.aload_n 0, 1) := dk_42 (by decide +kernel)
theorem dX11_back_16 : decode cX11_back 16 = .ok (.getfield 126, 3) := dk_180 (a := 0) (b := 126) (by decide +kernel) rfl
theorem dX11_back_19 : decode cX11_back 19 = .ok (.if_icmp .le 5, 3) := dk_164 (a := 0) (b := 5) (by decide +kernel) rfl
theorem dX11_back_22 : decode cX11_back 22 = .ok (.iconst (-1), 1) := dk_2 (by decide +kernel)
theorem dX11_back_23 : decode cX11_back 23 = .ok (.ireturn, 1) := dk_172 (by decide +kernel)
theorem dX11_back_24 : decode cX11_back 24 = .ok (.aload_n 0, 1) := dk_42 (by decide +kernel)
theorem dX11_back_25 : decode cX11_back 25 = .ok (.dup, 1) := dk_89 (by decide +kernel)
theorem dX11_back_26 : decode cX11_back 26 = .ok (.getfield 126, 3) := dk_180 (a := 0) (b := 126) (by decide +kernel) rfl
theorem dX11_back_29 : decode cX11_back 29 = .ok (.iload_n 1, 1) := dk_27 (by decide +kernel)
theorem dX11_back_30 : decode cX11_back 30 = .ok (.isub, 1) := dk_100 (by decide +kernel)
theorem dX11_back_31 : decode cX11_back 31 = .ok (.putfield 126, 3) := dk_181 (a := 0) (b := 126) (by decide +kernel) rfl
theorem dX11_back_34 : decode cX11_back 34 = .ok (.aload_n 0, 1) := dk_42 (by decide +kernel)
theorem dX11_back_35 : decode cX11_back 35 = .ok (.getfield 126, 3) := dk_180 (a := 0) (b := 126) (by decide +kernel) rfl
theorem dX11_back_38 : decode cX11_back 38 = .ok (.ireturn, 1) := dk_172 (by decide +kernel)
theorem dX11_thing_0 : decode cX11_thing 0 = .ok (.aload_n 0, 1) := dk_42 (by decide +kernel)
theorem dX11_thing_1 : decode cX11_thing 1 = .ok (.getfield 116, 3) := dk_180 (a := 0) (b := 116) (by decide +kernel) rfl
theorem dX11_thing_4 : decode cX11_thing 4 = .ok (.ifCond .ne 6, 3) := dk_154 (a := 0) (b := 6) (by decide +kernel) rfl
theorem dX11_thing_7 : decode cX11_thing 7 = .ok (.bipush (-2), 2) := dk_16 (a := 254) (by decide +kernel) rfl
theorem dX11_thing_9 : decode cX11_thing 9 = .ok (.ireturn, 1) := dk_172 (by decide +kernel)
theorem dX11_thing_10 : decode cX11_thing 10 = .ok (.aload_n 0, 1) := dk_42 (by decide +kernel)
theorem dX11_thing_11 : decode cX11_thing 11 = .ok (.aload_n 0, 1) := dk_42 (by decide +kernel)
theorem dX11_thing_12 : decode cX11_thing 12 = .ok (.getfield 126, 3) := dk_180 (a := 0) (b := 126) (by decide +kernel) rfl
theorem dX11_thing_15 : decode cX11_thing 15 = .ok (.invokevirtual 200, 3) := dk_182 (a := 0) (b := 200) (by decide +kernel) rfl
theorem dX11_thing_18 : decode cX11_thing 18 = .ok (.astore_n 3, 1) := dk_78 (by decide +kernel)
theorem dX11_thing_19 : decode cX11_thing 19 = .ok (.aload_n 3, 1) := dk_45 (by decide +kernel)
theorem dX11_thing_20 : decode cX11_thing 20 = .ok (.iload_n 1, 1) := dk_27 (by decide +kernel)
theorem dX11_thing_21 : decode cX11_thing 21 = .ok (.invokevirtual 210, 3) := dk_182 (a := 0) (b := 210) (by decide +kernel) rfl
theorem dX11_thing_24 : decode cX11_thing 24 = .ok (.ifCond .eq 12, 3) := dk_153 (a := 0) (b := 12) (by decide +kernel) rfl
theorem dX11_thing_27 : decode cX11_thing 27 = .ok (.iload_n 2, 1) := dk_28 (by decide +kernel)
theorem dX11_thing_28 : decode cX11_thing 28 = .ok (.ifCond .lt 8, 3) := dk_155 (a := 0) (b := 8) (by decide +kernel) rfl
theorem dX11_thing_31 : decode cX11_thing 31 = .ok (.iload_n 2, 1) := dk_28 (by decide +kernel)
theorem dX11_thing_32 : decode cX11_thing 32 = .ok (.iconst 1, 1) := dk_4 (by decide +kernel)
theorem dX11_thing_33 : decode cX11_thing 33 = .ok (.if_icmp .le 5, 3) := dk_164 (a := 0) (b := 5) (by decide +kernel) rfl
theorem dX11_thing_36 : decode cX11_thing 36 = .ok (.iconst (-1), 1) := dk_2 (by decide +kernel)
theorem dX11_thing_37 : decode cX11_thing 37 = .ok (.ireturn, 1) := dk_172 (by decide +kernel)
theorem dX11_thing_38 : decode cX11_thing 38 = .ok (.iload_n 2, 1) := dk_28 (by decide +kernel)
theorem dX11_thing_39 : decode cX11_thing 39 = .ok (.ifCond .ne 10, 3) := dk_154 (a := 0) (b := 10) (by decide +kernel) rfl
theorem dX11_thing_42 : decode cX11_thing 42 = .ok (.aload_n 3, 1) := dk_45 (by decide +kernel)
theorem dX11_thing_43 : decode cX11_thing 43 = .ok (.getfield 213, 3) := dk_180 (a := 0) (b := 213) (by decide +kernel) rfl
theorem dX11_thing_46 : decode cX11_thing 46 = .ok (.iload_n 1, 1) := dk_27 (by decide +kernel)
theorem dX11_thing_47 : decode cX11_thing 47 = .ok (.iaload, 1) := dk_46 (by decide +kernel)
theorem dX11_thing_48 : decode cX11_thing 48 = .ok (.ireturn, 1) := dk_172 (by decide +kernel)
theorem dX11_thing_49 : decode cX11_thing 49 = .ok (.aload_n 3, 1) := dk_45 (by decide +kernel)
theorem dX11_thing_50 : decode cX11_thing 50 = .ok (.getfield 213, 3) := dk_180 (a := 0) (b := 213) (by decide +kernel) rfl
theorem dX11_thing_53 : decode cX11_thing 53 = .ok (.iload_n 1, 1) := dk_27 (by decide +kernel)
theorem dX11_thing_54 : decode cX11_thing 54 = .ok (.iaload, 1) := dk_46 (by decide +kernel)
theorem dX11_thing_55 : decode cX11_thing 55 = .ok (.iconst 1, 1) := dk_4 (by decide +kernel)
theorem dX11_thing_56 : decode cX11_thing 56 = .ok (.if_icmp .ne 12, 3) := dk_160 (a := 0) (b := 12) (by decide +kernel) rfl
theorem dX11_thing_59 : decode cX11_thing 59 = .ok (.aload_n 3, 1) := dk_45 (by decide +kernel)
theorem dX11_thing_60 : decode cX11_thing 60 = .ok (.getfield 216, 3) := dk_180 (a := 0) (b := 216) (by decide +kernel) rfl
theorem dX11_thing_63 : decode cX11_thing 63 = .ok (.iload_n 1, 1) := dk_27 (by decide +kernel)
theorem dX11_thing_64 : decode cX11_thing 64 = .ok (.iaload, 1) := dk_46 (by decide +kernel)
theorem dX11_thing_65 : decode cX11_thing 65 = .ok (.goto 9, 3) := dk_167 (a := 0) (b := 9) (by decide +kernel) rfl
theorem dX11_thing_68 : decode cX11_thing 68 = .ok (.aload_n 3, 1) := dk_45 (by decide +kernel)
theorem dX11_thing_69 : decode cX11_thing 69 = .ok (.getfield 219, 3) := dk_180 (a := 0) (b := 219) (by decide +kernel) rfl
theorem dX11_thing_72 : decode cX11_thing 72 = .ok (.iload_n 1, 1) := dk_27 (by decide +kernel)
theorem dX11_thing_73 : decode cX11_thing 73 = .ok (.iaload, 1) := dk_46 (by decide +kernel)
theorem dX11_thing_74 : decode cX11_thing 74 = .ok (.ireturn, 1) := dk_172 (by decide +kernel)
theorem dX11_thread_0 : decode cX11_thread 0 = .ok (.aload_n 0, 1) := dk_42 (by decide +kernel)
theorem dX11_thread_1 : decode cX11_thread 1 = .ok (.getfield 116, 3) := dk_180 (a := 0) (b := 116) (by decide +kernel) rfl
theorem dX11_thread_4 : decode cX11_thread 4 = .ok (.ifCond .ne 6, 3) := dk_154 (a := 0) (b := 6) (by decide +kernel) rfl
theorem dX11_thread_7 : decode cX11_thread 7 = .ok (.bipush (-2), 2) := dk_16 (a := 254) (by decide +kernel) rfl
theorem dX11_thread_9 : decode cX11_thread 9 = .ok (.ireturn, 1) := dk_172 (by decide +kernel)
theorem dX11_thread_10 : decode cX11_thread 10 = .ok (.iload_n 1, 1) := dk_27 (by decide +kernel)
theorem dX11_thread_11 : decode cX11_thread 11 = .ok (.invokestatic 66, 3) := dk_184 (a := 0) (b := 66) (by decide +kernel) rfl
theorem dX11_thread_14 : decode cX11_thread 14 = .ok (.ifCond .eq 12, 3) := dk_153 (a := 0) (b := 12) (by decide +kernel) rfl
theorem dX11_thread_17 : decode cX11_thread 17 = .ok (.iload_n 2, 1) := dk_28 (by decide +kernel)
theorem dX11_thread_18 : decode cX11_thread 18 = .ok (.ifCond .lt 8, 3) := dk_155 (a := 0) (b := 8) (by decide +kernel) rfl
theorem dX11_thread_21 : decode cX11_thread 21 = .ok (.iload_n 2, 1) := dk_28 (by decide +kernel)
theorem dX11_thread_22 : decode cX11_thread 22 = .ok (.iconst 1, 1) := dk_4 (by decide +kernel)
theorem dX11_thread_23 : decode cX11_thread 23 = .ok (.if_icmp .le 5, 3) := dk_164 (a := 0) (b := 5) (by decide +kernel) rfl
theorem dX11_thread_26 : decode cX11_thread 26 = .ok (.iconst (-1), 1) := dk_2 (by decide +kernel)
theorem dX11_thread_27 : decode cX11_thread 27 = .ok (.ireturn, 1) := dk_172 (by decide +kernel)
theorem dX11_thread_28 : decode cX11_thread 28 = .ok (.aload_n 0, 1) := dk_42 (by decide +kernel)
theorem dX11_thread_29 : decode cX11_thread 29 = .ok (.aload_n 0, 1) := dk_42 (by decide +kernel)
theorem dX11_thread_30 : decode cX11_thread 30 = .ok (.getfield 126, 3) := dk_180 (a := 0) (b := 126) (by decide +kernel) rfl
theorem dX11_thread_33 : decode cX11_thread 33 = .ok (.invokevirtual 200, 3) := dk_182 (a := 0) (b := 200) (by decide +kernel) rfl
theorem dX11_thread_36 : decode cX11_thread 36 = .ok (.astore_n 3, 1) := dk_78 (by decide +kernel)
theorem dX11_thread_37 : decode cX11_thread 37 = .ok (.iload_n 2, 1) := dk_28 (by decide +kernel)
theorem dX11_thread_38 : decode cX11_thread 38 = .ok (.ifCond .ne 11, 3) := dk_154 (a := 0) (b := 11) (by decide +kernel) rfl
theorem dX11_thread_41 : decode cX11_thread 41 = .ok (.aload_n 3, 1) := dk_45 (by decide +kernel)
theorem dX11_thread_42 : decode cX11_thread 42 = .ok (.iload_n 1, 1) := dk_27 (by decide +kernel)
theorem dX11_thread_43 : decode cX11_thread 43 = .ok (.invokevirtual 231, 3) := dk_182 (a := 0) (b := 231) (by decide +kernel) rfl
theorem dX11_thread_46 : decode cX11_thread 46 = .ok (.goto 8, 3) := dk_167 (a := 0) (b := 8) (by decide +kernel) rfl
theorem dX11_thread_49 : decode cX11_thread 49 = .ok (.aload_n 3, 1) := dk_45 (by decide +kernel)
theorem dX11_thread_50 : decode cX11_thread 50 = .ok (.iload_n 1, 1) := dk_27 (by decide +kernel)
theorem dX11_thread_51 : decode cX11_thread 51 = .ok (.invokevirtual 234, 3) := dk_182 (a := 0) (b := 234) (by decide +kernel) rfl
theorem dX11_thread_54 : decode cX11_thread 54 = .ok (.ireturn, 1) := dk_172 (by decide +kernel)
theorem dX11_last_0 : decode cX11_last 0 = .ok (.aload_n 0, 1) := dk_42 (by decide +kernel)
theorem dX11_last_1 : decode cX11_last 1 = .ok (.getfield 116, 3) := dk_180 (a := 0) (b := 116) (by decide +kernel) rfl
theorem dX11_last_4 : decode cX11_last 4 = .ok (.ifCond .ne 6, 3) := dk_154 (a := 0) (b := 6) (by decide +kernel) rfl
theorem dX11_last_7 : decode cX11_last 7 = .ok (.bipush (-2), 2) := dk_16 (a := 254) (by decide +kernel) rfl
theorem dX11_last_9 : decode cX11_last 9 = .ok (.ireturn, 1) := dk_172 (by decide +kernel)
theorem dX11_last_10 : decode cX11_last 10 = .ok (.aload_n 0, 1) := dk_42 (by decide +kernel)
theorem dX11_last_11 : decode cX11_last 11 = .ok (.iload_n 2, 1) := dk_28 (by decide +kernel)
theorem dX11_last_12 : decode cX11_last 12 = .ok (.invokevirtual 179, 3) := dk_182 (a := 0) (b := 179) (by decide +kernel) rfl
theorem dX11_last_15 : decode cX11_last 15 = .ok (.ifCond .ne 5, 3) := dk_154 (a := 0) (b := 5) (by decide +kernel) rfl
theorem dX11_last_18 : decode cX11_last 18 = .ok (.iconst (-1), 1) := dk_2 (by decide +kernel)
theorem dX11_last_19 : decode cX11_last 19 = .ok (.ireturn, 1) := dk_172 (by decide +kernel)
theorem dX11_last_20 : decode cX11_last 20 = .ok (.aload_n 0, 1) := dk_42 (by decide +kernel)
theorem dX11_last_21 : decode cX11_last 21 = .ok (.getfield 34, 3) := dk_180 (a := 0) (b := 34) (by decide +kernel) rfl
theorem dX11_last_24 : decode cX11_last 24 = .ok (.iload_n 1, 1) := dk_27 (by decide +kernel)
theorem dX11_last_25 : decode cX11_last 25 = .ok (.iload_n 2, 1) := dk_28 (by decide +kernel)
theorem dX11_last_26 : decode cX11_last 26 = .ok (.invokevirtual 237, 3) := dk_182 (a := 0) (b := 237) (by decide +kernel) rfl
theorem dX11_last_29 : decode cX11_last 29 = .ok (.ireturn, 1) := dk_172 (by decide +kernel)
theorem dX11_next_0 : decode cX11_next 0 = .ok (.aload_n 0, 1) := dk_42 (by decide +kernel)
theorem dX11_next_1 : decode cX11_next 1 = .ok (.getfield 116, 3) := dk_180 (a := 0) (b := 116) (by decide +kernel) rfl
theorem dX11_next_4 : decode cX11_next 4 = .ok (.ifCond .ne 6, 3) := dk_154 (a := 0) (b := 6) (by decide +kernel) rfl
theorem dX11_next_7 : decode cX11_next 7 = .ok (.bipush (-2), 2) := dk_16 (a := 254) (by decide +kernel) rfl
theorem dX11_next_9 : decode cX11_next 9 = .ok (.ireturn, 1) := dk_172 (by decide +kernel)
theorem dX11_next_10 : decode cX11_next 10 = .ok (.aload_n 0, 1) := dk_42 (by decide +kernel)
theorem dX11_next_11 : decode cX11_next 11 = .ok (.iload_n 2, 1) := dk_28 (by decide +kernel)
theorem dX11_next_12 : decode cX11_next 12 = .ok (.invokevirtual 179, 3) := dk_182 (a := 0) (b := 179) (by decide +kernel) rfl
theorem dX11_next_15 : decode cX11_next 15 = .ok (.ifCond .ne 5, 3) := dk_154 (a := 0) (b := 5) (by decide +kernel) rfl
theorem dX11_next_18 : decode cX11_next 18 = .ok (.iconst (-1), 1) := dk_2 (by decide +kernel)
theorem dX11_next_19 : decode cX11_next 19 = .ok (.ireturn, 1) := dk_172 (by decide +kernel)
theorem dX11_next_20 : decode cX11_next 20 = .ok (.aload_n 0, 1) := dk_42 (by decide +kernel)
theorem dX11_next_21 : decode cX11_next 21 = .ok (.getfield 34, 3) := dk_180 (a := 0) (b := 34) (by decide +kernel) rfl
theorem dX11_next_24 : decode cX11_next 24 = .ok (.iload_n 1, 1) := dk_27 (by decide +kernel)
theorem dX11_next_25 : decode cX11_next 25 = .ok (.iload_n 2, 1) := dk_28 (by decide +kernel)
theorem dX11_next_26 : decode cX11_next 26 = .ok (.invokevirtual 240, 3) := dk_182 (a := 0) (b := 240) (by decide +kernel) rfl
theorem dX11_next_29 : decode cX11_next 29 = .ok (.ireturn, 1) := dk_172 (by decide +kernel)
theorem dX11_when_0 : decode cX11_when 0 = .ok (.aload_n 0, 1) := dk_42 (by decide +kernel)
theorem dX11_when_1 : decode cX11_when 1 = .ok (.getfield 116, 3) := dk_180 (a := 0) (b := 116) (by decide +kernel) rfl
theorem dX11_when_4 : decode cX11_when 4 = .ok (.ifCond .ne 6, 3) := dk_154 (a := 0) (b := 6) (by decide +kernel) rfl
theorem dX11_when_7 : decode cX11_when 7 = .ok (.bipush (-2), 2) := dk_16 (a := 254) (by decide +kernel) rfl
theorem dX11_when_9 : decode cX11_when 9 = .ok (.ireturn, 1) := dk_172 (by decide +kernel)
theorem dX11_when_10 : decode cX11_when 10 = .ok (.iload_n 1, 1) := dk_27 (by decide +kernel)
