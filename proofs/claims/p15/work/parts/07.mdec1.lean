theorem dX12_keep_97 : decode cX12_keep 97 = .ok (.aload_n 0, 1) := dk_42 (by decide +kernel)
theorem dX12_keep_98 : decode cX12_keep 98 = .ok (.getfield 185, 3) := dk_180 (a := 0) (b := 185) (by decide +kernel) rfl
theorem dX12_keep_101 : decode cX12_keep 101 = .ok (.iastore, 1) := dk_79 (by decide +kernel)
theorem dX12_keep_102 : decode cX12_keep 102 = .ok (.iconst 0, 1) := dk_3 (by decide +kernel)
theorem dX12_keep_103 : decode cX12_keep 103 = .ok (.istore_n 2, 1) := dk_61 (by decide +kernel)
theorem dX12_keep_104 : decode cX12_keep 104 = .ok (.iload_n 2, 1) := dk_28 (by decide +kernel)
theorem dX12_keep_105 : decode cX12_keep 105 = .ok (.aload_n 0, 1) := dk_42 (by decide +kernel)
theorem dX12_keep_106 : decode cX12_keep 106 = .ok (.getfield 185, 3) := dk_180 (a := 0) (b := 185) (by decide +kernel) rfl
theorem dX12_keep_109 : decode cX12_keep 109 = .ok (.if_icmp .ge 60, 3) := dk_162 (a := 0) (b := 60) (by decide +kernel) rfl
theorem dX12_keep_112 : decode cX12_keep 112 = .ok (.aload_n 0, 1) := dk_42 (by decide +kernel)
theorem dX12_keep_113 : decode cX12_keep 113 = .ok (.getfield 83, 3) := dk_180 (a := 0) (b := 83) (by decide +kernel) rfl
theorem dX12_keep_116 : decode cX12_keep 116 = .ok (.bipush 12, 2) := dk_16 (a := 12) (by decide +kernel) rfl
theorem dX12_keep_118 : decode cX12_keep 118 = .ok (.iload_n 1, 1) := dk_27 (by decide +kernel)
theorem dX12_keep_119 : decode cX12_keep 119 = .ok (.imul, 1) := dk_104 (by decide +kernel)
theorem dX12_keep_120 : decode cX12_keep 120 = .ok (.iload_n 2, 1) := dk_28 (by decide +kernel)
theorem dX12_keep_121 : decode cX12_keep 121 = .ok (.iadd, 1) := dk_96 (by decide +kernel)
theorem dX12_keep_122 : decode cX12_keep 122 = .ok (.aload_n 0, 1) := dk_42 (by decide +kernel)
theorem dX12_keep_123 : decode cX12_keep 123 = .ok (.getfield 56, 3) := dk_180 (a := 0) (b := 56) (by decide +kernel) rfl
theorem dX12_keep_126 : decode cX12_keep 126 = .ok (.iload_n 2, 1) := dk_28 (by decide +kernel)
theorem dX12_keep_127 : decode cX12_keep 127 = .ok (.iaload, 1) := dk_46 (by decide +kernel)
theorem dX12_keep_128 : decode cX12_keep 128 = .ok (.iastore, 1) := dk_79 (by decide +kernel)
theorem dX12_keep_129 : decode cX12_keep 129 = .ok (.aload_n 0, 1) := dk_42 (by decide +kernel)
theorem dX12_keep_130 : decode cX12_keep 130 = .ok (.getfield 86, 3) := dk_180 (a := 0) (b := 86) (by decide +kernel) rfl
theorem dX12_keep_133 : decode cX12_keep 133 = .ok (.bipush 12, 2) := dk_16 (a := 12) (by decide +kernel) rfl
theorem dX12_keep_135 : decode cX12_keep 135 = .ok (.iload_n 1, 1) := dk_27 (by decide +kernel)
theorem dX12_keep_136 : decode cX12_keep 136 = .ok (.imul, 1) := dk_104 (by decide +kernel)
theorem dX12_keep_137 : decode cX12_keep 137 = .ok (.iload_n 2, 1) := dk_28 (by decide +kernel)
theorem dX12_keep_138 : decode cX12_keep 138 = .ok (.iadd, 1) := dk_96 (by decide +kernel)
theorem dX12_keep_139 : decode cX12_keep 139 = .ok (.aload_n 0, 1) := dk_42 (by decide +kernel)
theorem dX12_keep_140 : decode cX12_keep 140 = .ok (.getfield 59, 3) := dk_180 (a := 0) (b := 59) (by decide +kernel) rfl
theorem dX12_keep_143 : decode cX12_keep 143 = .ok (.iload_n 2, 1) := dk_28 (by decide +kernel)
theorem dX12_keep_144 : decode cX12_keep 144 = .ok (.iaload, 1) := dk_46 (by decide +kernel)
theorem dX12_keep_145 : decode cX12_keep 145 = .ok (.iastore, 1) := dk_79 (by decide +kernel)
theorem dX12_keep_146 : decode cX12_keep 146 = .ok (.aload_n 0, 1) := dk_42 (by decide +kernel)
theorem dX12_keep_147 : decode cX12_keep 147 = .ok (.getfield 89, 3) := dk_180 (a := 0) (b := 89) (by decide +kernel) rfl
theorem dX12_keep_150 : decode cX12_keep 150 = .ok (.bipush 12, 2) := dk_16 (a := 12) (by decide +kernel) rfl
theorem dX12_keep_152 : decode cX12_keep 152 = .ok (.iload_n 1, 1) := dk_27 (by decide +kernel)
theorem dX12_keep_153 : decode cX12_keep 153 = .ok (.imul, 1) := dk_104 (by decide +kernel)
theorem dX12_keep_154 : decode cX12_keep 154 = .ok (.iload_n 2, 1) := dk_28 (by decide +kernel)
theorem dX12_keep_155 : decode cX12_keep 155 = .ok (.iadd, 1) := dk_96 (by decide +kernel)
theorem dX12_keep_156 : decode cX12_keep 156 = .ok (.aload_n 0, 1) := dk_42 (by decide +kernel)
theorem dX12_keep_157 : decode cX12_keep 157 = .ok (.getfield 62, 3) := dk_180 (a := 0) (b := 62) (by decide +kernel) rfl
theorem dX12_keep_160 : decode cX12_keep 160 = .ok (.iload_n 2, 1) := dk_28 (by decide +kernel)
theorem dX12_keep_161 : decode cX12_keep 161 = .ok (.iaload, 1) := dk_46 (by decide +kernel)
theorem dX12_keep_162 : decode cX12_keep 162 = .ok (.iastore, 1) := dk_79 (by decide +kernel)
theorem dX12_keep_163 : decode cX12_keep 163 = .ok (.iinc 2 1, 3) := dk_132 (b := 1) (by decide +kernel) rfl
theorem dX12_keep_166 : decode cX12_keep 166 = .ok (.goto (-62), 3) := dk_167 (a := 255) (b := 194) (by decide +kernel) rfl
theorem dX12_keep_169 : decode cX12_keep 169 = .ok (.iconst 0, 1) := dk_3 (by decide +kernel)
theorem dX12_keep_170 : decode cX12_keep 170 = .ok (.istore_n 2, 1) := dk_61 (by decide +kernel)
theorem dX12_keep_171 : decode cX12_keep 171 = .ok (.iload_n 2, 1) := dk_28 (by decide +kernel)
theorem dX12_keep_172 : decode cX12_keep 172 = .ok (.bipush 16, 2) := dk_16 (a := 16) (by decide +kernel) rfl
theorem dX12_keep_174 : decode cX12_keep 174 = .ok (.aload_n 0, 1) := dk_42 (by decide +kernel)
theorem dX12_keep_175 : decode cX12_keep 175 = .ok (.getfield 185, 3) := dk_180 (a := 0) (b := 185) (by decide +kernel) rfl
theorem dX12_keep_178 : decode cX12_keep 178 = .ok (.imul, 1) := dk_104 (by decide +kernel)
theorem dX12_keep_179 : decode cX12_keep 179 = .ok (.if_icmp .ge 27, 3) := dk_162 (a := 0) (b := 27) (by decide +kernel) rfl
theorem dX12_keep_182 : decode cX12_keep 182 = .ok (.aload_n 0, 1) := dk_42 (by decide +kernel)
theorem dX12_keep_183 : decode cX12_keep 183 = .ok (.getfield 93, 3) := dk_180 (a := 0) (b := 93) (by decide +kernel) rfl
theorem dX12_keep_186 : decode cX12_keep 186 = .ok (.sipush 192, 3) := dk_17 (a := 0) (b := 192) (by decide +kernel) rfl
theorem dX12_keep_189 : decode cX12_keep 189 = .ok (.iload_n 1, 1) := dk_27 (by decide +kernel)
theorem dX12_keep_190 : decode cX12_keep 190 = .ok (.imul, 1) := dk_104 (by decide +kernel)
theorem dX12_keep_191 : decode cX12_keep 191 = .ok (.iload_n 2, 1) := dk_28 (by decide +kernel)
theorem dX12_keep_192 : decode cX12_keep 192 = .ok (.iadd, 1) := dk_96 (by decide +kernel)
theorem dX12_keep_193 : decode cX12_keep 193 = .ok (.aload_n 0, 1) := dk_42 (by decide +kernel)
theorem dX12_keep_194 : decode cX12_keep 194 = .ok (.getfield 65, 3) := dk_180 (a := 0) (b := 65) (by decide +kernel) rfl
theorem dX12_keep_197 : decode cX12_keep 197 = .ok (.iload_n 2, 1) := dk_28 (by decide +kernel)
theorem dX12_keep_198 : decode cX12_keep 198 = .ok (.iaload, 1) := dk_46 (by decide +kernel)
theorem dX12_keep_199 : decode cX12_keep 199 = .ok (.iastore, 1) := dk_79 (by decide +kernel)
theorem dX12_keep_200 : decode cX12_keep 200 = .ok (.iinc 2 1, 3) := dk_132 (b := 1) (by decide +kernel) rfl
theorem dX12_keep_203 : decode cX12_keep 203 = .ok (.goto (-32), 3) := dk_167 (a := 255) (b := 224) (by decide +kernel) rfl
theorem dX12_keep_206 : decode cX12_keep 206 = .ok (.return_, 1) := dk_177 (by decide +kernel)
theorem dX12_stepKept_0 : decode cX12_stepKept 0 = .ok (.aload_n 0, 1) := dk_42 (by decide +kernel)
theorem dX12_stepKept_1 : decode cX12_stepKept 1 = .ok (.getfield 197, 3) := dk_180 (a := 0) (b := 197) (by decide +kernel) rfl
theorem dX12_stepKept_4 : decode cX12_stepKept 4 = .ok (.istore_n 2, 1) := dk_61 (by decide +kernel)
theorem dX12_stepKept_5 : decode cX12_stepKept 5 = .ok (.aload_n 0, 1) := dk_42 (by decide +kernel)
theorem dX12_stepKept_6 : decode cX12_stepKept 6 = .ok (.getfield 188, 3) := dk_180 (a := 0) (b := 188) (by decide +kernel) rfl
theorem dX12_stepKept_9 : decode cX12_stepKept 9 = .ok (.istore_n 3, 1) := dk_62 (by decide +kernel)
theorem dX12_stepKept_10 : decode cX12_stepKept 10 = .ok (.iload_n 1, 1) := dk_27 (by decide +kernel)
theorem dX12_stepKept_11 : decode cX12_stepKept 11 = .ok (.iload_n 2, 1) := dk_28 (by decide +kernel)
theorem dX12_stepKept_12 : decode cX12_stepKept 12 = .ok (.if_icmp .eq 36, 3) := dk_159 (a := 0) (b := 36) (by decide +kernel) rfl
theorem dX12_stepKept_15 : decode cX12_stepKept 15 = .ok (.aload_n 0, 1) := dk_42 (by decide +kernel)
theorem dX12_stepKept_16 : decode cX12_stepKept 16 = .ok (.getfield 120, 3) := dk_180 (a := 0) (b := 120) (by decide +kernel) rfl
theorem dX12_stepKept_19 : decode cX12_stepKept 19 = .ok (.aload_n 0, 1) := dk_42 (by decide +kernel)
theorem dX12_stepKept_20 : decode cX12_stepKept 20 = .ok (.getfield 272, 3) := dk_180 (a := 1) (b := 16) (by decide +kernel) rfl
theorem dX12_stepKept_23 : decode cX12_stepKept 23 = .ok (.aload_n 0, 1) := dk_42 (by decide +kernel)
theorem dX12_stepKept_24 : decode cX12_stepKept 24 = .ok (.getfield 191, 3) := dk_180 (a := 0) (b := 191) (by decide +kernel) rfl
theorem dX12_stepKept_27 : decode cX12_stepKept 27 = .ok (.iastore, 1) := dk_79 (by decide +kernel)
theorem dX12_stepKept_28 : decode cX12_stepKept 28 = .ok (.aload_n 0, 1) := dk_42 (by decide +kernel)
theorem dX12_stepKept_29 : decode cX12_stepKept 29 = .ok (.getfield 123, 3) := dk_180 (a := 0) (b := 123) (by decide +kernel) rfl
theorem dX12_stepKept_32 : decode cX12_stepKept 32 = .ok (.aload_n 0, 1) := dk_42 (by decide +kernel)
theorem dX12_stepKept_33 : decode cX12_stepKept 33 = .ok (.getfield 272, 3) := dk_180 (a := 1) (b := 16) (by decide +kernel) rfl
theorem dX12_stepKept_36 : decode cX12_stepKept 36 = .ok (.iload_n 1, 1) := dk_27 (by decide +kernel)
theorem dX12_stepKept_37 : decode cX12_stepKept 37 = .ok (.iastore, 1) := dk_79 (by decide +kernel)
theorem dX12_stepKept_38 : decode cX12_stepKept 38 = .ok (.aload_n 0, 1) := dk_42 (by decide +kernel)
theorem dX12_stepKept_39 : decode cX12_stepKept 39 = .ok (.dup, 1) := dk_89 (by decide +kernel)
theorem dX12_stepKept_40 : decode cX12_stepKept 40 = .ok (.getfield 272, 3) := dk_180 (a := 1) (b := 16) (by decide +kernel) rfl
theorem dX12_stepKept_43 : decode cX12_stepKept 43 = .ok (.iconst 1, 1) := dk_4 (by decide +kernel)
theorem dX12_stepKept_44 : decode cX12_stepKept 44 = .ok (.iadd, 1) := dk_96 (by decide +kernel)
theorem dX12_stepKept_45 : decode cX12_stepKept 45 = .ok (.putfield 272, 3) := dk_181 (a := 1) (b := 16) (by decide +kernel) rfl
theorem dX12_stepKept_48 : decode cX12_stepKept 48 = .ok (.aload_n 0, 1) := dk_42 (by decide +kernel)
theorem dX12_stepKept_49 : decode cX12_stepKept 49 = .ok (.iload_n 1, 1) := dk_27 (by decide +kernel)
theorem dX12_stepKept_50 : decode cX12_stepKept 50 = .ok (.invokevirtual 275, 3) := dk_182 (a := 1) (b := 19) (by decide +kernel) rfl
theorem dX12_stepKept_53 : decode cX12_stepKept 53 = .ok (.aload_n 0, 1) := dk_42 (by decide +kernel)
theorem dX12_stepKept_54 : decode cX12_stepKept 54 = .ok (.getfield 188, 3) := dk_180 (a := 0) (b := 188) (by decide +kernel) rfl
theorem dX12_stepKept_57 : decode cX12_stepKept 57 = .ok (.iload_n 3, 1) := dk_29 (by decide +kernel)
theorem dX12_stepKept_58 : decode cX12_stepKept 58 = .ok (.if_icmp .le 15, 3) := dk_164 (a := 0) (b := 15) (by decide +kernel) rfl
theorem dX12_stepKept_61 : decode cX12_stepKept 61 = .ok (.aload_n 0, 1) := dk_42 (by decide +kernel)
theorem dX12_stepKept_62 : decode cX12_stepKept 62 = .ok (.getfield 117, 3) := dk_180 (a := 0) (b := 117) (by decide +kernel) rfl
theorem dX12_stepKept_65 : decode cX12_stepKept 65 = .ok (.iload_n 3, 1) := dk_29 (by decide +kernel)
theorem dX12_stepKept_66 : decode cX12_stepKept 66 = .ok (.aload_n 0, 1) := dk_42 (by decide +kernel)
theorem dX12_stepKept_67 : decode cX12_stepKept 67 = .ok (.getfield 28, 3) := dk_180 (a := 0) (b := 28) (by decide +kernel) rfl
theorem dX12_stepKept_70 : decode cX12_stepKept 70 = .ok (.iload_n 3, 1) := dk_29 (by decide +kernel)
theorem dX12_stepKept_71 : decode cX12_stepKept 71 = .ok (.iaload, 1) := dk_46 (by decide +kernel)
theorem dX12_stepKept_72 : decode cX12_stepKept 72 = .ok (.iastore, 1) := dk_79 (by decide +kernel)
theorem dX12_stepKept_73 : decode cX12_stepKept 73 = .ok (.aload_n 0, 1) := dk_42 (by decide +kernel)
theorem dX12_stepKept_74 : decode cX12_stepKept 74 = .ok (.getfield 96, 3) := dk_180 (a := 0) (b := 96) (by decide +kernel) rfl
theorem dX12_stepKept_77 : decode cX12_stepKept 77 = .ok (.aload_n 0, 1) := dk_42 (by decide +kernel)
theorem dX12_stepKept_78 : decode cX12_stepKept 78 = .ok (.getfield 191, 3) := dk_180 (a := 0) (b := 191) (by decide +kernel) rfl
theorem dX12_stepKept_81 : decode cX12_stepKept 81 = .ok (.iload_n 1, 1) := dk_27 (by decide +kernel)
theorem dX12_stepKept_82 : decode cX12_stepKept 82 = .ok (.iastore, 1) := dk_79 (by decide +kernel)
theorem dX12_stepKept_83 : decode cX12_stepKept 83 = .ok (.aload_n 0, 1) := dk_42 (by decide +kernel)
theorem dX12_stepKept_84 : decode cX12_stepKept 84 = .ok (.getfield 99, 3) := dk_180 (a := 0) (b := 99) (by decide +kernel) rfl
theorem dX12_stepKept_87 : decode cX12_stepKept 87 = .ok (.aload_n 0, 1) := dk_42 (by decide +kernel)
theorem dX12_stepKept_88 : decode cX12_stepKept 88 = .ok (.getfield 191, 3) := dk_180 (a := 0) (b := 191) (by decide +kernel) rfl
theorem dX12_stepKept_91 : decode cX12_stepKept 91 = .ok (.aload_n 0, 1) := dk_42 (by decide +kernel)
theorem dX12_stepKept_92 : decode cX12_stepKept 92 = .ok (.getfield 240, 3) := dk_180 (a := 0) (b := 240) (by decide +kernel) rfl
theorem dX12_stepKept_95 : decode cX12_stepKept 95 = .ok (.iastore, 1) := dk_79 (by decide +kernel)
theorem dX12_stepKept_96 : decode cX12_stepKept 96 = .ok (.aload_n 0, 1) := dk_42 (by decide +kernel)
theorem dX12_stepKept_97 : decode cX12_stepKept 97 = .ok (.getfield 102, 3) := dk_180 (a := 0) (b := 102) (by decide +kernel) rfl
theorem dX12_stepKept_100 : decode cX12_stepKept 100 = .ok (.aload_n 0, 1) := dk_42 (by decide +kernel)
theorem dX12_stepKept_101 : decode cX12_stepKept 101 = .ok (.getfield 191, 3) := dk_180 (a := 0) (b := 191) (by decide +kernel) rfl
theorem dX12_stepKept_104 : decode cX12_stepKept 104 = .ok (.aload_n 0, 1) := dk_42 (by decide +kernel)
theorem dX12_stepKept_105 : decode cX12_stepKept 105 = .ok (.getfield 243, 3) := dk_180 (a := 0) (b := 243) (by decide +kernel) rfl
theorem dX12_stepKept_108 : decode cX12_stepKept 108 = .ok (.iastore, 1) := dk_79 (by decide +kernel)
theorem dX12_stepKept_109 : decode cX12_stepKept 109 = .ok (.aload_n 0, 1) := dk_42 (by decide +kernel)
theorem dX12_stepKept_110 : decode cX12_stepKept 110 = .ok (.getfield 105, 3) := dk_180 (a := 0) (b := 105) (by decide +kernel) rfl
theorem dX12_stepKept_113 : decode cX12_stepKept 113 = .ok (.aload_n 0, 1) := dk_42 (by decide +kernel)
theorem dX12_stepKept_114 : decode cX12_stepKept 114 = .ok (.getfield 191, 3) := dk_180 (a := 0) (b := 191) (by decide +kernel) rfl
theorem dX12_stepKept_117 : decode cX12_stepKept 117 = .ok (.aload_n 0, 1) := dk_42 (by decide +kernel)
theorem dX12_stepKept_118 : decode cX12_stepKept 118 = .ok (.getfield 194, 3) := dk_180 (a := 0) (b := 194) (by decide +kernel) rfl
theorem dX12_stepKept_121 : decode cX12_stepKept 121 = .ok (.ifCond .le 8, 3) := dk_158 (a := 0) (b := 8) (by decide +kernel) rfl
theorem dX12_stepKept_124 : decode cX12_stepKept 124 = .ok (.bipush (-2), 2) := dk_16 (a := 254) (by decide +kernel) rfl
theorem dX12_stepKept_126 : decode cX12_stepKept 126 = .ok (.goto 7, 3) := dk_167 (a := 0) (b := 7) (by decide +kernel) rfl
theorem dX12_stepKept_129 : decode cX12_stepKept 129 = .ok (.aload_n 0, 1) := dk_42 (by decide +kernel)
theorem dX12_stepKept_130 : decode cX12_stepKept 130 = .ok (.getfield 228, 3) := dk_180 (a := 0) (b := 228) (by decide +kernel) rfl
theorem dX12_stepKept_133 : decode cX12_stepKept 133 = .ok (.iastore, 1) := dk_79 (by decide +kernel)
theorem dX12_stepKept_134 : decode cX12_stepKept 134 = .ok (.aload_n 0, 1) := dk_42 (by decide +kernel)
theorem dX12_stepKept_135 : decode cX12_stepKept 135 = .ok (.getfield 108, 3) := dk_180 (a := 0) (b := 108) (by decide +kernel) rfl
theorem dX12_stepKept_138 : decode cX12_stepKept 138 = .ok (.aload_n 0, 1) := dk_42 (by decide +kernel)
theorem dX12_stepKept_139 : decode cX12_stepKept 139 = .ok (.getfield 191, 3) := dk_180 (a := 0) (b := 191) (by decide +kernel) rfl
theorem dX12_stepKept_142 : decode cX12_stepKept 142 = .ok (.aload_n 0, 1) := dk_42 (by decide +kernel)
theorem dX12_stepKept_143 : decode cX12_stepKept 143 = .ok (.getfield 194, 3) := dk_180 (a := 0) (b := 194) (by decide +kernel) rfl
theorem dX12_stepKept_146 : decode cX12_stepKept 146 = .ok (.ifCond .le 8, 3) := dk_158 (a := 0) (b := 8) (by decide +kernel) rfl
theorem dX12_stepKept_149 : decode cX12_stepKept 149 = .ok (.bipush (-2), 2) := dk_16 (a := 254) (by decide +kernel) rfl
theorem dX12_stepKept_151 : decode cX12_stepKept 151 = .ok (.goto 7, 3) := dk_167 (a := 0) (b := 7) (by decide +kernel) rfl
theorem dX12_stepKept_154 : decode cX12_stepKept 154 = .ok (.aload_n 0, 1) := dk_42 (by decide +kernel)
theorem dX12_stepKept_155 : decode cX12_stepKept 155 = .ok (.getfield 231, 3) := dk_180 (a := 0) (b := 231) (by decide +kernel) rfl
theorem dX12_stepKept_158 : decode cX12_stepKept 158 = .ok (.iastore, 1) := dk_79 (by decide +kernel)
theorem dX12_stepKept_159 : decode cX12_stepKept 159 = .ok (.aload_n 0, 1) := dk_42 (by decide +kernel)
theorem dX12_stepKept_160 : decode cX12_stepKept 160 = .ok (.getfield 111, 3) := dk_180 (a := 0) (b := 111) (by decide +kernel) rfl
theorem dX12_stepKept_163 : decode cX12_stepKept 163 = .ok (.aload_n 0, 1) := dk_42 (by decide +kernel)
theorem dX12_stepKept_164 : decode cX12_stepKept 164 = .ok (.getfield 191, 3) := dk_180 (a := 0) (b := 191) (by decide +kernel) rfl
theorem dX12_stepKept_167 : decode cX12_stepKept 167 = .ok (.aload_n 0, 1) := dk_42 (by decide +kernel)
theorem dX12_stepKept_168 : decode cX12_stepKept 168 = .ok (.getfield 194, 3) := dk_180 (a := 0) (b := 194) (by decide +kernel) rfl
theorem dX12_stepKept_171 : decode cX12_stepKept 171 = .ok (.ifCond .le 7, 3) := dk_158 (a := 0) (b := 7) (by decide +kernel) rfl
theorem dX12_stepKept_174 : decode cX12_stepKept 174 = .ok (.iconst 0, 1) := dk_3 (by decide +kernel)
theorem dX12_stepKept_175 : decode cX12_stepKept 175 = .ok (.goto 7, 3) := dk_167 (a := 0) (b := 7) (by decide +kernel) rfl
theorem dX12_stepKept_178 : decode cX12_stepKept 178 = .ok (.aload_n 0, 1) := dk_42 (by decide +kernel)
theorem dX12_stepKept_179 : decode cX12_stepKept 179 = .ok (.getfield 234, 3) := dk_180 (a := 0) (b := 234) (by decide +kernel) rfl
theorem dX12_stepKept_182 : decode cX12_stepKept 182 = .ok (.iastore, 1) := dk_79 (by decide +kernel)
theorem dX12_stepKept_183 : decode cX12_stepKept 183 = .ok (.aload_n 0, 1) := dk_42 (by decide +kernel)
theorem dX12_stepKept_184 : decode cX12_stepKept 184 = .ok (.getfield 114, 3) := dk_180 (a := 0) (b := 114) (by decide +kernel) rfl
theorem dX12_stepKept_187 : decode cX12_stepKept 187 = .ok (.aload_n 0, 1) := dk_42 (by decide +kernel)
theorem dX12_stepKept_188 : decode cX12_stepKept 188 = .ok (.getfield 191, 3) := dk_180 (a := 0) (b := 191) (by decide +kernel) rfl
theorem dX12_stepKept_191 : decode cX12_stepKept 191 = .ok (.aload_n 0, 1) := dk_42 (by decide +kernel)
theorem dX12_stepKept_192 : decode cX12_stepKept 192 = .ok (.getfield 237, 3) := dk_180 (a := 0) (b := 237) (by decide +kernel) rfl
theorem dX12_stepKept_195 : decode cX12_stepKept 195 = .ok (.iastore, 1) := dk_79 (by decide +kernel)
theorem dX12_stepKept_196 : decode cX12_stepKept 196 = .ok (.aload_n 0, 1) := dk_42 (by decide +kernel)
theorem dX12_stepKept_197 : decode cX12_stepKept 197 = .ok (.aload_n 0, 1) := dk_42 (by decide +kernel)
theorem dX12_stepKept_198 : decode cX12_stepKept 198 = .ok (.getfield 191, 3) := dk_180 (a := 0) (b := 191) (by decide +kernel) rfl
theorem dX12_stepKept_201 : decode cX12_stepKept 201 = .ok (.invokevirtual 279, 3) := dk_182 (a := 1) (b := 23) (by decide +kernel) rfl
theorem dX12_stepKept_204 : decode cX12_stepKept 204 = .ok (.return_, 1) := dk_177 (by decide +kernel)
theorem dX12_ending_0 : decode cX12_ending 0 = .ok (.aload_n 0, 1) := dk_42 (by decide +kernel)
theorem dX12_ending_1 : decode cX12_ending 1 = .ok (.getfield 194, 3) := dk_180 (a := 0) (b := 194) (by decide +kernel) rfl
theorem dX12_ending_4 : decode cX12_ending 4 = .ok (.ifCond .le 5, 3) := dk_158 (a := 0) (b := 5) (by decide +kernel) rfl
theorem dX12_ending_7 : decode cX12_ending 7 = .ok (.iconst 2, 1) := dk_5 (by decide +kernel)
theorem dX12_ending_8 : decode cX12_ending 8 = .ok (.ireturn, 1) := dk_172 (by decide +kernel)
theorem dX12_ending_9 : decode cX12_ending 9 = .ok (.aload_n 0, 1) := dk_42 (by decide +kernel)
theorem dX12_ending_10 : decode cX12_ending 10 = .ok (.iconst 0, 1) := dk_3 (by decide +kernel)
theorem dX12_ending_11 : decode cX12_ending 11 = .ok (.invokevirtual 282, 3) := dk_182 (a := 1) (b := 26) (by decide +kernel) rfl
theorem dX12_ending_14 : decode cX12_ending 14 = .ok (.ifCond .lt 5, 3) := dk_155 (a := 0) (b := 5) (by decide +kernel) rfl
theorem dX12_ending_17 : decode cX12_ending 17 = .ok (.iconst 3, 1) := dk_6 (by decide +kernel)
theorem dX12_ending_18 : decode cX12_ending 18 = .ok (.ireturn, 1) := dk_172 (by decide +kernel)
theorem dX12_ending_19 : decode cX12_ending 19 = .ok (.iconst 1, 1) := dk_4 (by decide +kernel)
theorem dX12_ending_20 : decode cX12_ending 20 = .ok (.istore_n 1, 1) := dk_60 (by decide +kernel)
theorem dX12_ending_21 : decode cX12_ending 21 = .ok (.iconst 0, 1) := dk_3 (by decide +kernel)
theorem dX12_ending_22 : decode cX12_ending 22 = .ok (.istore_n 2, 1) := dk_61 (by decide +kernel)
theorem dX12_ending_23 : decode cX12_ending 23 = .ok (.iload_n 2, 1) := dk_28 (by decide +kernel)
theorem dX12_ending_24 : decode cX12_ending 24 = .ok (.iconst 4, 1) := dk_7 (by decide +kernel)
theorem dX12_ending_25 : decode cX12_ending 25 = .ok (.if_icmp .ge 39, 3) := dk_162 (a := 0) (b := 39) (by decide +kernel) rfl
theorem dX12_ending_28 : decode cX12_ending 28 = .ok (.iload_n 1, 1) := dk_27 (by decide +kernel)
theorem dX12_ending_29 : decode cX12_ending 29 = .ok (.ifCond .eq 27, 3) := dk_153 (a := 0) (b := 27) (by decide +kernel) rfl
theorem dX12_ending_32 : decode cX12_ending 32 = .ok (.aload_n 0, 1) := dk_42 (by decide +kernel)
theorem dX12_ending_33 : decode cX12_ending 33 = .ok (.getfield 46, 3) := dk_180 (a := 0) (b := 46) (by decide +kernel) rfl
theorem dX12_ending_36 : decode cX12_ending 36 = .ok (.iload_n 2, 1) := dk_28 (by decide +kernel)
theorem dX12_ending_37 : decode cX12_ending 37 = .ok (.baload, 1) := dk_51 (by decide +kernel)
theorem dX12_ending_38 : decode cX12_ending 38 = .ok (.ifCond .eq 14, 3) := dk_153 (a := 0) (b := 14) (by decide +kernel) rfl
theorem dX12_ending_41 : decode cX12_ending 41 = .ok (.aload_n 0, 1) := dk_42 (by decide +kernel)
theorem dX12_ending_42 : decode cX12_ending 42 = .ok (.getfield 43, 3) := dk_180 (a := 0) (b := 43) (by decide +kernel) rfl
theorem dX12_ending_45 : decode cX12_ending 45 = .ok (.iload_n 2, 1) := dk_28 (by decide +kernel)
theorem dX12_ending_46 : decode cX12_ending 46 = .ok (.iaload, 1) := dk_46 (by decide +kernel)
theorem dX12_ending_47 : decode cX12_ending 47 = .ok (.bipush 24, 2) := dk_16 (a := 24) (by decide +kernel) rfl
theorem dX12_ending_49 : decode cX12_ending 49 = .ok (.if_icmp .ne 7, 3) := dk_160 (a := 0) (b := 7) (by decide +kernel) rfl
theorem dX12_ending_52 : decode cX12_ending 52 = .ok (.iconst 1, 1) := dk_4 (by decide +kernel)
theorem dX12_ending_53 : decode cX12_ending 53 = .ok (.goto 4, 3) := dk_167 (a := 0) (b := 4) (by decide +kernel) rfl
theorem dX12_ending_56 : decode cX12_ending 56 = .ok (.iconst 0, 1) := dk_3 (by decide +kernel)
theorem dX12_ending_57 : decode cX12_ending 57 = .ok (.istore_n 1, 1) := dk_60 (by decide +kernel)
theorem dX12_ending_58 : decode cX12_ending 58 = .ok (.iinc 2 1, 3) := dk_132 (b := 1) (by decide +kernel) rfl
theorem dX12_ending_61 : decode cX12_ending 61 = .ok (.goto (-38), 3) := dk_167 (a := 255) (b := 218) (by decide +kernel) rfl
theorem dX12_ending_64 : decode cX12_ending 64 = .ok (.iload_n 1, 1) := dk_27 (by decide +kernel)
theorem dX12_ending_65 : decode cX12_ending 65 = .ok (.ifCond .eq 7, 3) := dk_153 (a := 0) (b := 7) (by decide +kernel) rfl
theorem dX12_ending_68 : decode cX12_ending 68 = .ok (.iconst 0, 1) := dk_3 (by decide +kernel)
theorem dX12_ending_69 : decode cX12_ending 69 = .ok (.goto 4, 3) := dk_167 (a := 0) (b := 4) (by decide +kernel) rfl
theorem dX12_ending_72 : decode cX12_ending 72 = .ok (.iconst 1, 1) := dk_4 (by decide +kernel)
theorem dX12_ending_73 : decode cX12_ending 73 = .ok (.ireturn, 1) := dk_172 (by decide +kernel)
theorem dX12_run_0 : decode cX12_run 0 = .ok (.aload_n 0, 1) := dk_42 (by decide +kernel)
theorem dX12_run_1 : decode cX12_run 1 = .ok (.iconst 0, 1) := dk_3 (by decide +kernel)
theorem dX12_run_2 : decode cX12_run 2 = .ok (.putfield 164, 3) := dk_181 (a := 0) (b := 164) (by decide +kernel) rfl
theorem dX12_run_5 : decode cX12_run 5 = .ok (.aload_n 0, 1) := dk_42 (by decide +kernel)
theorem dX12_run_6 : decode cX12_run 6 = .ok (.iconst 0, 1) := dk_3 (by decide +kernel)
theorem dX12_run_7 : decode cX12_run 7 = .ok (.putfield 218, 3) := dk_181 (a := 0) (b := 218) (by decide +kernel) rfl
theorem dX12_run_10 : decode cX12_run 10 = .ok (.aload_n 0, 1) := dk_42 (by decide +kernel)
theorem dX12_run_11 : decode cX12_run 11 = .ok (.invokevirtual 285, 3) := dk_182 (a := 1) (b := 29) (by decide +kernel) rfl
theorem dX12_run_14 : decode cX12_run 14 = .ok (.aload_n 0, 1) := dk_42 (by decide +kernel)
theorem dX12_run_15 : decode cX12_run 15 = .ok (.iconst 0, 1) := dk_3 (by decide +kernel)
theorem dX12_run_16 : decode cX12_run 16 = .ok (.putfield 272, 3) := dk_181 (a := 1) (b := 16) (by decide +kernel) rfl
theorem dX12_run_19 : decode cX12_run 19 = .ok (.aload_n 0, 1) := dk_42 (by decide +kernel)
theorem dX12_run_20 : decode cX12_run 20 = .ok (.iconst 0, 1) := dk_3 (by decide +kernel)
theorem dX12_run_21 : decode cX12_run 21 = .ok (.putfield 288, 3) := dk_181 (a := 1) (b := 32) (by decide +kernel) rfl
theorem dX12_run_24 : decode cX12_run 24 = .ok (.aload_n 0, 1) := dk_42 (by decide +kernel)
theorem dX12_run_25 : decode cX12_run 25 = .ok (.iconst 0, 1) := dk_3 (by decide +kernel)
theorem dX12_run_26 : decode cX12_run 26 = .ok (.invokevirtual 279, 3) := dk_182 (a := 1) (b := 23) (by decide +kernel) rfl
theorem dX12_run_29 : decode cX12_run 29 = .ok (.iconst 0, 1) := dk_3 (by decide +kernel)
theorem dX12_run_30 : decode cX12_run 30 = .ok (.istore_n 1, 1) := dk_60 (by decide +kernel)
theorem dX12_run_31 : decode cX12_run 31 = .ok (.iload_n 1, 1) := dk_27 (by decide +kernel)
theorem dX12_run_32 : decode cX12_run 32 = .ok (.aload_n 0, 1) := dk_42 (by decide +kernel)
theorem dX12_run_33 : decode cX12_run 33 = .ok (.getfield 182, 3) := dk_180 (a := 0) (b := 182) (by decide +kernel) rfl
theorem dX12_run_36 : decode cX12_run 36 = .ok (.if_icmp .ge 67, 3) := dk_162 (a := 0) (b := 67) (by decide +kernel) rfl
theorem dX12_run_39 : decode cX12_run 39 = .ok (.iconst 0, 1) := dk_3 (by decide +kernel)
theorem dX12_run_40 : decode cX12_run 40 = .ok (.istore_n 2, 1) := dk_61 (by decide +kernel)
theorem dX12_run_41 : decode cX12_run 41 = .ok (.iload_n 2, 1) := dk_28 (by decide +kernel)
theorem dX12_run_42 : decode cX12_run 42 = .ok (.aload_n 0, 1) := dk_42 (by decide +kernel)
theorem dX12_run_43 : decode cX12_run 43 = .ok (.getfield 34, 3) := dk_180 (a := 0) (b := 34) (by decide +kernel) rfl
theorem dX12_run_46 : decode cX12_run 46 = .ok (.iload_n 1, 1) := dk_27 (by decide +kernel)
theorem dX12_run_47 : decode cX12_run 47 = .ok (.iaload, 1) := dk_46 (by decide +kernel)
theorem dX12_run_48 : decode cX12_run 48 = .ok (.if_icmp .ge 49, 3) := dk_162 (a := 0) (b := 49) (by decide +kernel) rfl
theorem dX12_run_51 : decode cX12_run 51 = .ok (.aload_n 0, 1) := dk_42 (by decide +kernel)
theorem dX12_run_52 : decode cX12_run 52 = .ok (.getfield 194, 3) := dk_180 (a := 0) (b := 194) (by decide +kernel) rfl
theorem dX12_run_55 : decode cX12_run 55 = .ok (.ifCond .ne 42, 3) := dk_154 (a := 0) (b := 42) (by decide +kernel) rfl
theorem dX12_run_58 : decode cX12_run 58 = .ok (.aload_n 0, 1) := dk_42 (by decide +kernel)
theorem dX12_run_59 : decode cX12_run 59 = .ok (.getfield 191, 3) := dk_180 (a := 0) (b := 191) (by decide +kernel) rfl
theorem dX12_run_62 : decode cX12_run 62 = .ok (.sipush 300, 3) := dk_17 (a := 1) (b := 44) (by decide +kernel) rfl
theorem dX12_run_65 : decode cX12_run 65 = .ok (.if_icmp .ge 32, 3) := dk_162 (a := 0) (b := 32) (by decide +kernel) rfl
theorem dX12_run_68 : decode cX12_run 68 = .ok (.aload_n 0, 1) := dk_42 (by decide +kernel)
theorem dX12_run_69 : decode cX12_run 69 = .ok (.aload_n 0, 1) := dk_42 (by decide +kernel)
theorem dX12_run_70 : decode cX12_run 70 = .ok (.getfield 31, 3) := dk_180 (a := 0) (b := 31) (by decide +kernel) rfl
theorem dX12_run_73 : decode cX12_run 73 = .ok (.iload_n 1, 1) := dk_27 (by decide +kernel)
theorem dX12_run_74 : decode cX12_run 74 = .ok (.iaload, 1) := dk_46 (by decide +kernel)
theorem dX12_run_75 : decode cX12_run 75 = .ok (.invokevirtual 215, 3) := dk_182 (a := 0) (b := 215) (by decide +kernel) rfl
theorem dX12_run_78 : decode cX12_run 78 = .ok (.ifCond .eq 19, 3) := dk_153 (a := 0) (b := 19) (by decide +kernel) rfl
theorem dX12_run_81 : decode cX12_run 81 = .ok (.aload_n 0, 1) := dk_42 (by decide +kernel)
theorem dX12_run_82 : decode cX12_run 82 = .ok (.aload_n 0, 1) := dk_42 (by decide +kernel)
theorem dX12_run_83 : decode cX12_run 83 = .ok (.getfield 31, 3) := dk_180 (a := 0) (b := 31) (by decide +kernel) rfl
theorem dX12_run_86 : decode cX12_run 86 = .ok (.iload_n 1, 1) := dk_27 (by decide +kernel)
theorem dX12_run_87 : decode cX12_run 87 = .ok (.iaload, 1) := dk_46 (by decide +kernel)
theorem dX12_run_88 : decode cX12_run 88 = .ok (.invokevirtual 291, 3) := dk_182 (a := 1) (b := 35) (by decide +kernel) rfl
theorem dX12_run_91 : decode cX12_run 91 = .ok (.iinc 2 1, 3) := dk_132 (b := 1) (by decide +kernel) rfl
theorem dX12_run_94 : decode cX12_run 94 = .ok (.goto (-53), 3) := dk_167 (a := 255) (b := 203) (by decide +kernel) rfl
theorem dX12_run_97 : decode cX12_run 97 = .ok (.iinc 1 1, 3) := dk_132 (b := 1) (by decide +kernel) rfl
theorem dX12_run_100 : decode cX12_run 100 = .ok (.goto (-69), 3) := dk_167 (a := 255) (b := 187) (by decide +kernel) rfl
theorem dX12_run_103 : decode cX12_run 103 = .ok (.aload_n 0, 1) := dk_42 (by decide +kernel)
theorem dX12_run_104 : decode cX12_run 104 = .ok (.aload_n 0, 1) := dk_42 (by decide +kernel)
theorem dX12_run_105 : decode cX12_run 105 = .ok (.getfield 197, 3) := dk_180 (a := 0) (b := 197) (by decide +kernel) rfl
theorem dX12_run_108 : decode cX12_run 108 = .ok (.invokevirtual 282, 3) := dk_182 (a := 1) (b := 26) (by decide +kernel) rfl
theorem dX12_run_111 : decode cX12_run 111 = .ok (.istore_n 1, 1) := dk_60 (by decide +kernel)
theorem dX12_run_112 : decode cX12_run 112 = .ok (.iload_n 1, 1) := dk_27 (by decide +kernel)
theorem dX12_run_113 : decode cX12_run 113 = .ok (.ifCond .lt 37, 3) := dk_155 (a := 0) (b := 37) (by decide +kernel) rfl
theorem dX12_run_116 : decode cX12_run 116 = .ok (.aload_n 0, 1) := dk_42 (by decide +kernel)
theorem dX12_run_117 : decode cX12_run 117 = .ok (.getfield 194, 3) := dk_180 (a := 0) (b := 194) (by decide +kernel) rfl
theorem dX12_run_120 : decode cX12_run 120 = .ok (.ifCond .ne 30, 3) := dk_154 (a := 0) (b := 30) (by decide +kernel) rfl
theorem dX12_run_123 : decode cX12_run 123 = .ok (.aload_n 0, 1) := dk_42 (by decide +kernel)
theorem dX12_run_124 : decode cX12_run 124 = .ok (.getfield 191, 3) := dk_180 (a := 0) (b := 191) (by decide +kernel) rfl
theorem dX12_run_127 : decode cX12_run 127 = .ok (.sipush 300, 3) := dk_17 (a := 1) (b := 44) (by decide +kernel) rfl
theorem dX12_run_130 : decode cX12_run 130 = .ok (.if_icmp .ge 20, 3) := dk_162 (a := 0) (b := 20) (by decide +kernel) rfl
theorem dX12_run_133 : decode cX12_run 133 = .ok (.aload_n 0, 1) := dk_42 (by decide +kernel)
theorem dX12_run_134 : decode cX12_run 134 = .ok (.iload_n 1, 1) := dk_27 (by decide +kernel)
theorem dX12_run_135 : decode cX12_run 135 = .ok (.invokevirtual 291, 3) := dk_182 (a := 1) (b := 35) (by decide +kernel) rfl
theorem dX12_run_138 : decode cX12_run 138 = .ok (.aload_n 0, 1) := dk_42 (by decide +kernel)
theorem dX12_run_139 : decode cX12_run 139 = .ok (.aload_n 0, 1) := dk_42 (by decide +kernel)
theorem dX12_run_140 : decode cX12_run 140 = .ok (.getfield 197, 3) := dk_180 (a := 0) (b := 197) (by decide +kernel) rfl
theorem dX12_run_143 : decode cX12_run 143 = .ok (.invokevirtual 282, 3) := dk_182 (a := 1) (b := 26) (by decide +kernel) rfl
theorem dX12_run_146 : decode cX12_run 146 = .ok (.istore_n 1, 1) := dk_60 (by decide +kernel)
theorem dX12_run_147 : decode cX12_run 147 = .ok (.goto (-35), 3) := dk_167 (a := 255) (b := 221) (by decide +kernel) rfl
theorem dX12_run_150 : decode cX12_run 150 = .ok (.aload_n 0, 1) := dk_42 (by decide +kernel)
theorem dX12_run_151 : decode cX12_run 151 = .ok (.iconst 1, 1) := dk_4 (by decide +kernel)
theorem dX12_run_152 : decode cX12_run 152 = .ok (.putfield 294, 3) := dk_181 (a := 1) (b := 38) (by decide +kernel) rfl
theorem dX12_run_155 : decode cX12_run 155 = .ok (.aload_n 0, 1) := dk_42 (by decide +kernel)
theorem dX12_run_156 : decode cX12_run 156 = .ok (.aload_n 0, 1) := dk_42 (by decide +kernel)
theorem dX12_run_157 : decode cX12_run 157 = .ok (.invokevirtual 297, 3) := dk_182 (a := 1) (b := 41) (by decide +kernel) rfl
theorem dX12_run_160 : decode cX12_run 160 = .ok (.putfield 301, 3) := dk_181 (a := 1) (b := 45) (by decide +kernel) rfl
theorem dX12_run_163 : decode cX12_run 163 = .ok (.aload_n 0, 1) := dk_42 (by decide +kernel)
theorem dX12_run_164 : decode cX12_run 164 = .ok (.aload_n 0, 1) := dk_42 (by decide +kernel)
theorem dX12_run_165 : decode cX12_run 165 = .ok (.getfield 191, 3) := dk_180 (a := 0) (b := 191) (by decide +kernel) rfl
theorem dX12_run_168 : decode cX12_run 168 = .ok (.putfield 304, 3) := dk_181 (a := 1) (b := 48) (by decide +kernel) rfl
theorem dX12_run_171 : decode cX12_run 171 = .ok (.aload_n 0, 1) := dk_42 (by decide +kernel)
theorem dX12_run_172 : decode cX12_run 172 = .ok (.aload_n 0, 1) := dk_42 (by decide +kernel)
theorem dX12_run_173 : decode cX12_run 173 = .ok (.getfield 194, 3) := dk_180 (a := 0) (b := 194) (by decide +kernel) rfl
theorem dX12_run_176 : decode cX12_run 176 = .ok (.putfield 307, 3) := dk_181 (a := 1) (b := 51) (by decide +kernel) rfl
theorem dX12_run_179 : decode cX12_run 179 = .ok (.aload_n 0, 1) := dk_42 (by decide +kernel)
theorem dX12_run_180 : decode cX12_run 180 = .ok (.aload_n 0, 1) := dk_42 (by decide +kernel)
theorem dX12_run_181 : decode cX12_run 181 = .ok (.getfield 194, 3) := dk_180 (a := 0) (b := 194) (by decide +kernel) rfl
theorem dX12_run_184 : decode cX12_run 184 = .ok (.ifCond .le 10, 3) := dk_158 (a := 0) (b := 10) (by decide +kernel) rfl
theorem dX12_run_187 : decode cX12_run 187 = .ok (.aload_n 0, 1) := dk_42 (by decide +kernel)
theorem dX12_run_188 : decode cX12_run 188 = .ok (.getfield 197, 3) := dk_180 (a := 0) (b := 197) (by decide +kernel) rfl
theorem dX12_run_191 : decode cX12_run 191 = .ok (.goto 4, 3) := dk_167 (a := 0) (b := 4) (by decide +kernel) rfl
theorem dX12_run_194 : decode cX12_run 194 = .ok (.iconst (-1), 1) := dk_2 (by decide +kernel)
theorem dX12_run_195 : decode cX12_run 195 = .ok (.putfield 310, 3) := dk_181 (a := 1) (b := 54) (by decide +kernel) rfl
theorem dX12_run_198 : decode cX12_run 198 = .ok (.aload_n 0, 1) := dk_42 (by decide +kernel)
theorem dX12_run_199 : decode cX12_run 199 = .ok (.aload_n 0, 1) := dk_42 (by decide +kernel)
theorem dX12_run_200 : decode cX12_run 200 = .ok (.getfield 188, 3) := dk_180 (a := 0) (b := 188) (by decide +kernel) rfl
theorem dX12_run_203 : decode cX12_run 203 = .ok (.putfield 313, 3) := dk_181 (a := 1) (b := 57) (by decide +kernel) rfl
theorem dX12_run_206 : decode cX12_run 206 = .ok (.aload_n 0, 1) := dk_42 (by decide +kernel)
theorem dX12_run_207 : decode cX12_run 207 = .ok (.aload_n 0, 1) := dk_42 (by decide +kernel)
theorem dX12_run_208 : decode cX12_run 208 = .ok (.getfield 191, 3) := dk_180 (a := 0) (b := 191) (by decide +kernel) rfl
theorem dX12_run_211 : decode cX12_run 211 = .ok (.putfield 316, 3) := dk_181 (a := 1) (b := 60) (by decide +kernel) rfl
theorem dX12_run_214 : decode cX12_run 214 = .ok (.aload_n 0, 1) := dk_42 (by decide +kernel)
theorem dX12_run_215 : decode cX12_run 215 = .ok (.getfield 301, 3) := dk_180 (a := 1) (b := 45) (by decide +kernel) rfl
theorem dX12_run_218 : decode cX12_run 218 = .ok (.ireturn, 1) := dk_172 (by decide +kernel)
theorem dX12_told_0 : decode cX12_told 0 = .ok (.aload_n 0, 1) := dk_42 (by decide +kernel)
theorem dX12_told_1 : decode cX12_told 1 = .ok (.iconst 0, 1) := dk_3 (by decide +kernel)
theorem dX12_told_2 : decode cX12_told 2 = .ok (.putfield 164, 3) := dk_181 (a := 0) (b := 164) (by decide +kernel) rfl
theorem dX12_told_5 : decode cX12_told 5 = .ok (.aload_n 0, 1) := dk_42 (by decide +kernel)
theorem dX12_told_6 : decode cX12_told 6 = .ok (.getfield 294, 3) := dk_180 (a := 1) (b := 38) (by decide +kernel) rfl
theorem dX12_told_9 : decode cX12_told 9 = .ok (.ifCond .ne 6, 3) := dk_154 (a := 0) (b := 6) (by decide +kernel) rfl
theorem dX12_told_12 : decode cX12_told 12 = .ok (.bipush (-2), 2) := dk_16 (a := 254) (by decide +kernel) rfl
theorem dX12_told_14 : decode cX12_told 14 = .ok (.ireturn, 1) := dk_172 (by decide +kernel)
theorem dX12_told_15 : decode cX12_told 15 = .ok (.iload_n 1, 1) := dk_27 (by decide +kernel)
theorem dX12_told_16 : decode cX12_told 16 = .ok (.tableswitch 102 0 7 #[48, 53, 58, 63, 68, 78, 83, 88], 48) := by decide +kernel
theorem dX12_told_64 : decode cX12_told 64 = .ok (.aload_n 0, 1) := dk_42 (by decide +kernel)
theorem dX12_told_65 : decode cX12_told 65 = .ok (.getfield 301, 3) := dk_180 (a := 1) (b := 45) (by decide +kernel) rfl
theorem dX12_told_68 : decode cX12_told 68 = .ok (.ireturn, 1) := dk_172 (by decide +kernel)
theorem dX12_told_69 : decode cX12_told 69 = .ok (.aload_n 0, 1) := dk_42 (by decide +kernel)
theorem dX12_told_70 : decode cX12_told 70 = .ok (.getfield 304, 3) := dk_180 (a := 1) (b := 48) (by decide +kernel) rfl
theorem dX12_told_73 : decode cX12_told 73 = .ok (.ireturn, 1) := dk_172 (by decide +kernel)
theorem dX12_told_74 : decode cX12_told 74 = .ok (.aload_n 0, 1) := dk_42 (by decide +kernel)
theorem dX12_told_75 : decode cX12_told 75 = .ok (.getfield 307, 3) := dk_180 (a := 1) (b := 51) (by decide +kernel) rfl
theorem dX12_told_78 : decode cX12_told 78 = .ok (.ireturn, 1) := dk_172 (by decide +kernel)
theorem dX12_told_79 : decode cX12_told 79 = .ok (.aload_n 0, 1) := dk_42 (by decide +kernel)
theorem dX12_told_80 : decode cX12_told 80 = .ok (.getfield 310, 3) := dk_180 (a := 1) (b := 54) (by decide +kernel) rfl
theorem dX12_told_83 : decode cX12_told 83 = .ok (.ireturn, 1) := dk_172 (by decide +kernel)
theorem dX12_told_84 : decode cX12_told 84 = .ok (.aload_n 0, 1) := dk_42 (by decide +kernel)
theorem dX12_told_85 : decode cX12_told 85 = .ok (.getfield 80, 3) := dk_180 (a := 0) (b := 80) (by decide +kernel) rfl
theorem dX12_told_88 : decode cX12_told 88 = .ok (.aload_n 0, 1) := dk_42 (by decide +kernel)
theorem dX12_told_89 : decode cX12_told 89 = .ok (.getfield 304, 3) := dk_180 (a := 1) (b := 48) (by decide +kernel) rfl
theorem dX12_told_92 : decode cX12_told 92 = .ok (.iaload, 1) := dk_46 (by decide +kernel)
theorem dX12_told_93 : decode cX12_told 93 = .ok (.ireturn, 1) := dk_172 (by decide +kernel)
theorem dX12_told_94 : decode cX12_told 94 = .ok (.aload_n 0, 1) := dk_42 (by decide +kernel)
theorem dX12_told_95 : decode cX12_told 95 = .ok (.getfield 272, 3) := dk_180 (a := 1) (b := 16) (by decide +kernel) rfl
theorem dX12_told_98 : decode cX12_told 98 = .ok (.ireturn, 1) := dk_172 (by decide +kernel)
theorem dX12_told_99 : decode cX12_told 99 = .ok (.aload_n 0, 1) := dk_42 (by decide +kernel)
theorem dX12_told_100 : decode cX12_told 100 = .ok (.getfield 313, 3) := dk_180 (a := 1) (b := 57) (by decide +kernel) rfl
theorem dX12_told_103 : decode cX12_told 103 = .ok (.ireturn, 1) := dk_172 (by decide +kernel)
theorem dX12_told_104 : decode cX12_told 104 = .ok (.iconst 3, 1) := dk_6 (by decide +kernel)
theorem dX12_told_105 : decode cX12_told 105 = .ok (.aload_n 0, 1) := dk_42 (by decide +kernel)
theorem dX12_told_106 : decode cX12_told 106 = .ok (.getfield 272, 3) := dk_180 (a := 1) (b := 16) (by decide +kernel) rfl
theorem dX12_told_109 : decode cX12_told 109 = .ok (.imul, 1) := dk_104 (by decide +kernel)
theorem dX12_told_110 : decode cX12_told 110 = .ok (.iconst 4, 1) := dk_7 (by decide +kernel)
theorem dX12_told_111 : decode cX12_told 111 = .ok (.aload_n 0, 1) := dk_42 (by decide +kernel)
theorem dX12_told_112 : decode cX12_told 112 = .ok (.getfield 313, 3) := dk_180 (a := 1) (b := 57) (by decide +kernel) rfl
theorem dX12_told_115 : decode cX12_told 115 = .ok (.imul, 1) := dk_104 (by decide +kernel)
theorem dX12_told_116 : decode cX12_told 116 = .ok (.iadd, 1) := dk_96 (by decide +kernel)
theorem dX12_told_117 : decode cX12_told 117 = .ok (.ireturn, 1) := dk_172 (by decide +kernel)
theorem dX12_told_118 : decode cX12_told 118 = .ok (.iconst (-1), 1) := dk_2 (by decide +kernel)
theorem dX12_told_119 : decode cX12_told 119 = .ok (.ireturn, 1) := dk_172 (by decide +kernel)
theorem dX12_change_0 : decode cX12_change 0 = .ok (.aload_n 0, 1) := dk_42 (by decide +kernel)
theorem dX12_change_1 : decode cX12_change 1 = .ok (.iconst 0, 1) := dk_3 (by decide +kernel)
theorem dX12_change_2 : decode cX12_change 2 = .ok (.putfield 164, 3) := dk_181 (a := 0) (b := 164) (by decide +kernel) rfl
theorem dX12_change_5 : decode cX12_change 5 = .ok (.aload_n 0, 1) := dk_42 (by decide +kernel)
theorem dX12_change_6 : decode cX12_change 6 = .ok (.getfield 294, 3) := dk_180 (a := 1) (b := 38) (by decide +kernel) rfl
theorem dX12_change_9 : decode cX12_change 9 = .ok (.ifCond .ne 5, 3) := dk_154 (a := 0) (b := 5) (by decide +kernel) rfl
theorem dX12_change_12 : decode cX12_change 12 = .ok (.iconst (-1), 1) := dk_2 (by decide +kernel)
theorem dX12_change_13 : decode cX12_change 13 = .ok (.ireturn, 1) := dk_172 (by decide +kernel)
theorem dX12_change_14 : decode cX12_change 14 = .ok (.iload_n 1, 1) := dk_27 (by decide +kernel)
theorem dX12_change_15 : decode cX12_change 15 = .ok (.ifCond .lt 21, 3) := dk_155 (a := 0) (b := 21) (by decide +kernel) rfl
theorem dX12_change_18 : decode cX12_change 18 = .ok (.iload_n 1, 1) := dk_27 (by decide +kernel)
theorem dX12_change_19 : decode cX12_change 19 = .ok (.aload_n 0, 1) := dk_42 (by decide +kernel)
theorem dX12_change_20 : decode cX12_change 20 = .ok (.getfield 272, 3) := dk_180 (a := 1) (b := 16) (by decide +kernel) rfl
theorem dX12_change_23 : decode cX12_change 23 = .ok (.if_icmp .ge 13, 3) := dk_162 (a := 0) (b := 13) (by decide +kernel) rfl
theorem dX12_change_26 : decode cX12_change 26 = .ok (.iload_n 2, 1) := dk_28 (by decide +kernel)
theorem dX12_change_27 : decode cX12_change 27 = .ok (.i2l, 1) := dk_133 (by decide +kernel)
theorem dX12_change_28 : decode cX12_change 28 = .ok (.lconst 0, 1) := dk_9 (by decide +kernel)
theorem dX12_change_29 : decode cX12_change 29 = .ok (.lconst 1, 1) := dk_10 (by decide +kernel)
theorem dX12_change_30 : decode cX12_change 30 = .ok (.invokestatic 169, 3) := dk_184 (a := 0) (b := 169) (by decide +kernel) rfl
theorem dX12_change_33 : decode cX12_change 33 = .ok (.ifCond .ne 7, 3) := dk_154 (a := 0) (b := 7) (by decide +kernel) rfl
theorem dX12_change_36 : decode cX12_change 36 = .ok (.iconst (-1), 1) := dk_2 (by decide +kernel)
theorem dX12_change_37 : decode cX12_change 37 = .ok (.goto 22, 3) := dk_167 (a := 0) (b := 22) (by decide +kernel) rfl
theorem dX12_change_40 : decode cX12_change 40 = .ok (.iload_n 2, 1) := dk_28 (by decide +kernel)
theorem dX12_change_41 : decode cX12_change 41 = .ok (.ifCond .ne 12, 3) := dk_154 (a := 0) (b := 12) (by decide +kernel) rfl
theorem dX12_change_44 : decode cX12_change 44 = .ok (.aload_n 0, 1) := dk_42 (by decide +kernel)
theorem dX12_change_45 : decode cX12_change 45 = .ok (.getfield 120, 3) := dk_180 (a := 0) (b := 120) (by decide +kernel) rfl
theorem dX12_change_48 : decode cX12_change 48 = .ok (.iload_n 1, 1) := dk_27 (by decide +kernel)
theorem dX12_change_49 : decode cX12_change 49 = .ok (.iaload, 1) := dk_46 (by decide +kernel)
theorem dX12_change_50 : decode cX12_change 50 = .ok (.goto 9, 3) := dk_167 (a := 0) (b := 9) (by decide +kernel) rfl
theorem dX12_change_53 : decode cX12_change 53 = .ok (.aload_n 0, 1) := dk_42 (by decide +kernel)
theorem dX12_change_54 : decode cX12_change 54 = .ok (.getfield 123, 3) := dk_180 (a := 0) (b := 123) (by decide +kernel) rfl
theorem dX12_change_57 : decode cX12_change 57 = .ok (.iload_n 1, 1) := dk_27 (by decide +kernel)
theorem dX12_change_58 : decode cX12_change 58 = .ok (.iaload, 1) := dk_46 (by decide +kernel)
theorem dX12_change_59 : decode cX12_change 59 = .ok (.ireturn, 1) := dk_172 (by decide +kernel)
theorem dX12_step__0 : decode cX12_step_ 0 = .ok (.aload_n 0, 1) := dk_42 (by decide +kernel)
theorem dX12_step__1 : decode cX12_step_ 1 = .ok (.iconst 0, 1) := dk_3 (by decide +kernel)
theorem dX12_step__2 : decode cX12_step_ 2 = .ok (.putfield 164, 3) := dk_181 (a := 0) (b := 164) (by decide +kernel) rfl
theorem dX12_step__5 : decode cX12_step_ 5 = .ok (.aload_n 0, 1) := dk_42 (by decide +kernel)
theorem dX12_step__6 : decode cX12_step_ 6 = .ok (.getfield 294, 3) := dk_180 (a := 1) (b := 38) (by decide +kernel) rfl
theorem dX12_step__9 : decode cX12_step_ 9 = .ok (.ifCond .ne 5, 3) := dk_154 (a := 0) (b := 5) (by decide +kernel) rfl
theorem dX12_step__12 : decode cX12_step_ 12 = .ok (.iconst (-1), 1) := dk_2 (by decide +kernel)
theorem dX12_step__13 : decode cX12_step_ 13 = .ok (.ireturn, 1) := dk_172 (by decide +kernel)
theorem dX12_step__14 : decode cX12_step_ 14 = .ok (.iload_n 1, 1) := dk_27 (by decide +kernel)
theorem dX12_step__15 : decode cX12_step_ 15 = .ok (.i2l, 1) := dk_133 (by decide +kernel)
theorem dX12_step__16 : decode cX12_step_ 16 = .ok (.lconst 1, 1) := dk_10 (by decide +kernel)
theorem dX12_step__17 : decode cX12_step_ 17 = .ok (.aload_n 0, 1) := dk_42 (by decide +kernel)
theorem dX12_step__18 : decode cX12_step_ 18 = .ok (.getfield 304, 3) := dk_180 (a := 1) (b := 48) (by decide +kernel) rfl
theorem dX12_step__21 : decode cX12_step_ 21 = .ok (.i2l, 1) := dk_133 (by decide +kernel)
theorem dX12_step__22 : decode cX12_step_ 22 = .ok (.invokestatic 169, 3) := dk_184 (a := 0) (b := 169) (by decide +kernel) rfl
theorem dX12_step__25 : decode cX12_step_ 25 = .ok (.ifCond .ne 5, 3) := dk_154 (a := 0) (b := 5) (by decide +kernel) rfl
theorem dX12_step__28 : decode cX12_step_ 28 = .ok (.iconst (-1), 1) := dk_2 (by decide +kernel)
theorem dX12_step__29 : decode cX12_step_ 29 = .ok (.ireturn, 1) := dk_172 (by decide +kernel)
theorem dX12_step__30 : decode cX12_step_ 30 = .ok (.iload_n 2, 1) := dk_28 (by decide +kernel)
theorem dX12_step__31 : decode cX12_step_ 31 = .ok (.tableswitch 79 0 5 #[37, 44, 51, 58, 65, 72], 37) := by decide +kernel
theorem dX12_step__68 : decode cX12_step_ 68 = .ok (.aload_n 0, 1) := dk_42 (by decide +kernel)
theorem dX12_step__69 : decode cX12_step_ 69 = .ok (.getfield 96, 3) := dk_180 (a := 0) (b := 96) (by decide +kernel) rfl
theorem dX12_step__72 : decode cX12_step_ 72 = .ok (.iload_n 1, 1) := dk_27 (by decide +kernel)
theorem dX12_step__73 : decode cX12_step_ 73 = .ok (.iaload, 1) := dk_46 (by decide +kernel)
theorem dX12_step__74 : decode cX12_step_ 74 = .ok (.ireturn, 1) := dk_172 (by decide +kernel)
theorem dX12_step__75 : decode cX12_step_ 75 = .ok (.aload_n 0, 1) := dk_42 (by decide +kernel)
theorem dX12_step__76 : decode cX12_step_ 76 = .ok (.getfield 99, 3) := dk_180 (a := 0) (b := 99) (by decide +kernel) rfl
theorem dX12_step__79 : decode cX12_step_ 79 = .ok (.iload_n 1, 1) := dk_27 (by decide +kernel)
theorem dX12_step__80 : decode cX12_step_ 80 = .ok (.iaload, 1) := dk_46 (by decide +kernel)
theorem dX12_step__81 : decode cX12_step_ 81 = .ok (.ireturn, 1) := dk_172 (by decide +kernel)
theorem dX12_step__82 : decode cX12_step_ 82 = .ok (.aload_n 0, 1) := dk_42 (by decide +kernel)
theorem dX12_step__83 : decode cX12_step_ 83 = .ok (.getfield 102, 3) := dk_180 (a := 0) (b := 102) (by decide +kernel) rfl
theorem dX12_step__86 : decode cX12_step_ 86 = .ok (.iload_n 1, 1) := dk_27 (by decide +kernel)
theorem dX12_step__87 : decode cX12_step_ 87 = .ok (.iaload, 1) := dk_46 (by decide +kernel)
theorem dX12_step__88 : decode cX12_step_ 88 = .ok (.ireturn, 1) := dk_172 (by decide +kernel)
theorem dX12_step__89 : decode cX12_step_ 89 = .ok (.aload_n 0, 1) := dk_42 (by decide +kernel)
theorem dX12_step__90 : decode cX12_step_ 90 = .ok (.getfield 105, 3) := dk_180 (a := 0) (b := 105) (by decide +kernel) rfl
theorem dX12_step__93 : decode cX12_step_ 93 = .ok (.iload_n 1, 1) := dk_27 (by decide +kernel)
theorem dX12_step__94 : decode cX12_step_ 94 = .ok (.iaload, 1) := dk_46 (by decide +kernel)
theorem dX12_step__95 : decode cX12_step_ 95 = .ok (.ireturn, 1) := dk_172 (by decide +kernel)
theorem dX12_step__96 : decode cX12_step_ 96 = .ok (.aload_n 0, 1) := dk_42 (by decide +kernel)
theorem dX12_step__97 : decode cX12_step_ 97 = .ok (.getfield 108, 3) := dk_180 (a := 0) (b := 108) (by decide +kernel) rfl
theorem dX12_step__100 : decode cX12_step_ 100 = .ok (.iload_n 1, 1) := dk_27 (by decide +kernel)
theorem dX12_step__101 : decode cX12_step_ 101 = .ok (.iaload, 1) := dk_46 (by decide +kernel)
theorem dX12_step__102 : decode cX12_step_ 102 = .ok (.ireturn, 1) := dk_172 (by decide +kernel)
theorem dX12_step__103 : decode cX12_step_ 103 = .ok (.aload_n 0, 1) := dk_42 (by decide +kernel)
theorem dX12_step__104 : decode cX12_step_ 104 = .ok (.getfield 111, 3) := dk_180 (a := 0) (b := 111) (by decide +kernel) rfl
theorem dX12_step__107 : decode cX12_step_ 107 = .ok (.iload_n 1, 1) := dk_27 (by decide +kernel)
theorem dX12_step__108 : decode cX12_step_ 108 = .ok (.iaload, 1) := dk_46 (by decide +kernel)
theorem dX12_step__109 : decode cX12_step_ 109 = .ok (.ireturn, 1) := dk_172 (by decide +kernel)
theorem dX12_step__110 : decode cX12_step_ 110 = .ok (.iconst (-1), 1) := dk_2 (by decide +kernel)
theorem dX12_step__111 : decode cX12_step_ 111 = .ok (.ireturn, 1) := dk_172 (by decide +kernel)
theorem dX12_toldThread_0 : decode cX12_toldThread 0 = .ok (.iconst 0, 1) := dk_3 (by decide +kernel)
theorem dX12_toldThread_1 : decode cX12_toldThread 1 = .ok (.istore_n 3, 1) := dk_62 (by decide +kernel)
theorem dX12_toldThread_2 : decode cX12_toldThread 2 = .ok (.iconst 0, 1) := dk_3 (by decide +kernel)
theorem dX12_toldThread_3 : decode cX12_toldThread 3 = .ok (.istore 4, 2) := dk_54 (by decide +kernel)
theorem dX12_toldThread_5 : decode cX12_toldThread 5 = .ok (.iload 4, 2) := dk_21 (by decide +kernel)
theorem dX12_toldThread_7 : decode cX12_toldThread 7 = .ok (.iload_n 1, 1) := dk_27 (by decide +kernel)
theorem dX12_toldThread_8 : decode cX12_toldThread 8 = .ok (.if_icmp .ge 32, 3) := dk_162 (a := 0) (b := 32) (by decide +kernel) rfl
theorem dX12_toldThread_11 : decode cX12_toldThread 11 = .ok (.aload_n 0, 1) := dk_42 (by decide +kernel)
theorem dX12_toldThread_12 : decode cX12_toldThread 12 = .ok (.getfield 120, 3) := dk_180 (a := 0) (b := 120) (by decide +kernel) rfl
theorem dX12_toldThread_15 : decode cX12_toldThread 15 = .ok (.iload 4, 2) := dk_21 (by decide +kernel)
theorem dX12_toldThread_17 : decode cX12_toldThread 17 = .ok (.iaload, 1) := dk_46 (by decide +kernel)
theorem dX12_toldThread_18 : decode cX12_toldThread 18 = .ok (.iload_n 2, 1) := dk_28 (by decide +kernel)
theorem dX12_toldThread_19 : decode cX12_toldThread 19 = .ok (.if_icmp .ge 13, 3) := dk_162 (a := 0) (b := 13) (by decide +kernel) rfl
theorem dX12_toldThread_22 : decode cX12_toldThread 22 = .ok (.aload_n 0, 1) := dk_42 (by decide +kernel)
theorem dX12_toldThread_23 : decode cX12_toldThread 23 = .ok (.getfield 123, 3) := dk_180 (a := 0) (b := 123) (by decide +kernel) rfl
theorem dX12_toldThread_26 : decode cX12_toldThread 26 = .ok (.iload 4, 2) := dk_21 (by decide +kernel)
theorem dX12_toldThread_28 : decode cX12_toldThread 28 = .ok (.iaload, 1) := dk_46 (by decide +kernel)
theorem dX12_toldThread_29 : decode cX12_toldThread 29 = .ok (.goto 4, 3) := dk_167 (a := 0) (b := 4) (by decide +kernel) rfl
theorem dX12_toldThread_32 : decode cX12_toldThread 32 = .ok (.iload_n 3, 1) := dk_29 (by decide +kernel)
theorem dX12_toldThread_33 : decode cX12_toldThread 33 = .ok (.istore_n 3, 1) := dk_62 (by decide +kernel)
theorem dX12_toldThread_34 : decode cX12_toldThread 34 = .ok (.iinc 4 1, 3) := dk_132 (b := 1) (by decide +kernel) rfl
theorem dX12_toldThread_37 : decode cX12_toldThread 37 = .ok (.goto (-32), 3) := dk_167 (a := 255) (b := 224) (by decide +kernel) rfl
theorem dX12_toldThread_40 : decode cX12_toldThread 40 = .ok (.iload_n 3, 1) := dk_29 (by decide +kernel)
theorem dX12_toldThread_41 : decode cX12_toldThread 41 = .ok (.ireturn, 1) := dk_172 (by decide +kernel)
theorem dX12_play_0 : decode cX12_play 0 = .ok (.aload_n 0, 1) := dk_42 (by decide +kernel)
theorem dX12_play_1 : decode cX12_play 1 = .ok (.iconst 0, 1) := dk_3 (by decide +kernel)
theorem dX12_play_2 : decode cX12_play 2 = .ok (.putfield 164, 3) := dk_181 (a := 0) (b := 164) (by decide +kernel) rfl
theorem dX12_play_5 : decode cX12_play 5 = .ok (.aload_n 0, 1) := dk_42 (by decide +kernel)
theorem dX12_play_6 : decode cX12_play 6 = .ok (.getfield 294, 3) := dk_180 (a := 1) (b := 38) (by decide +kernel) rfl
theorem dX12_play_9 : decode cX12_play 9 = .ok (.ifCond .ne 6, 3) := dk_154 (a := 0) (b := 6) (by decide +kernel) rfl
theorem dX12_play_12 : decode cX12_play 12 = .ok (.bipush (-2), 2) := dk_16 (a := 254) (by decide +kernel) rfl
theorem dX12_play_14 : decode cX12_play 14 = .ok (.ireturn, 1) := dk_172 (by decide +kernel)
theorem dX12_play_15 : decode cX12_play 15 = .ok (.iload_n 1, 1) := dk_27 (by decide +kernel)
theorem dX12_play_16 : decode cX12_play 16 = .ok (.i2l, 1) := dk_133 (by decide +kernel)
theorem dX12_play_17 : decode cX12_play 17 = .ok (.lconst 0, 1) := dk_9 (by decide +kernel)
theorem dX12_play_18 : decode cX12_play 18 = .ok (.aload_n 0, 1) := dk_42 (by decide +kernel)
theorem dX12_play_19 : decode cX12_play 19 = .ok (.getfield 272, 3) := dk_180 (a := 1) (b := 16) (by decide +kernel) rfl
theorem dX12_play_22 : decode cX12_play 22 = .ok (.i2l, 1) := dk_133 (by decide +kernel)
theorem dX12_play_23 : decode cX12_play 23 = .ok (.invokestatic 169, 3) := dk_184 (a := 0) (b := 169) (by decide +kernel) rfl
theorem dX12_play_26 : decode cX12_play 26 = .ok (.ifCond .eq 17, 3) := dk_153 (a := 0) (b := 17) (by decide +kernel) rfl
theorem dX12_play_29 : decode cX12_play 29 = .ok (.iload_n 2, 1) := dk_28 (by decide +kernel)
theorem dX12_play_30 : decode cX12_play 30 = .ok (.i2l, 1) := dk_133 (by decide +kernel)
theorem dX12_play_31 : decode cX12_play 31 = .ok (.lconst 0, 1) := dk_9 (by decide +kernel)
theorem dX12_play_32 : decode cX12_play 32 = .ok (.aload_n 0, 1) := dk_42 (by decide +kernel)
theorem dX12_play_33 : decode cX12_play 33 = .ok (.getfield 313, 3) := dk_180 (a := 1) (b := 57) (by decide +kernel) rfl
theorem dX12_play_36 : decode cX12_play 36 = .ok (.i2l, 1) := dk_133 (by decide +kernel)
theorem dX12_play_37 : decode cX12_play 37 = .ok (.invokestatic 169, 3) := dk_184 (a := 0) (b := 169) (by decide +kernel) rfl
theorem dX12_play_40 : decode cX12_play 40 = .ok (.ifCond .ne 5, 3) := dk_154 (a := 0) (b := 5) (by decide +kernel) rfl
theorem dX12_play_43 : decode cX12_play 43 = .ok (.iconst (-1), 1) := dk_2 (by decide +kernel)
theorem dX12_play_44 : decode cX12_play 44 = .ok (.ireturn, 1) := dk_172 (by decide +kernel)
theorem dX12_play_45 : decode cX12_play 45 = .ok (.aload_n 0, 1) := dk_42 (by decide +kernel)
theorem dX12_play_46 : decode cX12_play 46 = .ok (.iconst 1, 1) := dk_4 (by decide +kernel)
theorem dX12_play_47 : decode cX12_play 47 = .ok (.putfield 218, 3) := dk_181 (a := 0) (b := 218) (by decide +kernel) rfl
theorem dX12_play_50 : decode cX12_play 50 = .ok (.aload_n 0, 1) := dk_42 (by decide +kernel)
theorem dX12_play_51 : decode cX12_play 51 = .ok (.iload_n 2, 1) := dk_28 (by decide +kernel)
theorem dX12_play_52 : decode cX12_play 52 = .ok (.putfield 250, 3) := dk_181 (a := 0) (b := 250) (by decide +kernel) rfl
theorem dX12_play_55 : decode cX12_play 55 = .ok (.aload_n 0, 1) := dk_42 (by decide +kernel)
theorem dX12_play_56 : decode cX12_play 56 = .ok (.invokevirtual 285, 3) := dk_182 (a := 1) (b := 29) (by decide +kernel) rfl
theorem dX12_play_59 : decode cX12_play 59 = .ok (.aload_n 0, 1) := dk_42 (by decide +kernel)
theorem dX12_play_60 : decode cX12_play 60 = .ok (.iconst (-1), 1) := dk_2 (by decide +kernel)
theorem dX12_play_61 : decode cX12_play 61 = .ok (.putfield 130, 3) := dk_181 (a := 0) (b := 130) (by decide +kernel) rfl
theorem dX12_play_64 : decode cX12_play 64 = .ok (.iload_n 1, 1) := dk_27 (by decide +kernel)
theorem dX12_play_65 : decode cX12_play 65 = .ok (.ifCond .ne 7, 3) := dk_154 (a := 0) (b := 7) (by decide +kernel) rfl
theorem dX12_play_68 : decode cX12_play 68 = .ok (.iconst 0, 1) := dk_3 (by decide +kernel)
theorem dX12_play_69 : decode cX12_play 69 = .ok (.goto 13, 3) := dk_167 (a := 0) (b := 13) (by decide +kernel) rfl
theorem dX12_play_72 : decode cX12_play 72 = .ok (.aload_n 0, 1) := dk_42 (by decide +kernel)
theorem dX12_play_73 : decode cX12_play 73 = .ok (.getfield 120, 3) := dk_180 (a := 0) (b := 120) (by decide +kernel) rfl
theorem dX12_play_76 : decode cX12_play 76 = .ok (.iload_n 1, 1) := dk_27 (by decide +kernel)
theorem dX12_play_77 : decode cX12_play 77 = .ok (.iconst 1, 1) := dk_4 (by decide +kernel)
theorem dX12_play_78 : decode cX12_play 78 = .ok (.isub, 1) := dk_100 (by decide +kernel)
theorem dX12_play_79 : decode cX12_play 79 = .ok (.iaload, 1) := dk_46 (by decide +kernel)
theorem dX12_play_80 : decode cX12_play 80 = .ok (.iconst 1, 1) := dk_4 (by decide +kernel)
theorem dX12_play_81 : decode cX12_play 81 = .ok (.iadd, 1) := dk_96 (by decide +kernel)
theorem dX12_play_82 : decode cX12_play 82 = .ok (.istore_n 3, 1) := dk_62 (by decide +kernel)
theorem dX12_play_83 : decode cX12_play 83 = .ok (.aload_n 0, 1) := dk_42 (by decide +kernel)
theorem dX12_play_84 : decode cX12_play 84 = .ok (.getfield 130, 3) := dk_180 (a := 0) (b := 130) (by decide +kernel) rfl
theorem dX12_play_87 : decode cX12_play 87 = .ok (.ifCond .ge 158, 3) := dk_156 (a := 0) (b := 158) (by decide +kernel) rfl
theorem dX12_play_90 : decode cX12_play 90 = .ok (.aload_n 0, 1) := dk_42 (by decide +kernel)
theorem dX12_play_91 : decode cX12_play 91 = .ok (.getfield 191, 3) := dk_180 (a := 0) (b := 191) (by decide +kernel) rfl
theorem dX12_play_94 : decode cX12_play 94 = .ok (.iload_n 3, 1) := dk_29 (by decide +kernel)
theorem dX12_play_95 : decode cX12_play 95 = .ok (.if_icmp .ge 7, 3) := dk_162 (a := 0) (b := 7) (by decide +kernel) rfl
theorem dX12_play_98 : decode cX12_play 98 = .ok (.iconst 1, 1) := dk_4 (by decide +kernel)
theorem dX12_play_99 : decode cX12_play 99 = .ok (.goto 4, 3) := dk_167 (a := 0) (b := 4) (by decide +kernel) rfl
theorem dX12_play_102 : decode cX12_play 102 = .ok (.iconst 0, 1) := dk_3 (by decide +kernel)
theorem dX12_play_103 : decode cX12_play 103 = .ok (.istore 4, 2) := dk_54 (by decide +kernel)
theorem dX12_play_105 : decode cX12_play 105 = .ok (.iload 4, 2) := dk_21 (by decide +kernel)
theorem dX12_play_107 : decode cX12_play 107 = .ok (.ifCond .eq 17, 3) := dk_153 (a := 0) (b := 17) (by decide +kernel) rfl
theorem dX12_play_110 : decode cX12_play 110 = .ok (.aload_n 0, 1) := dk_42 (by decide +kernel)
theorem dX12_play_111 : decode cX12_play 111 = .ok (.iload_n 1, 1) := dk_27 (by decide +kernel)
theorem dX12_play_112 : decode cX12_play 112 = .ok (.aload_n 0, 1) := dk_42 (by decide +kernel)
theorem dX12_play_113 : decode cX12_play 113 = .ok (.getfield 191, 3) := dk_180 (a := 0) (b := 191) (by decide +kernel) rfl
theorem dX12_play_116 : decode cX12_play 116 = .ok (.iconst 1, 1) := dk_4 (by decide +kernel)
theorem dX12_play_117 : decode cX12_play 117 = .ok (.iadd, 1) := dk_96 (by decide +kernel)
theorem dX12_play_118 : decode cX12_play 118 = .ok (.invokevirtual 319, 3) := dk_182 (a := 1) (b := 63) (by decide +kernel) rfl
theorem dX12_play_121 : decode cX12_play 121 = .ok (.goto 11, 3) := dk_167 (a := 0) (b := 11) (by decide +kernel) rfl
theorem dX12_play_124 : decode cX12_play 124 = .ok (.aload_n 0, 1) := dk_42 (by decide +kernel)
theorem dX12_play_125 : decode cX12_play 125 = .ok (.aload_n 0, 1) := dk_42 (by decide +kernel)
theorem dX12_play_126 : decode cX12_play 126 = .ok (.getfield 197, 3) := dk_180 (a := 0) (b := 197) (by decide +kernel) rfl
theorem dX12_play_129 : decode cX12_play 129 = .ok (.invokevirtual 282, 3) := dk_182 (a := 1) (b := 26) (by decide +kernel) rfl
theorem dX12_play_132 : decode cX12_play 132 = .ok (.istore 5, 2) := dk_54 (by decide +kernel)
theorem dX12_play_134 : decode cX12_play 134 = .ok (.iload 4, 2) := dk_21 (by decide +kernel)
theorem dX12_play_136 : decode cX12_play 136 = .ok (.ifCond .eq 30, 3) := dk_153 (a := 0) (b := 30) (by decide +kernel) rfl
theorem dX12_play_139 : decode cX12_play 139 = .ok (.aload_n 0, 1) := dk_42 (by decide +kernel)
theorem dX12_play_140 : decode cX12_play 140 = .ok (.getfield 191, 3) := dk_180 (a := 0) (b := 191) (by decide +kernel) rfl
theorem dX12_play_143 : decode cX12_play 143 = .ok (.sipush 300, 3) := dk_17 (a := 1) (b := 44) (by decide +kernel) rfl
theorem dX12_play_146 : decode cX12_play 146 = .ok (.if_icmp .ge 20, 3) := dk_162 (a := 0) (b := 20) (by decide +kernel) rfl
theorem dX12_play_149 : decode cX12_play 149 = .ok (.aload_n 0, 1) := dk_42 (by decide +kernel)
theorem dX12_play_150 : decode cX12_play 150 = .ok (.iload 5, 2) := dk_21 (by decide +kernel)
theorem dX12_play_152 : decode cX12_play 152 = .ok (.invokevirtual 215, 3) := dk_182 (a := 0) (b := 215) (by decide +kernel) rfl
theorem dX12_play_155 : decode cX12_play 155 = .ok (.ifCond .ne 11, 3) := dk_154 (a := 0) (b := 11) (by decide +kernel) rfl
theorem dX12_play_158 : decode cX12_play 158 = .ok (.aload_n 0, 1) := dk_42 (by decide +kernel)
theorem dX12_play_159 : decode cX12_play 159 = .ok (.iconst 1, 1) := dk_4 (by decide +kernel)
theorem dX12_play_160 : decode cX12_play 160 = .ok (.putfield 130, 3) := dk_181 (a := 0) (b := 130) (by decide +kernel) rfl
theorem dX12_play_163 : decode cX12_play 163 = .ok (.goto 79, 3) := dk_167 (a := 0) (b := 79) (by decide +kernel) rfl
theorem dX12_play_166 : decode cX12_play 166 = .ok (.iload 5, 2) := dk_21 (by decide +kernel)
theorem dX12_play_168 : decode cX12_play 168 = .ok (.ifCond .ge 11, 3) := dk_156 (a := 0) (b := 11) (by decide +kernel) rfl
theorem dX12_play_171 : decode cX12_play 171 = .ok (.aload_n 0, 1) := dk_42 (by decide +kernel)
theorem dX12_play_172 : decode cX12_play 172 = .ok (.iconst 0, 1) := dk_3 (by decide +kernel)
theorem dX12_play_173 : decode cX12_play 173 = .ok (.putfield 130, 3) := dk_181 (a := 0) (b := 130) (by decide +kernel) rfl
theorem dX12_play_176 : decode cX12_play 176 = .ok (.goto 66, 3) := dk_167 (a := 0) (b := 66) (by decide +kernel) rfl
theorem dX12_play_179 : decode cX12_play 179 = .ok (.aload_n 0, 1) := dk_42 (by decide +kernel)
theorem dX12_play_180 : decode cX12_play 180 = .ok (.getfield 191, 3) := dk_180 (a := 0) (b := 191) (by decide +kernel) rfl
theorem dX12_play_183 : decode cX12_play 183 = .ok (.sipush 300, 3) := dk_17 (a := 1) (b := 44) (by decide +kernel) rfl
theorem dX12_play_186 : decode cX12_play 186 = .ok (.if_icmp .ne 23, 3) := dk_160 (a := 0) (b := 23) (by decide +kernel) rfl
theorem dX12_play_189 : decode cX12_play 189 = .ok (.aload_n 0, 1) := dk_42 (by decide +kernel)
theorem dX12_play_190 : decode cX12_play 190 = .ok (.aload_n 0, 1) := dk_42 (by decide +kernel)
theorem dX12_play_191 : decode cX12_play 191 = .ok (.iconst 0, 1) := dk_3 (by decide +kernel)
theorem dX12_play_192 : decode cX12_play 192 = .ok (.invokevirtual 282, 3) := dk_182 (a := 1) (b := 26) (by decide +kernel) rfl
theorem dX12_play_195 : decode cX12_play 195 = .ok (.ifCond .lt 7, 3) := dk_155 (a := 0) (b := 7) (by decide +kernel) rfl
theorem dX12_play_198 : decode cX12_play 198 = .ok (.iconst 4, 1) := dk_7 (by decide +kernel)
theorem dX12_play_199 : decode cX12_play 199 = .ok (.goto 4, 3) := dk_167 (a := 0) (b := 4) (by decide +kernel) rfl
theorem dX12_play_202 : decode cX12_play 202 = .ok (.iconst 0, 1) := dk_3 (by decide +kernel)
theorem dX12_play_203 : decode cX12_play 203 = .ok (.putfield 130, 3) := dk_181 (a := 0) (b := 130) (by decide +kernel) rfl
theorem dX12_play_206 : decode cX12_play 206 = .ok (.goto 36, 3) := dk_167 (a := 0) (b := 36) (by decide +kernel) rfl
theorem dX12_play_209 : decode cX12_play 209 = .ok (.aload_n 0, 1) := dk_42 (by decide +kernel)
theorem dX12_play_210 : decode cX12_play 210 = .ok (.iload 5, 2) := dk_21 (by decide +kernel)
theorem dX12_play_212 : decode cX12_play 212 = .ok (.invokevirtual 275, 3) := dk_182 (a := 1) (b := 19) (by decide +kernel) rfl
theorem dX12_play_215 : decode cX12_play 215 = .ok (.aload_n 0, 1) := dk_42 (by decide +kernel)
theorem dX12_play_216 : decode cX12_play 216 = .ok (.aload_n 0, 1) := dk_42 (by decide +kernel)
theorem dX12_play_217 : decode cX12_play 217 = .ok (.getfield 200, 3) := dk_180 (a := 0) (b := 200) (by decide +kernel) rfl
theorem dX12_play_220 : decode cX12_play 220 = .ok (.ifCond .eq 7, 3) := dk_153 (a := 0) (b := 7) (by decide +kernel) rfl
theorem dX12_play_223 : decode cX12_play 223 = .ok (.iconst 2, 1) := dk_5 (by decide +kernel)
theorem dX12_play_224 : decode cX12_play 224 = .ok (.goto 15, 3) := dk_167 (a := 0) (b := 15) (by decide +kernel) rfl
theorem dX12_play_227 : decode cX12_play 227 = .ok (.aload_n 0, 1) := dk_42 (by decide +kernel)
theorem dX12_play_228 : decode cX12_play 228 = .ok (.getfield 194, 3) := dk_180 (a := 0) (b := 194) (by decide +kernel) rfl
theorem dX12_play_231 : decode cX12_play 231 = .ok (.ifCond .le 7, 3) := dk_158 (a := 0) (b := 7) (by decide +kernel) rfl
theorem dX12_play_234 : decode cX12_play 234 = .ok (.iconst 3, 1) := dk_6 (by decide +kernel)
theorem dX12_play_235 : decode cX12_play 235 = .ok (.goto 4, 3) := dk_167 (a := 0) (b := 4) (by decide +kernel) rfl
theorem dX12_play_238 : decode cX12_play 238 = .ok (.iconst (-1), 1) := dk_2 (by decide +kernel)
theorem dX12_play_239 : decode cX12_play 239 = .ok (.putfield 130, 3) := dk_181 (a := 0) (b := 130) (by decide +kernel) rfl
theorem dX12_play_242 : decode cX12_play 242 = .ok (.goto (-159), 3) := dk_167 (a := 255) (b := 97) (by decide +kernel) rfl
theorem dX12_play_245 : decode cX12_play 245 = .ok (.aload_n 0, 1) := dk_42 (by decide +kernel)
theorem dX12_play_246 : decode cX12_play 246 = .ok (.iconst 0, 1) := dk_3 (by decide +kernel)
theorem dX12_play_247 : decode cX12_play 247 = .ok (.putfield 218, 3) := dk_181 (a := 0) (b := 218) (by decide +kernel) rfl
theorem dX12_play_250 : decode cX12_play 250 = .ok (.aload_n 0, 1) := dk_42 (by decide +kernel)
theorem dX12_play_251 : decode cX12_play 251 = .ok (.getfield 191, 3) := dk_180 (a := 0) (b := 191) (by decide +kernel) rfl
theorem dX12_play_254 : decode cX12_play 254 = .ok (.ireturn, 1) := dk_172 (by decide +kernel)
theorem dX12_ended_0 : decode cX12_ended 0 = .ok (.aload_n 0, 1) := dk_42 (by decide +kernel)
theorem dX12_ended_1 : decode cX12_ended 1 = .ok (.iconst 0, 1) := dk_3 (by decide +kernel)
theorem dX12_ended_2 : decode cX12_ended 2 = .ok (.putfield 164, 3) := dk_181 (a := 0) (b := 164) (by decide +kernel) rfl
theorem dX12_ended_5 : decode cX12_ended 5 = .ok (.aload_n 0, 1) := dk_42 (by decide +kernel)
theorem dX12_ended_6 : decode cX12_ended 6 = .ok (.getfield 130, 3) := dk_180 (a := 0) (b := 130) (by decide +kernel) rfl
theorem dX12_ended_9 : decode cX12_ended 9 = .ok (.ireturn, 1) := dk_172 (by decide +kernel)
theorem dX12_to_0 : decode cX12_to 0 = .ok (.aload_n 0, 1) := dk_42 (by decide +kernel)
theorem dX12_to_1 : decode cX12_to 1 = .ok (.iconst 0, 1) := dk_3 (by decide +kernel)
theorem dX12_to_2 : decode cX12_to 2 = .ok (.putfield 164, 3) := dk_181 (a := 0) (b := 164) (by decide +kernel) rfl
theorem dX12_to_5 : decode cX12_to 5 = .ok (.aload_n 0, 1) := dk_42 (by decide +kernel)
theorem dX12_to_6 : decode cX12_to 6 = .ok (.getfield 294, 3) := dk_180 (a := 1) (b := 38) (by decide +kernel) rfl
theorem dX12_to_9 : decode cX12_to 9 = .ok (.ifCond .ne 6, 3) := dk_154 (a := 0) (b := 6) (by decide +kernel) rfl
theorem dX12_to_12 : decode cX12_to 12 = .ok (.bipush (-2), 2) := dk_16 (a := 254) (by decide +kernel) rfl
theorem dX12_to_14 : decode cX12_to 14 = .ok (.ireturn, 1) := dk_172 (by decide +kernel)
theorem dX12_to_15 : decode cX12_to 15 = .ok (.iload_n 1, 1) := dk_27 (by decide +kernel)
theorem dX12_to_16 : decode cX12_to 16 = .ok (.i2l, 1) := dk_133 (by decide +kernel)
theorem dX12_to_17 : decode cX12_to 17 = .ok (.lconst 0, 1) := dk_9 (by decide +kernel)
theorem dX12_to_18 : decode cX12_to 18 = .ok (.aload_n 0, 1) := dk_42 (by decide +kernel)
theorem dX12_to_19 : decode cX12_to 19 = .ok (.getfield 304, 3) := dk_180 (a := 1) (b := 48) (by decide +kernel) rfl
theorem dX12_to_22 : decode cX12_to 22 = .ok (.i2l, 1) := dk_133 (by decide +kernel)
theorem dX12_to_23 : decode cX12_to 23 = .ok (.invokestatic 169, 3) := dk_184 (a := 0) (b := 169) (by decide +kernel) rfl
theorem dX12_to_26 : decode cX12_to 26 = .ok (.ifCond .ne 5, 3) := dk_154 (a := 0) (b := 5) (by decide +kernel) rfl
theorem dX12_to_29 : decode cX12_to 29 = .ok (.iconst (-1), 1) := dk_2 (by decide +kernel)
theorem dX12_to_30 : decode cX12_to 30 = .ok (.ireturn, 1) := dk_172 (by decide +kernel)
theorem dX12_to_31 : decode cX12_to 31 = .ok (.aload_n 0, 1) := dk_42 (by decide +kernel)
theorem dX12_to_32 : decode cX12_to 32 = .ok (.iload_n 1, 1) := dk_27 (by decide +kernel)
theorem dX12_to_33 : decode cX12_to 33 = .ok (.putfield 316, 3) := dk_181 (a := 1) (b := 60) (by decide +kernel) rfl
theorem dX12_to_36 : decode cX12_to 36 = .ok (.iload_n 1, 1) := dk_27 (by decide +kernel)
theorem dX12_to_37 : decode cX12_to 37 = .ok (.ireturn, 1) := dk_172 (by decide +kernel)
theorem dX12_back_0 : decode cX12_back 0 = .ok (.aload_n 0, 1) := dk_42 (by decide +kernel)
theorem dX12_back_1 : decode cX12_back 1 = .ok (.iconst 0, 1) := dk_3 (by decide +kernel)
theorem dX12_back_2 : decode cX12_back 2 = .ok (.putfield 164, 3) := dk_181 (a := 0) (b := 164) (by decide +kernel) rfl
theorem dX12_back_5 : decode cX12_back 5 = .ok (.aload_n 0, 1) := dk_42 (by decide +kernel)
theorem dX12_back_6 : decode cX12_back 6 = .ok (.getfield 294, 3) := dk_180 (a := 1) (b := 38) (by decide +kernel) rfl
theorem dX12_back_9 : decode cX12_back 9 = .ok (.ifCond .ne 6, 3) := dk_154 (a := 0) (b := 6) (by decide +kernel) rfl
theorem dX12_back_12 : decode cX12_back 12 = .ok (.bipush (-2), 2) := dk_16 (a := 254) (by decide +kernel) rfl
theorem dX12_back_14 : decode cX12_back 14 = .ok (.ireturn, 1) := dk_172 (by decide +kernel)
theorem dX12_back_15 : decode cX12_back 15 = .ok (.iload_n 1, 1) := dk_27 (by decide +kernel)
theorem dX12_back_16 : decode cX12_back 16 = .ok (.ifCond .lt 11, 3) := dk_155 (a := 0) (b := 11) (by decide +kernel) rfl
theorem dX12_back_19 : decode cX12_back 19 = .ok (.iload_n 1, 1) := dk_27 (by decide +kernel)
theorem dX12_back_20 : decode cX12_back 20 = .ok (.aload_n 0, 1) := dk_42 (by decide +kernel)
theorem dX12_back_21 : decode cX12_back 21 = .ok (.getfield 316, 3) := dk_180 (a := 1) (b := 60) (by decide +kernel) rfl
theorem dX12_back_24 : decode cX12_back 24 = .ok (.if_icmp .le 5, 3) := dk_164 (a := 0) (b := 5) (by decide +kernel) rfl
theorem dX12_back_27 : decode cX12_back 27 = .ok (.iconst (-1), 1) := dk_2 (by decide +kernel)
theorem dX12_back_28 : decode cX12_back 28 = .ok (.ireturn, 1) := dk_172 (by decide +kernel)
theorem dX12_back_29 : decode cX12_back 29 = .ok (.aload_n 0, 1) := dk_42 (by decide +kernel)
theorem dX12_back_30 : decode cX12_back 30 = .ok (.dup, 1) := dk_89 (by decide +kernel)
theorem dX12_back_31 : decode cX12_back 31 = .ok (.getfield 316, 3) := dk_180 (a := 1) (b := 60) (by decide +kernel) rfl
theorem dX12_back_34 : decode cX12_back 34 = .ok (.iload_n 1, 1) := dk_27 (by decide +kernel)
theorem dX12_back_35 : decode cX12_back 35 = .ok (.isub, 1) := dk_100 (by decide +kernel)
theorem dX12_back_36 : decode cX12_back 36 = .ok (.putfield 316, 3) := dk_181 (a := 1) (b := 60) (by decide +kernel) rfl
theorem dX12_back_39 : decode cX12_back 39 = .ok (.aload_n 0, 1) := dk_42 (by decide +kernel)
theorem dX12_back_40 : decode cX12_back 40 = .ok (.getfield 316, 3) := dk_180 (a := 1) (b := 60) (by decide +kernel) rfl
theorem dX12_back_43 : decode cX12_back 43 = .ok (.ireturn, 1) := dk_172 (by decide +kernel)
theorem dX12_value_0 : decode cX12_value 0 = .ok (.iload_n 3, 1) := dk_29 (by decide +kernel)
theorem dX12_value_1 : decode cX12_value 1 = .ok (.i2l, 1) := dk_133 (by decide +kernel)
theorem dX12_value_2 : decode cX12_value 2 = .ok (.lconst 0, 1) := dk_9 (by decide +kernel)
theorem dX12_value_3 : decode cX12_value 3 = .ok (.lconst 1, 1) := dk_10 (by decide +kernel)
theorem dX12_value_4 : decode cX12_value 4 = .ok (.invokestatic 169, 3) := dk_184 (a := 0) (b := 169) (by decide +kernel) rfl
theorem dX12_value_7 : decode cX12_value 7 = .ok (.ifCond .eq 51, 3) := dk_153 (a := 0) (b := 51) (by decide +kernel) rfl
theorem dX12_value_10 : decode cX12_value 10 = .ok (.iload_n 1, 1) := dk_27 (by decide +kernel)
theorem dX12_value_11 : decode cX12_value 11 = .ok (.iconst (-1), 1) := dk_2 (by decide +kernel)
theorem dX12_value_12 : decode cX12_value 12 = .ok (.if_icmp .ne 18, 3) := dk_160 (a := 0) (b := 18) (by decide +kernel) rfl
theorem dX12_value_15 : decode cX12_value 15 = .ok (.iload_n 2, 1) := dk_28 (by decide +kernel)
theorem dX12_value_16 : decode cX12_value 16 = .ok (.i2l, 1) := dk_133 (by decide +kernel)
theorem dX12_value_17 : decode cX12_value 17 = .ok (.lconst 0, 1) := dk_9 (by decide +kernel)
theorem dX12_value_18 : decode cX12_value 18 = .ok (.ldc2_w 175, 3) := dk_20 (a := 0) (b := 175) (by decide +kernel) rfl
theorem dX12_value_21 : decode cX12_value 21 = .ok (.invokestatic 169, 3) := dk_184 (a := 0) (b := 169) (by decide +kernel) rfl
theorem dX12_value_24 : decode cX12_value 24 = .ok (.ifCond .eq 34, 3) := dk_153 (a := 0) (b := 34) (by decide +kernel) rfl
theorem dX12_value_27 : decode cX12_value 27 = .ok (.goto 27, 3) := dk_167 (a := 0) (b := 27) (by decide +kernel) rfl
theorem dX12_value_30 : decode cX12_value 30 = .ok (.iload_n 1, 1) := dk_27 (by decide +kernel)
theorem dX12_value_31 : decode cX12_value 31 = .ok (.i2l, 1) := dk_133 (by decide +kernel)
theorem dX12_value_32 : decode cX12_value 32 = .ok (.lconst 0, 1) := dk_9 (by decide +kernel)
theorem dX12_value_33 : decode cX12_value 33 = .ok (.ldc2_w 167, 3) := dk_20 (a := 0) (b := 167) (by decide +kernel) rfl
theorem dX12_value_36 : decode cX12_value 36 = .ok (.invokestatic 169, 3) := dk_184 (a := 0) (b := 169) (by decide +kernel) rfl
theorem dX12_value_39 : decode cX12_value 39 = .ok (.ifCond .eq 19, 3) := dk_153 (a := 0) (b := 19) (by decide +kernel) rfl
theorem dX12_value_42 : decode cX12_value 42 = .ok (.iload_n 2, 1) := dk_28 (by decide +kernel)
theorem dX12_value_43 : decode cX12_value 43 = .ok (.i2l, 1) := dk_133 (by decide +kernel)
theorem dX12_value_44 : decode cX12_value 44 = .ok (.lconst 0, 1) := dk_9 (by decide +kernel)
theorem dX12_value_45 : decode cX12_value 45 = .ok (.ldc2_w 167, 3) := dk_20 (a := 0) (b := 167) (by decide +kernel) rfl
theorem dX12_value_48 : decode cX12_value 48 = .ok (.invokestatic 169, 3) := dk_184 (a := 0) (b := 169) (by decide +kernel) rfl
theorem dX12_value_51 : decode cX12_value 51 = .ok (.ifCond .eq 7, 3) := dk_153 (a := 0) (b := 7) (by decide +kernel) rfl
theorem dX12_value_54 : decode cX12_value 54 = .ok (.iconst 1, 1) := dk_4 (by decide +kernel)
theorem dX12_value_55 : decode cX12_value 55 = .ok (.goto 4, 3) := dk_167 (a := 0) (b := 4) (by decide +kernel) rfl
theorem dX12_value_58 : decode cX12_value 58 = .ok (.iconst 0, 1) := dk_3 (by decide +kernel)
theorem dX12_value_59 : decode cX12_value 59 = .ok (.istore 4, 2) := dk_54 (by decide +kernel)
theorem dX12_value_61 : decode cX12_value 61 = .ok (.aload_n 0, 1) := dk_42 (by decide +kernel)
theorem dX12_value_62 : decode cX12_value 62 = .ok (.aload_n 0, 1) := dk_42 (by decide +kernel)
theorem dX12_value_63 : decode cX12_value 63 = .ok (.getfield 294, 3) := dk_180 (a := 1) (b := 38) (by decide +kernel) rfl
theorem dX12_value_66 : decode cX12_value 66 = .ok (.ifCond .ne 7, 3) := dk_154 (a := 0) (b := 7) (by decide +kernel) rfl
theorem dX12_value_69 : decode cX12_value 69 = .ok (.iconst 2, 1) := dk_5 (by decide +kernel)
theorem dX12_value_70 : decode cX12_value 70 = .ok (.goto 13, 3) := dk_167 (a := 0) (b := 13) (by decide +kernel) rfl
theorem dX12_value_73 : decode cX12_value 73 = .ok (.iload 4, 2) := dk_21 (by decide +kernel)
theorem dX12_value_75 : decode cX12_value 75 = .ok (.ifCond .eq 7, 3) := dk_153 (a := 0) (b := 7) (by decide +kernel) rfl
theorem dX12_value_78 : decode cX12_value 78 = .ok (.iconst 0, 1) := dk_3 (by decide +kernel)
theorem dX12_value_79 : decode cX12_value 79 = .ok (.goto 4, 3) := dk_167 (a := 0) (b := 4) (by decide +kernel) rfl
theorem dX12_value_82 : decode cX12_value 82 = .ok (.iconst 1, 1) := dk_4 (by decide +kernel)
theorem dX12_value_83 : decode cX12_value 83 = .ok (.putfield 164, 3) := dk_181 (a := 0) (b := 164) (by decide +kernel) rfl
theorem dX12_value_86 : decode cX12_value 86 = .ok (.aload_n 0, 1) := dk_42 (by decide +kernel)
theorem dX12_value_87 : decode cX12_value 87 = .ok (.getfield 164, 3) := dk_180 (a := 0) (b := 164) (by decide +kernel) rfl
theorem dX12_value_90 : decode cX12_value 90 = .ok (.ifCond .le 5, 3) := dk_158 (a := 0) (b := 5) (by decide +kernel) rfl
theorem dX12_value_93 : decode cX12_value 93 = .ok (.iconst 0, 1) := dk_3 (by decide +kernel)
theorem dX12_value_94 : decode cX12_value 94 = .ok (.ireturn, 1) := dk_172 (by decide +kernel)
theorem dX12_value_95 : decode cX12_value 95 = .ok (.bipush 28, 2) := dk_16 (a := 28) (by decide +kernel) rfl
theorem dX12_value_97 : decode cX12_value 97 = .ok (.aload_n 0, 1) := dk_42 (by decide +kernel)
theorem dX12_value_98 : decode cX12_value 98 = .ok (.getfield 316, 3) := dk_180 (a := 1) (b := 60) (by decide +kernel) rfl
theorem dX12_value_101 : decode cX12_value 101 = .ok (.imul, 1) := dk_104 (by decide +kernel)
theorem dX12_value_102 : decode cX12_value 102 = .ok (.iload_n 1, 1) := dk_27 (by decide +kernel)
theorem dX12_value_103 : decode cX12_value 103 = .ok (.iconst (-1), 1) := dk_2 (by decide +kernel)
theorem dX12_value_104 : decode cX12_value 104 = .ok (.if_icmp .ne 7, 3) := dk_160 (a := 0) (b := 7) (by decide +kernel) rfl
theorem dX12_value_107 : decode cX12_value 107 = .ok (.iload_n 2, 1) := dk_28 (by decide +kernel)
theorem dX12_value_108 : decode cX12_value 108 = .ok (.goto 11, 3) := dk_167 (a := 0) (b := 11) (by decide +kernel) rfl
theorem dX12_value_111 : decode cX12_value 111 = .ok (.bipush 12, 2) := dk_16 (a := 12) (by decide +kernel) rfl
theorem dX12_value_113 : decode cX12_value 113 = .ok (.iconst 4, 1) := dk_7 (by decide +kernel)
theorem dX12_value_114 : decode cX12_value 114 = .ok (.iload_n 1, 1) := dk_27 (by decide +kernel)
theorem dX12_value_115 : decode cX12_value 115 = .ok (.imul, 1) := dk_104 (by decide +kernel)
theorem dX12_value_116 : decode cX12_value 116 = .ok (.iadd, 1) := dk_96 (by decide +kernel)
theorem dX12_value_117 : decode cX12_value 117 = .ok (.iload_n 2, 1) := dk_28 (by decide +kernel)
theorem dX12_value_118 : decode cX12_value 118 = .ok (.iadd, 1) := dk_96 (by decide +kernel)
theorem dX12_value_119 : decode cX12_value 119 = .ok (.iadd, 1) := dk_96 (by decide +kernel)
theorem dX12_value_120 : decode cX12_value 120 = .ok (.istore 5, 2) := dk_54 (by decide +kernel)
theorem dX12_value_122 : decode cX12_value 122 = .ok (.iload_n 3, 1) := dk_29 (by decide +kernel)
theorem dX12_value_123 : decode cX12_value 123 = .ok (.ifCond .ne 13, 3) := dk_154 (a := 0) (b := 13) (by decide +kernel) rfl
theorem dX12_value_126 : decode cX12_value 126 = .ok (.aload_n 0, 1) := dk_42 (by decide +kernel)
theorem dX12_value_127 : decode cX12_value 127 = .ok (.getfield 68, 3) := dk_180 (a := 0) (b := 68) (by decide +kernel) rfl
theorem dX12_value_130 : decode cX12_value 130 = .ok (.iload 5, 2) := dk_21 (by decide +kernel)
theorem dX12_value_132 : decode cX12_value 132 = .ok (.iaload, 1) := dk_46 (by decide +kernel)
theorem dX12_value_133 : decode cX12_value 133 = .ok (.goto 10, 3) := dk_167 (a := 0) (b := 10) (by decide +kernel) rfl
theorem dX12_value_136 : decode cX12_value 136 = .ok (.aload_n 0, 1) := dk_42 (by decide +kernel)
theorem dX12_value_137 : decode cX12_value 137 = .ok (.getfield 71, 3) := dk_180 (a := 0) (b := 71) (by decide +kernel) rfl
theorem dX12_value_140 : decode cX12_value 140 = .ok (.iload 5, 2) := dk_21 (by decide +kernel)
theorem dX12_value_142 : decode cX12_value 142 = .ok (.iaload, 1) := dk_46 (by decide +kernel)
theorem dX12_value_143 : decode cX12_value 143 = .ok (.ireturn, 1) := dk_172 (by decide +kernel)
theorem dX12_isThing_0 : decode cX12_isThing 0 = .ok (.aload_n 0, 1) := dk_42 (by decide +kernel)
theorem dX12_isThing_1 : decode cX12_isThing 1 = .ok (.getfield 294, 3) := dk_180 (a := 1) (b := 38) (by decide +kernel) rfl
theorem dX12_isThing_4 : decode cX12_isThing 4 = .ok (.ifCond .eq 24, 3) := dk_153 (a := 0) (b := 24) (by decide +kernel) rfl
theorem dX12_isThing_7 : decode cX12_isThing 7 = .ok (.iload_n 1, 1) := dk_27 (by decide +kernel)
theorem dX12_isThing_8 : decode cX12_isThing 8 = .ok (.ifCond .lt 20, 3) := dk_155 (a := 0) (b := 20) (by decide +kernel) rfl
theorem dX12_isThing_11 : decode cX12_isThing 11 = .ok (.iload_n 1, 1) := dk_27 (by decide +kernel)
theorem dX12_isThing_12 : decode cX12_isThing 12 = .ok (.aload_n 0, 1) := dk_42 (by decide +kernel)
theorem dX12_isThing_13 : decode cX12_isThing 13 = .ok (.getfield 80, 3) := dk_180 (a := 0) (b := 80) (by decide +kernel) rfl
theorem dX12_isThing_16 : decode cX12_isThing 16 = .ok (.aload_n 0, 1) := dk_42 (by decide +kernel)
theorem dX12_isThing_17 : decode cX12_isThing 17 = .ok (.getfield 316, 3) := dk_180 (a := 1) (b := 60) (by decide +kernel) rfl
theorem dX12_isThing_20 : decode cX12_isThing 20 = .ok (.iaload, 1) := dk_46 (by decide +kernel)
theorem dX12_isThing_21 : decode cX12_isThing 21 = .ok (.if_icmp .ge 7, 3) := dk_162 (a := 0) (b := 7) (by decide +kernel) rfl
theorem dX12_isThing_24 : decode cX12_isThing 24 = .ok (.iconst 1, 1) := dk_4 (by decide +kernel)
theorem dX12_isThing_25 : decode cX12_isThing 25 = .ok (.goto 4, 3) := dk_167 (a := 0) (b := 4) (by decide +kernel) rfl
theorem dX12_isThing_28 : decode cX12_isThing 28 = .ok (.iconst 0, 1) := dk_3 (by decide +kernel)
theorem dX12_isThing_29 : decode cX12_isThing 29 = .ok (.ireturn, 1) := dk_172 (by decide +kernel)
theorem dX12_thing_0 : decode cX12_thing 0 = .ok (.aload_n 0, 1) := dk_42 (by decide +kernel)
theorem dX12_thing_1 : decode cX12_thing 1 = .ok (.iconst 0, 1) := dk_3 (by decide +kernel)
theorem dX12_thing_2 : decode cX12_thing 2 = .ok (.putfield 164, 3) := dk_181 (a := 0) (b := 164) (by decide +kernel) rfl
theorem dX12_thing_5 : decode cX12_thing 5 = .ok (.aload_n 0, 1) := dk_42 (by decide +kernel)
theorem dX12_thing_6 : decode cX12_thing 6 = .ok (.getfield 294, 3) := dk_180 (a := 1) (b := 38) (by decide +kernel) rfl
theorem dX12_thing_9 : decode cX12_thing 9 = .ok (.ifCond .ne 6, 3) := dk_154 (a := 0) (b := 6) (by decide +kernel) rfl
theorem dX12_thing_12 : decode cX12_thing 12 = .ok (.bipush (-2), 2) := dk_16 (a := 254) (by decide +kernel) rfl
theorem dX12_thing_14 : decode cX12_thing 14 = .ok (.ireturn, 1) := dk_172 (by decide +kernel)
theorem dX12_thing_15 : decode cX12_thing 15 = .ok (.aload_n 0, 1) := dk_42 (by decide +kernel)
theorem dX12_thing_16 : decode cX12_thing 16 = .ok (.iload_n 1, 1) := dk_27 (by decide +kernel)
theorem dX12_thing_17 : decode cX12_thing 17 = .ok (.invokevirtual 322, 3) := dk_182 (a := 1) (b := 66) (by decide +kernel) rfl
theorem dX12_thing_20 : decode cX12_thing 20 = .ok (.ifCond .eq 13, 3) := dk_153 (a := 0) (b := 13) (by decide +kernel) rfl
theorem dX12_thing_23 : decode cX12_thing 23 = .ok (.iload_n 2, 1) := dk_28 (by decide +kernel)
theorem dX12_thing_24 : decode cX12_thing 24 = .ok (.i2l, 1) := dk_133 (by decide +kernel)
theorem dX12_thing_25 : decode cX12_thing 25 = .ok (.lconst 0, 1) := dk_9 (by decide +kernel)
theorem dX12_thing_26 : decode cX12_thing 26 = .ok (.lconst 1, 1) := dk_10 (by decide +kernel)
theorem dX12_thing_27 : decode cX12_thing 27 = .ok (.invokestatic 169, 3) := dk_184 (a := 0) (b := 169) (by decide +kernel) rfl
theorem dX12_thing_30 : decode cX12_thing 30 = .ok (.ifCond .ne 5, 3) := dk_154 (a := 0) (b := 5) (by decide +kernel) rfl
theorem dX12_thing_33 : decode cX12_thing 33 = .ok (.iconst (-1), 1) := dk_2 (by decide +kernel)
theorem dX12_thing_34 : decode cX12_thing 34 = .ok (.ireturn, 1) := dk_172 (by decide +kernel)
theorem dX12_thing_35 : decode cX12_thing 35 = .ok (.aload_n 0, 1) := dk_42 (by decide +kernel)
theorem dX12_thing_36 : decode cX12_thing 36 = .ok (.getfield 83, 3) := dk_180 (a := 0) (b := 83) (by decide +kernel) rfl
theorem dX12_thing_39 : decode cX12_thing 39 = .ok (.bipush 12, 2) := dk_16 (a := 12) (by decide +kernel) rfl
theorem dX12_thing_41 : decode cX12_thing 41 = .ok (.aload_n 0, 1) := dk_42 (by decide +kernel)
theorem dX12_thing_42 : decode cX12_thing 42 = .ok (.getfield 316, 3) := dk_180 (a := 1) (b := 60) (by decide +kernel) rfl
theorem dX12_thing_45 : decode cX12_thing 45 = .ok (.imul, 1) := dk_104 (by decide +kernel)
theorem dX12_thing_46 : decode cX12_thing 46 = .ok (.iload_n 1, 1) := dk_27 (by decide +kernel)
theorem dX12_thing_47 : decode cX12_thing 47 = .ok (.iadd, 1) := dk_96 (by decide +kernel)
theorem dX12_thing_48 : decode cX12_thing 48 = .ok (.iaload, 1) := dk_46 (by decide +kernel)
theorem dX12_thing_49 : decode cX12_thing 49 = .ok (.istore_n 3, 1) := dk_62 (by decide +kernel)
theorem dX12_thing_50 : decode cX12_thing 50 = .ok (.aload_n 0, 1) := dk_42 (by decide +kernel)
theorem dX12_thing_51 : decode cX12_thing 51 = .ok (.getfield 86, 3) := dk_180 (a := 0) (b := 86) (by decide +kernel) rfl
theorem dX12_thing_54 : decode cX12_thing 54 = .ok (.bipush 12, 2) := dk_16 (a := 12) (by decide +kernel) rfl
theorem dX12_thing_56 : decode cX12_thing 56 = .ok (.aload_n 0, 1) := dk_42 (by decide +kernel)
theorem dX12_thing_57 : decode cX12_thing 57 = .ok (.getfield 316, 3) := dk_180 (a := 1) (b := 60) (by decide +kernel) rfl
theorem dX12_thing_60 : decode cX12_thing 60 = .ok (.imul, 1) := dk_104 (by decide +kernel)
theorem dX12_thing_61 : decode cX12_thing 61 = .ok (.iload_n 1, 1) := dk_27 (by decide +kernel)
theorem dX12_thing_62 : decode cX12_thing 62 = .ok (.iadd, 1) := dk_96 (by decide +kernel)
theorem dX12_thing_63 : decode cX12_thing 63 = .ok (.iaload, 1) := dk_46 (by decide +kernel)
theorem dX12_thing_64 : decode cX12_thing 64 = .ok (.istore 4, 2) := dk_54 (by decide +kernel)
theorem dX12_thing_66 : decode cX12_thing 66 = .ok (.iload_n 2, 1) := dk_28 (by decide +kernel)
theorem dX12_thing_67 : decode cX12_thing 67 = .ok (.ifCond .ne 7, 3) := dk_154 (a := 0) (b := 7) (by decide +kernel) rfl
theorem dX12_thing_70 : decode cX12_thing 70 = .ok (.iload_n 3, 1) := dk_29 (by decide +kernel)
theorem dX12_thing_71 : decode cX12_thing 71 = .ok (.goto 37, 3) := dk_167 (a := 0) (b := 37) (by decide +kernel) rfl
theorem dX12_thing_74 : decode cX12_thing 74 = .ok (.iload_n 3, 1) := dk_29 (by decide +kernel)
theorem dX12_thing_75 : decode cX12_thing 75 = .ok (.iconst 1, 1) := dk_4 (by decide +kernel)
theorem dX12_thing_76 : decode cX12_thing 76 = .ok (.if_icmp .ne 20, 3) := dk_160 (a := 0) (b := 20) (by decide +kernel) rfl
theorem dX12_thing_79 : decode cX12_thing 79 = .ok (.aload_n 0, 1) := dk_42 (by decide +kernel)
theorem dX12_thing_80 : decode cX12_thing 80 = .ok (.getfield 89, 3) := dk_180 (a := 0) (b := 89) (by decide +kernel) rfl
theorem dX12_thing_83 : decode cX12_thing 83 = .ok (.bipush 12, 2) := dk_16 (a := 12) (by decide +kernel) rfl
theorem dX12_thing_85 : decode cX12_thing 85 = .ok (.aload_n 0, 1) := dk_42 (by decide +kernel)
theorem dX12_thing_86 : decode cX12_thing 86 = .ok (.getfield 316, 3) := dk_180 (a := 1) (b := 60) (by decide +kernel) rfl
theorem dX12_thing_89 : decode cX12_thing 89 = .ok (.imul, 1) := dk_104 (by decide +kernel)
theorem dX12_thing_90 : decode cX12_thing 90 = .ok (.iload_n 1, 1) := dk_27 (by decide +kernel)
theorem dX12_thing_91 : decode cX12_thing 91 = .ok (.iadd, 1) := dk_96 (by decide +kernel)
theorem dX12_thing_92 : decode cX12_thing 92 = .ok (.iaload, 1) := dk_46 (by decide +kernel)
theorem dX12_thing_93 : decode cX12_thing 93 = .ok (.goto 15, 3) := dk_167 (a := 0) (b := 15) (by decide +kernel) rfl
theorem dX12_thing_96 : decode cX12_thing 96 = .ok (.iload 4, 2) := dk_21 (by decide +kernel)
theorem dX12_thing_98 : decode cX12_thing 98 = .ok (.ifCond .ge 8, 3) := dk_156 (a := 0) (b := 8) (by decide +kernel) rfl
theorem dX12_thing_101 : decode cX12_thing 101 = .ok (.bipush (-2), 2) := dk_16 (a := 254) (by decide +kernel) rfl
theorem dX12_thing_103 : decode cX12_thing 103 = .ok (.goto 5, 3) := dk_167 (a := 0) (b := 5) (by decide +kernel) rfl
theorem dX12_thing_106 : decode cX12_thing 106 = .ok (.iload 4, 2) := dk_21 (by decide +kernel)
theorem dX12_thing_108 : decode cX12_thing 108 = .ok (.ireturn, 1) := dk_172 (by decide +kernel)
theorem dX12_place_0 : decode cX12_place 0 = .ok (.aload_n 0, 1) := dk_42 (by decide +kernel)
theorem dX12_place_1 : decode cX12_place 1 = .ok (.iload_n 1, 1) := dk_27 (by decide +kernel)
theorem dX12_place_2 : decode cX12_place 2 = .ok (.invokevirtual 322, 3) := dk_182 (a := 1) (b := 66) (by decide +kernel) rfl
theorem dX12_place_5 : decode cX12_place 5 = .ok (.ifCond .eq 51, 3) := dk_153 (a := 0) (b := 51) (by decide +kernel) rfl
theorem dX12_place_8 : decode cX12_place 8 = .ok (.aload_n 0, 1) := dk_42 (by decide +kernel)
theorem dX12_place_9 : decode cX12_place 9 = .ok (.getfield 83, 3) := dk_180 (a := 0) (b := 83) (by decide +kernel) rfl
theorem dX12_place_12 : decode cX12_place 12 = .ok (.bipush 12, 2) := dk_16 (a := 12) (by decide +kernel) rfl
theorem dX12_place_14 : decode cX12_place 14 = .ok (.aload_n 0, 1) := dk_42 (by decide +kernel)
theorem dX12_place_15 : decode cX12_place 15 = .ok (.getfield 316, 3) := dk_180 (a := 1) (b := 60) (by decide +kernel) rfl
theorem dX12_place_18 : decode cX12_place 18 = .ok (.imul, 1) := dk_104 (by decide +kernel)
theorem dX12_place_19 : decode cX12_place 19 = .ok (.iload_n 1, 1) := dk_27 (by decide +kernel)
theorem dX12_place_20 : decode cX12_place 20 = .ok (.iadd, 1) := dk_96 (by decide +kernel)
theorem dX12_place_21 : decode cX12_place 21 = .ok (.iaload, 1) := dk_46 (by decide +kernel)
theorem dX12_place_22 : decode cX12_place 22 = .ok (.iconst 1, 1) := dk_4 (by decide +kernel)
theorem dX12_place_23 : decode cX12_place 23 = .ok (.if_icmp .ne 33, 3) := dk_160 (a := 0) (b := 33) (by decide +kernel) rfl
theorem dX12_place_26 : decode cX12_place 26 = .ok (.iload_n 2, 1) := dk_28 (by decide +kernel)
theorem dX12_place_27 : decode cX12_place 27 = .ok (.i2l, 1) := dk_133 (by decide +kernel)
theorem dX12_place_28 : decode cX12_place 28 = .ok (.lconst 0, 1) := dk_9 (by decide +kernel)
theorem dX12_place_29 : decode cX12_place 29 = .ok (.aload_n 0, 1) := dk_42 (by decide +kernel)
theorem dX12_place_30 : decode cX12_place 30 = .ok (.getfield 89, 3) := dk_180 (a := 0) (b := 89) (by decide +kernel) rfl
theorem dX12_place_33 : decode cX12_place 33 = .ok (.bipush 12, 2) := dk_16 (a := 12) (by decide +kernel) rfl
theorem dX12_place_35 : decode cX12_place 35 = .ok (.aload_n 0, 1) := dk_42 (by decide +kernel)
theorem dX12_place_36 : decode cX12_place 36 = .ok (.getfield 316, 3) := dk_180 (a := 1) (b := 60) (by decide +kernel) rfl
theorem dX12_place_39 : decode cX12_place 39 = .ok (.imul, 1) := dk_104 (by decide +kernel)
theorem dX12_place_40 : decode cX12_place 40 = .ok (.iload_n 1, 1) := dk_27 (by decide +kernel)
theorem dX12_place_41 : decode cX12_place 41 = .ok (.iadd, 1) := dk_96 (by decide +kernel)
theorem dX12_place_42 : decode cX12_place 42 = .ok (.iaload, 1) := dk_46 (by decide +kernel)
theorem dX12_place_43 : decode cX12_place 43 = .ok (.iconst 1, 1) := dk_4 (by decide +kernel)
theorem dX12_place_44 : decode cX12_place 44 = .ok (.isub, 1) := dk_100 (by decide +kernel)
theorem dX12_place_45 : decode cX12_place 45 = .ok (.i2l, 1) := dk_133 (by decide +kernel)
theorem dX12_place_46 : decode cX12_place 46 = .ok (.invokestatic 169, 3) := dk_184 (a := 0) (b := 169) (by decide +kernel) rfl
theorem dX12_place_49 : decode cX12_place 49 = .ok (.ifCond .eq 7, 3) := dk_153 (a := 0) (b := 7) (by decide +kernel) rfl
theorem dX12_place_52 : decode cX12_place 52 = .ok (.iconst 1, 1) := dk_4 (by decide +kernel)
theorem dX12_place_53 : decode cX12_place 53 = .ok (.goto 4, 3) := dk_167 (a := 0) (b := 4) (by decide +kernel) rfl
theorem dX12_place_56 : decode cX12_place 56 = .ok (.iconst 0, 1) := dk_3 (by decide +kernel)
theorem dX12_place_57 : decode cX12_place 57 = .ok (.istore_n 3, 1) := dk_62 (by decide +kernel)
theorem dX12_place_58 : decode cX12_place 58 = .ok (.aload_n 0, 1) := dk_42 (by decide +kernel)
theorem dX12_place_59 : decode cX12_place 59 = .ok (.aload_n 0, 1) := dk_42 (by decide +kernel)
theorem dX12_place_60 : decode cX12_place 60 = .ok (.getfield 294, 3) := dk_180 (a := 1) (b := 38) (by decide +kernel) rfl
theorem dX12_place_63 : decode cX12_place 63 = .ok (.ifCond .ne 7, 3) := dk_154 (a := 0) (b := 7) (by decide +kernel) rfl
theorem dX12_place_66 : decode cX12_place 66 = .ok (.iconst 2, 1) := dk_5 (by decide +kernel)
theorem dX12_place_67 : decode cX12_place 67 = .ok (.goto 12, 3) := dk_167 (a := 0) (b := 12) (by decide +kernel) rfl
theorem dX12_place_70 : decode cX12_place 70 = .ok (.iload_n 3, 1) := dk_29 (by decide +kernel)
theorem dX12_place_71 : decode cX12_place 71 = .ok (.ifCond .eq 7, 3) := dk_153 (a := 0) (b := 7) (by decide +kernel) rfl
theorem dX12_place_74 : decode cX12_place 74 = .ok (.iconst 0, 1) := dk_3 (by decide +kernel)
theorem dX12_place_75 : decode cX12_place 75 = .ok (.goto 4, 3) := dk_167 (a := 0) (b := 4) (by decide +kernel) rfl
theorem dX12_place_78 : decode cX12_place 78 = .ok (.iconst 1, 1) := dk_4 (by decide +kernel)
theorem dX12_place_79 : decode cX12_place 79 = .ok (.putfield 164, 3) := dk_181 (a := 0) (b := 164) (by decide +kernel) rfl
theorem dX12_place_82 : decode cX12_place 82 = .ok (.iload_n 3, 1) := dk_29 (by decide +kernel)
theorem dX12_place_83 : decode cX12_place 83 = .ok (.ifCond .eq 26, 3) := dk_153 (a := 0) (b := 26) (by decide +kernel) rfl
theorem dX12_place_86 : decode cX12_place 86 = .ok (.aload_n 0, 1) := dk_42 (by decide +kernel)
theorem dX12_place_87 : decode cX12_place 87 = .ok (.getfield 93, 3) := dk_180 (a := 0) (b := 93) (by decide +kernel) rfl
theorem dX12_place_90 : decode cX12_place 90 = .ok (.sipush 192, 3) := dk_17 (a := 0) (b := 192) (by decide +kernel) rfl
theorem dX12_place_93 : decode cX12_place 93 = .ok (.aload_n 0, 1) := dk_42 (by decide +kernel)
theorem dX12_place_94 : decode cX12_place 94 = .ok (.getfield 316, 3) := dk_180 (a := 1) (b := 60) (by decide +kernel) rfl
theorem dX12_place_97 : decode cX12_place 97 = .ok (.imul, 1) := dk_104 (by decide +kernel)
theorem dX12_place_98 : decode cX12_place 98 = .ok (.bipush 16, 2) := dk_16 (a := 16) (by decide +kernel) rfl
theorem dX12_place_100 : decode cX12_place 100 = .ok (.iload_n 1, 1) := dk_27 (by decide +kernel)
theorem dX12_place_101 : decode cX12_place 101 = .ok (.imul, 1) := dk_104 (by decide +kernel)
theorem dX12_place_102 : decode cX12_place 102 = .ok (.iadd, 1) := dk_96 (by decide +kernel)
theorem dX12_place_103 : decode cX12_place 103 = .ok (.iload_n 2, 1) := dk_28 (by decide +kernel)
theorem dX12_place_104 : decode cX12_place 104 = .ok (.iadd, 1) := dk_96 (by decide +kernel)
theorem dX12_place_105 : decode cX12_place 105 = .ok (.iaload, 1) := dk_46 (by decide +kernel)
theorem dX12_place_106 : decode cX12_place 106 = .ok (.goto 4, 3) := dk_167 (a := 0) (b := 4) (by decide +kernel) rfl
theorem dX12_place_109 : decode cX12_place 109 = .ok (.iconst 0, 1) := dk_3 (by decide +kernel)
theorem dX12_place_110 : decode cX12_place 110 = .ok (.ireturn, 1) := dk_172 (by decide +kernel)
theorem dX12_thread_0 : decode cX12_thread 0 = .ok (.aload_n 0, 1) := dk_42 (by decide +kernel)
theorem dX12_thread_1 : decode cX12_thread 1 = .ok (.iconst 0, 1) := dk_3 (by decide +kernel)
theorem dX12_thread_2 : decode cX12_thread 2 = .ok (.putfield 164, 3) := dk_181 (a := 0) (b := 164) (by decide +kernel) rfl
theorem dX12_thread_5 : decode cX12_thread 5 = .ok (.aload_n 0, 1) := dk_42 (by decide +kernel)
theorem dX12_thread_6 : decode cX12_thread 6 = .ok (.getfield 294, 3) := dk_180 (a := 1) (b := 38) (by decide +kernel) rfl
theorem dX12_thread_9 : decode cX12_thread 9 = .ok (.ifCond .ne 6, 3) := dk_154 (a := 0) (b := 6) (by decide +kernel) rfl
theorem dX12_thread_12 : decode cX12_thread 12 = .ok (.bipush (-2), 2) := dk_16 (a := 254) (by decide +kernel) rfl
theorem dX12_thread_14 : decode cX12_thread 14 = .ok (.ireturn, 1) := dk_172 (by decide +kernel)
theorem dX12_thread_15 : decode cX12_thread 15 = .ok (.iload_n 1, 1) := dk_27 (by decide +kernel)
theorem dX12_thread_16 : decode cX12_thread 16 = .ok (.i2l, 1) := dk_133 (by decide +kernel)
theorem dX12_thread_17 : decode cX12_thread 17 = .ok (.lconst 0, 1) := dk_9 (by decide +kernel)
theorem dX12_thread_18 : decode cX12_thread 18 = .ok (.ldc2_w 167, 3) := dk_20 (a := 0) (b := 167) (by decide +kernel) rfl
theorem dX12_thread_21 : decode cX12_thread 21 = .ok (.invokestatic 169, 3) := dk_184 (a := 0) (b := 169) (by decide +kernel) rfl
theorem dX12_thread_24 : decode cX12_thread 24 = .ok (.ifCond .eq 13, 3) := dk_153 (a := 0) (b := 13) (by decide +kernel) rfl
theorem dX12_thread_27 : decode cX12_thread 27 = .ok (.iload_n 2, 1) := dk_28 (by decide +kernel)
theorem dX12_thread_28 : decode cX12_thread 28 = .ok (.i2l, 1) := dk_133 (by decide +kernel)
theorem dX12_thread_29 : decode cX12_thread 29 = .ok (.lconst 0, 1) := dk_9 (by decide +kernel)
theorem dX12_thread_30 : decode cX12_thread 30 = .ok (.lconst 1, 1) := dk_10 (by decide +kernel)
theorem dX12_thread_31 : decode cX12_thread 31 = .ok (.invokestatic 169, 3) := dk_184 (a := 0) (b := 169) (by decide +kernel) rfl
theorem dX12_thread_34 : decode cX12_thread 34 = .ok (.ifCond .ne 5, 3) := dk_154 (a := 0) (b := 5) (by decide +kernel) rfl
theorem dX12_thread_37 : decode cX12_thread 37 = .ok (.iconst (-1), 1) := dk_2 (by decide +kernel)
theorem dX12_thread_38 : decode cX12_thread 38 = .ok (.ireturn, 1) := dk_172 (by decide +kernel)
theorem dX12_thread_39 : decode cX12_thread 39 = .ok (.iload_n 2, 1) := dk_28 (by decide +kernel)
theorem dX12_thread_40 : decode cX12_thread 40 = .ok (.ifCond .ne 19, 3) := dk_154 (a := 0) (b := 19) (by decide +kernel) rfl
theorem dX12_thread_43 : decode cX12_thread 43 = .ok (.aload_n 0, 1) := dk_42 (by decide +kernel)
theorem dX12_thread_44 : decode cX12_thread 44 = .ok (.getfield 74, 3) := dk_180 (a := 0) (b := 74) (by decide +kernel) rfl
theorem dX12_thread_47 : decode cX12_thread 47 = .ok (.iconst 4, 1) := dk_7 (by decide +kernel)
theorem dX12_thread_48 : decode cX12_thread 48 = .ok (.aload_n 0, 1) := dk_42 (by decide +kernel)
theorem dX12_thread_49 : decode cX12_thread 49 = .ok (.getfield 316, 3) := dk_180 (a := 1) (b := 60) (by decide +kernel) rfl
theorem dX12_thread_52 : decode cX12_thread 52 = .ok (.imul, 1) := dk_104 (by decide +kernel)
theorem dX12_thread_53 : decode cX12_thread 53 = .ok (.iload_n 1, 1) := dk_27 (by decide +kernel)
theorem dX12_thread_54 : decode cX12_thread 54 = .ok (.iadd, 1) := dk_96 (by decide +kernel)
theorem dX12_thread_55 : decode cX12_thread 55 = .ok (.iaload, 1) := dk_46 (by decide +kernel)
theorem dX12_thread_56 : decode cX12_thread 56 = .ok (.goto 16, 3) := dk_167 (a := 0) (b := 16) (by decide +kernel) rfl
theorem dX12_thread_59 : decode cX12_thread 59 = .ok (.aload_n 0, 1) := dk_42 (by decide +kernel)
theorem dX12_thread_60 : decode cX12_thread 60 = .ok (.getfield 77, 3) := dk_180 (a := 0) (b := 77) (by decide +kernel) rfl
theorem dX12_thread_63 : decode cX12_thread 63 = .ok (.iconst 4, 1) := dk_7 (by decide +kernel)
theorem dX12_thread_64 : decode cX12_thread 64 = .ok (.aload_n 0, 1) := dk_42 (by decide +kernel)
theorem dX12_thread_65 : decode cX12_thread 65 = .ok (.getfield 316, 3) := dk_180 (a := 1) (b := 60) (by decide +kernel) rfl
theorem dX12_thread_68 : decode cX12_thread 68 = .ok (.imul, 1) := dk_104 (by decide +kernel)
theorem dX12_thread_69 : decode cX12_thread 69 = .ok (.iload_n 1, 1) := dk_27 (by decide +kernel)
theorem dX12_thread_70 : decode cX12_thread 70 = .ok (.iadd, 1) := dk_96 (by decide +kernel)
theorem dX12_thread_71 : decode cX12_thread 71 = .ok (.iaload, 1) := dk_46 (by decide +kernel)
theorem dX12_thread_72 : decode cX12_thread 72 = .ok (.ireturn, 1) := dk_172 (by decide +kernel)
theorem dX12_last_0 : decode cX12_last 0 = .ok (.aload_n 0, 1) := dk_42 (by decide +kernel)
theorem dX12_last_1 : decode cX12_last 1 = .ok (.iconst 0, 1) := dk_3 (by decide +kernel)
theorem dX12_last_2 : decode cX12_last 2 = .ok (.putfield 164, 3) := dk_181 (a := 0) (b := 164) (by decide +kernel) rfl
theorem dX12_last_5 : decode cX12_last 5 = .ok (.aload_n 0, 1) := dk_42 (by decide +kernel)
theorem dX12_last_6 : decode cX12_last 6 = .ok (.getfield 294, 3) := dk_180 (a := 1) (b := 38) (by decide +kernel) rfl
theorem dX12_last_9 : decode cX12_last 9 = .ok (.ifCond .ne 6, 3) := dk_154 (a := 0) (b := 6) (by decide +kernel) rfl
theorem dX12_last_12 : decode cX12_last 12 = .ok (.bipush (-2), 2) := dk_16 (a := 254) (by decide +kernel) rfl
theorem dX12_last_14 : decode cX12_last 14 = .ok (.ireturn, 1) := dk_172 (by decide +kernel)
theorem dX12_last_15 : decode cX12_last 15 = .ok (.iload_n 2, 1) := dk_28 (by decide +kernel)
theorem dX12_last_16 : decode cX12_last 16 = .ok (.i2l, 1) := dk_133 (by decide +kernel)
theorem dX12_last_17 : decode cX12_last 17 = .ok (.lconst 0, 1) := dk_9 (by decide +kernel)
theorem dX12_last_18 : decode cX12_last 18 = .ok (.aload_n 0, 1) := dk_42 (by decide +kernel)
theorem dX12_last_19 : decode cX12_last 19 = .ok (.getfield 304, 3) := dk_180 (a := 1) (b := 48) (by decide +kernel) rfl
theorem dX12_last_22 : decode cX12_last 22 = .ok (.i2l, 1) := dk_133 (by decide +kernel)
theorem dX12_last_23 : decode cX12_last 23 = .ok (.invokestatic 169, 3) := dk_184 (a := 0) (b := 169) (by decide +kernel) rfl
theorem dX12_last_26 : decode cX12_last 26 = .ok (.ifCond .ne 5, 3) := dk_154 (a := 0) (b := 5) (by decide +kernel) rfl
theorem dX12_last_29 : decode cX12_last 29 = .ok (.iconst (-1), 1) := dk_2 (by decide +kernel)
theorem dX12_last_30 : decode cX12_last 30 = .ok (.ireturn, 1) := dk_172 (by decide +kernel)
theorem dX12_last_31 : decode cX12_last 31 = .ok (.iconst 0, 1) := dk_3 (by decide +kernel)
theorem dX12_last_32 : decode cX12_last 32 = .ok (.istore_n 3, 1) := dk_62 (by decide +kernel)
theorem dX12_last_33 : decode cX12_last 33 = .ok (.iconst 1, 1) := dk_4 (by decide +kernel)
theorem dX12_last_34 : decode cX12_last 34 = .ok (.istore 4, 2) := dk_54 (by decide +kernel)
theorem dX12_last_36 : decode cX12_last 36 = .ok (.iload 4, 2) := dk_21 (by decide +kernel)
theorem dX12_last_38 : decode cX12_last 38 = .ok (.iload_n 2, 1) := dk_28 (by decide +kernel)
theorem dX12_last_39 : decode cX12_last 39 = .ok (.if_icmp .gt 31, 3) := dk_163 (a := 0) (b := 31) (by decide +kernel) rfl
theorem dX12_last_42 : decode cX12_last 42 = .ok (.aload_n 0, 1) := dk_42 (by decide +kernel)
theorem dX12_last_43 : decode cX12_last 43 = .ok (.getfield 108, 3) := dk_180 (a := 0) (b := 108) (by decide +kernel) rfl
theorem dX12_last_46 : decode cX12_last 46 = .ok (.iload 4, 2) := dk_21 (by decide +kernel)
theorem dX12_last_48 : decode cX12_last 48 = .ok (.iaload, 1) := dk_46 (by decide +kernel)
theorem dX12_last_49 : decode cX12_last 49 = .ok (.iload_n 1, 1) := dk_27 (by decide +kernel)
theorem dX12_last_50 : decode cX12_last 50 = .ok (.if_icmp .ne 12, 3) := dk_160 (a := 0) (b := 12) (by decide +kernel) rfl
theorem dX12_last_53 : decode cX12_last 53 = .ok (.iload_n 1, 1) := dk_27 (by decide +kernel)
theorem dX12_last_54 : decode cX12_last 54 = .ok (.ifCond .lt 8, 3) := dk_155 (a := 0) (b := 8) (by decide +kernel) rfl
theorem dX12_last_57 : decode cX12_last 57 = .ok (.iload 4, 2) := dk_21 (by decide +kernel)
theorem dX12_last_59 : decode cX12_last 59 = .ok (.goto 4, 3) := dk_167 (a := 0) (b := 4) (by decide +kernel) rfl
theorem dX12_last_62 : decode cX12_last 62 = .ok (.iload_n 3, 1) := dk_29 (by decide +kernel)
theorem dX12_last_63 : decode cX12_last 63 = .ok (.istore_n 3, 1) := dk_62 (by decide +kernel)
theorem dX12_last_64 : decode cX12_last 64 = .ok (.iinc 4 1, 3) := dk_132 (b := 1) (by decide +kernel) rfl
theorem dX12_last_67 : decode cX12_last 67 = .ok (.goto (-31), 3) := dk_167 (a := 255) (b := 225) (by decide +kernel) rfl
theorem dX12_last_70 : decode cX12_last 70 = .ok (.iload_n 3, 1) := dk_29 (by decide +kernel)
theorem dX12_last_71 : decode cX12_last 71 = .ok (.ireturn, 1) := dk_172 (by decide +kernel)
theorem dX12_next_0 : decode cX12_next 0 = .ok (.aload_n 0, 1) := dk_42 (by decide +kernel)
theorem dX12_next_1 : decode cX12_next 1 = .ok (.iconst 0, 1) := dk_3 (by decide +kernel)
theorem dX12_next_2 : decode cX12_next 2 = .ok (.putfield 164, 3) := dk_181 (a := 0) (b := 164) (by decide +kernel) rfl
theorem dX12_next_5 : decode cX12_next 5 = .ok (.aload_n 0, 1) := dk_42 (by decide +kernel)
theorem dX12_next_6 : decode cX12_next 6 = .ok (.getfield 294, 3) := dk_180 (a := 1) (b := 38) (by decide +kernel) rfl
theorem dX12_next_9 : decode cX12_next 9 = .ok (.ifCond .ne 6, 3) := dk_154 (a := 0) (b := 6) (by decide +kernel) rfl
theorem dX12_next_12 : decode cX12_next 12 = .ok (.bipush (-2), 2) := dk_16 (a := 254) (by decide +kernel) rfl
theorem dX12_next_14 : decode cX12_next 14 = .ok (.ireturn, 1) := dk_172 (by decide +kernel)
theorem dX12_next_15 : decode cX12_next 15 = .ok (.iload_n 2, 1) := dk_28 (by decide +kernel)
theorem dX12_next_16 : decode cX12_next 16 = .ok (.i2l, 1) := dk_133 (by decide +kernel)
theorem dX12_next_17 : decode cX12_next 17 = .ok (.lconst 0, 1) := dk_9 (by decide +kernel)
theorem dX12_next_18 : decode cX12_next 18 = .ok (.aload_n 0, 1) := dk_42 (by decide +kernel)
theorem dX12_next_19 : decode cX12_next 19 = .ok (.getfield 304, 3) := dk_180 (a := 1) (b := 48) (by decide +kernel) rfl
theorem dX12_next_22 : decode cX12_next 22 = .ok (.i2l, 1) := dk_133 (by decide +kernel)
theorem dX12_next_23 : decode cX12_next 23 = .ok (.invokestatic 169, 3) := dk_184 (a := 0) (b := 169) (by decide +kernel) rfl
theorem dX12_next_26 : decode cX12_next 26 = .ok (.ifCond .ne 5, 3) := dk_154 (a := 0) (b := 5) (by decide +kernel) rfl
theorem dX12_next_29 : decode cX12_next 29 = .ok (.iconst (-1), 1) := dk_2 (by decide +kernel)
theorem dX12_next_30 : decode cX12_next 30 = .ok (.ireturn, 1) := dk_172 (by decide +kernel)
theorem dX12_next_31 : decode cX12_next 31 = .ok (.iload_n 2, 1) := dk_28 (by decide +kernel)
theorem dX12_next_32 : decode cX12_next 32 = .ok (.iconst 1, 1) := dk_4 (by decide +kernel)
theorem dX12_next_33 : decode cX12_next 33 = .ok (.iadd, 1) := dk_96 (by decide +kernel)
theorem dX12_next_34 : decode cX12_next 34 = .ok (.istore_n 3, 1) := dk_62 (by decide +kernel)
theorem dX12_next_35 : decode cX12_next 35 = .ok (.iload_n 3, 1) := dk_29 (by decide +kernel)
theorem dX12_next_36 : decode cX12_next 36 = .ok (.aload_n 0, 1) := dk_42 (by decide +kernel)
theorem dX12_next_37 : decode cX12_next 37 = .ok (.getfield 304, 3) := dk_180 (a := 1) (b := 48) (by decide +kernel) rfl
theorem dX12_next_40 : decode cX12_next 40 = .ok (.if_icmp .gt 25, 3) := dk_163 (a := 0) (b := 25) (by decide +kernel) rfl
theorem dX12_next_43 : decode cX12_next 43 = .ok (.aload_n 0, 1) := dk_42 (by decide +kernel)
theorem dX12_next_44 : decode cX12_next 44 = .ok (.getfield 105, 3) := dk_180 (a := 0) (b := 105) (by decide +kernel) rfl
theorem dX12_next_47 : decode cX12_next 47 = .ok (.iload_n 3, 1) := dk_29 (by decide +kernel)
theorem dX12_next_48 : decode cX12_next 48 = .ok (.iaload, 1) := dk_46 (by decide +kernel)
theorem dX12_next_49 : decode cX12_next 49 = .ok (.iload_n 1, 1) := dk_27 (by decide +kernel)
theorem dX12_next_50 : decode cX12_next 50 = .ok (.if_icmp .ne 9, 3) := dk_160 (a := 0) (b := 9) (by decide +kernel) rfl
theorem dX12_next_53 : decode cX12_next 53 = .ok (.iload_n 1, 1) := dk_27 (by decide +kernel)
theorem dX12_next_54 : decode cX12_next 54 = .ok (.ifCond .lt 5, 3) := dk_155 (a := 0) (b := 5) (by decide +kernel) rfl
theorem dX12_next_57 : decode cX12_next 57 = .ok (.iload_n 3, 1) := dk_29 (by decide +kernel)
theorem dX12_next_58 : decode cX12_next 58 = .ok (.ireturn, 1) := dk_172 (by decide +kernel)
theorem dX12_next_59 : decode cX12_next 59 = .ok (.iinc 3 1, 3) := dk_132 (b := 1) (by decide +kernel) rfl
theorem dX12_next_62 : decode cX12_next 62 = .ok (.goto (-27), 3) := dk_167 (a := 255) (b := 229) (by decide +kernel) rfl
theorem dX12_next_65 : decode cX12_next 65 = .ok (.iconst 0, 1) := dk_3 (by decide +kernel)
theorem dX12_next_66 : decode cX12_next 66 = .ok (.ireturn, 1) := dk_172 (by decide +kernel)
theorem dX12_when_0 : decode cX12_when 0 = .ok (.aload_n 0, 1) := dk_42 (by decide +kernel)
theorem dX12_when_1 : decode cX12_when 1 = .ok (.iconst 0, 1) := dk_3 (by decide +kernel)
theorem dX12_when_2 : decode cX12_when 2 = .ok (.putfield 164, 3) := dk_181 (a := 0) (b := 164) (by decide +kernel) rfl
theorem dX12_when_5 : decode cX12_when 5 = .ok (.aload_n 0, 1) := dk_42 (by decide +kernel)
theorem dX12_when_6 : decode cX12_when 6 = .ok (.getfield 294, 3) := dk_180 (a := 1) (b := 38) (by decide +kernel) rfl
theorem dX12_when_9 : decode cX12_when 9 = .ok (.ifCond .ne 6, 3) := dk_154 (a := 0) (b := 6) (by decide +kernel) rfl
theorem dX12_when_12 : decode cX12_when 12 = .ok (.bipush (-2), 2) := dk_16 (a := 254) (by decide +kernel) rfl
theorem dX12_when_14 : decode cX12_when 14 = .ok (.ireturn, 1) := dk_172 (by decide +kernel)
theorem dX12_when_15 : decode cX12_when 15 = .ok (.iload_n 1, 1) := dk_27 (by decide +kernel)
theorem dX12_when_16 : decode cX12_when 16 = .ok (.i2l, 1) := dk_133 (by decide +kernel)
theorem dX12_when_17 : decode cX12_when 17 = .ok (.lconst 0, 1) := dk_9 (by decide +kernel)
theorem dX12_when_18 : decode cX12_when 18 = .ok (.ldc2_w 175, 3) := dk_20 (a := 0) (b := 175) (by decide +kernel) rfl
theorem dX12_when_21 : decode cX12_when 21 = .ok (.invokestatic 169, 3) := dk_184 (a := 0) (b := 169) (by decide +kernel) rfl
theorem dX12_when_24 : decode cX12_when 24 = .ok (.ifCond .eq 16, 3) := dk_153 (a := 0) (b := 16) (by decide +kernel) rfl
theorem dX12_when_27 : decode cX12_when 27 = .ok (.iload 4, 2) := dk_21 (by decide +kernel)
theorem dX12_when_29 : decode cX12_when 29 = .ok (.i2l, 1) := dk_133 (by decide +kernel)
theorem dX12_when_30 : decode cX12_when 30 = .ok (.lconst 0, 1) := dk_9 (by decide +kernel)
theorem dX12_when_31 : decode cX12_when 31 = .ok (.ldc2_w 325, 3) := dk_20 (a := 1) (b := 69) (by decide +kernel) rfl
theorem dX12_when_34 : decode cX12_when 34 = .ok (.invokestatic 169, 3) := dk_184 (a := 0) (b := 169) (by decide +kernel) rfl
theorem dX12_when_37 : decode cX12_when 37 = .ok (.ifCond .ne 5, 3) := dk_154 (a := 0) (b := 5) (by decide +kernel) rfl
theorem dX12_when_40 : decode cX12_when 40 = .ok (.iconst (-1), 1) := dk_2 (by decide +kernel)
theorem dX12_when_41 : decode cX12_when 41 = .ok (.ireturn, 1) := dk_172 (by decide +kernel)
theorem dX12_when_42 : decode cX12_when 42 = .ok (.iconst 0, 1) := dk_3 (by decide +kernel)
theorem dX12_when_43 : decode cX12_when 43 = .ok (.istore 5, 2) := dk_54 (by decide +kernel)
theorem dX12_when_45 : decode cX12_when 45 = .ok (.iconst 0, 1) := dk_3 (by decide +kernel)
theorem dX12_when_46 : decode cX12_when 46 = .ok (.istore 6, 2) := dk_54 (by decide +kernel)
theorem dX12_when_48 : decode cX12_when 48 = .ok (.iconst (-1), 1) := dk_2 (by decide +kernel)
theorem dX12_when_49 : decode cX12_when 49 = .ok (.istore 7, 2) := dk_54 (by decide +kernel)
theorem dX12_when_51 : decode cX12_when 51 = .ok (.iconst 0, 1) := dk_3 (by decide +kernel)
theorem dX12_when_52 : decode cX12_when 52 = .ok (.istore 8, 2) := dk_54 (by decide +kernel)
theorem dX12_when_54 : decode cX12_when 54 = .ok (.iload 8, 2) := dk_21 (by decide +kernel)
theorem dX12_when_56 : decode cX12_when 56 = .ok (.aload_n 0, 1) := dk_42 (by decide +kernel)
theorem dX12_when_57 : decode cX12_when 57 = .ok (.getfield 304, 3) := dk_180 (a := 1) (b := 48) (by decide +kernel) rfl
theorem dX12_when_60 : decode cX12_when 60 = .ok (.iconst 1, 1) := dk_4 (by decide +kernel)
theorem dX12_when_61 : decode cX12_when 61 = .ok (.iadd, 1) := dk_96 (by decide +kernel)
theorem dX12_when_62 : decode cX12_when 62 = .ok (.if_icmp .gt 114, 3) := dk_163 (a := 0) (b := 114) (by decide +kernel) rfl
theorem dX12_when_65 : decode cX12_when 65 = .ok (.iload 8, 2) := dk_21 (by decide +kernel)
theorem dX12_when_67 : decode cX12_when 67 = .ok (.aload_n 0, 1) := dk_42 (by decide +kernel)
theorem dX12_when_68 : decode cX12_when 68 = .ok (.getfield 304, 3) := dk_180 (a := 1) (b := 48) (by decide +kernel) rfl
theorem dX12_when_71 : decode cX12_when 71 = .ok (.if_icmp .gt 38, 3) := dk_163 (a := 0) (b := 38) (by decide +kernel) rfl
theorem dX12_when_74 : decode cX12_when 74 = .ok (.aload_n 0, 1) := dk_42 (by decide +kernel)
theorem dX12_when_75 : decode cX12_when 75 = .ok (.getfield 68, 3) := dk_180 (a := 0) (b := 68) (by decide +kernel) rfl
theorem dX12_when_78 : decode cX12_when 78 = .ok (.bipush 28, 2) := dk_16 (a := 28) (by decide +kernel) rfl
theorem dX12_when_80 : decode cX12_when 80 = .ok (.iload 8, 2) := dk_21 (by decide +kernel)
theorem dX12_when_82 : decode cX12_when 82 = .ok (.imul, 1) := dk_104 (by decide +kernel)
theorem dX12_when_83 : decode cX12_when 83 = .ok (.iload_n 1, 1) := dk_27 (by decide +kernel)
theorem dX12_when_84 : decode cX12_when 84 = .ok (.iadd, 1) := dk_96 (by decide +kernel)
theorem dX12_when_85 : decode cX12_when 85 = .ok (.iaload, 1) := dk_46 (by decide +kernel)
theorem dX12_when_86 : decode cX12_when 86 = .ok (.ifCond .ne 23, 3) := dk_154 (a := 0) (b := 23) (by decide +kernel) rfl
theorem dX12_when_89 : decode cX12_when 89 = .ok (.aload_n 0, 1) := dk_42 (by decide +kernel)
theorem dX12_when_90 : decode cX12_when 90 = .ok (.getfield 71, 3) := dk_180 (a := 0) (b := 71) (by decide +kernel) rfl
theorem dX12_when_93 : decode cX12_when 93 = .ok (.bipush 28, 2) := dk_16 (a := 28) (by decide +kernel) rfl
theorem dX12_when_95 : decode cX12_when 95 = .ok (.iload 8, 2) := dk_21 (by decide +kernel)
theorem dX12_when_97 : decode cX12_when 97 = .ok (.imul, 1) := dk_104 (by decide +kernel)
theorem dX12_when_98 : decode cX12_when 98 = .ok (.iload_n 1, 1) := dk_27 (by decide +kernel)
theorem dX12_when_99 : decode cX12_when 99 = .ok (.iadd, 1) := dk_96 (by decide +kernel)
theorem dX12_when_100 : decode cX12_when 100 = .ok (.iaload, 1) := dk_46 (by decide +kernel)
theorem dX12_when_101 : decode cX12_when 101 = .ok (.iload_n 2, 1) := dk_28 (by decide +kernel)
theorem dX12_when_102 : decode cX12_when 102 = .ok (.if_icmp .ne 7, 3) := dk_160 (a := 0) (b := 7) (by decide +kernel) rfl
theorem dX12_when_105 : decode cX12_when 105 = .ok (.iconst 1, 1) := dk_4 (by decide +kernel)
theorem dX12_when_106 : decode cX12_when 106 = .ok (.goto 4, 3) := dk_167 (a := 0) (b := 4) (by decide +kernel) rfl
theorem dX12_when_109 : decode cX12_when 109 = .ok (.iconst 0, 1) := dk_3 (by decide +kernel)
theorem dX12_when_110 : decode cX12_when 110 = .ok (.istore 9, 2) := dk_54 (by decide +kernel)
theorem dX12_when_112 : decode cX12_when 112 = .ok (.iload 9, 2) := dk_21 (by decide +kernel)
theorem dX12_when_114 : decode cX12_when 114 = .ok (.ifCond .eq 12, 3) := dk_153 (a := 0) (b := 12) (by decide +kernel) rfl
theorem dX12_when_117 : decode cX12_when 117 = .ok (.iload 6, 2) := dk_21 (by decide +kernel)
theorem dX12_when_119 : decode cX12_when 119 = .ok (.ifCond .ne 7, 3) := dk_154 (a := 0) (b := 7) (by decide +kernel) rfl
theorem dX12_when_122 : decode cX12_when 122 = .ok (.iload 8, 2) := dk_21 (by decide +kernel)
theorem dX12_when_124 : decode cX12_when 124 = .ok (.istore 7, 2) := dk_54 (by decide +kernel)
theorem dX12_when_126 : decode cX12_when 126 = .ok (.iload 9, 2) := dk_21 (by decide +kernel)
theorem dX12_when_128 : decode cX12_when 128 = .ok (.ifCond .ne 38, 3) := dk_154 (a := 0) (b := 38) (by decide +kernel) rfl
theorem dX12_when_131 : decode cX12_when 131 = .ok (.iload 6, 2) := dk_21 (by decide +kernel)
theorem dX12_when_133 : decode cX12_when 133 = .ok (.ifCond .eq 33, 3) := dk_153 (a := 0) (b := 33) (by decide +kernel) rfl
theorem dX12_when_136 : decode cX12_when 136 = .ok (.iload 5, 2) := dk_21 (by decide +kernel)
theorem dX12_when_138 : decode cX12_when 138 = .ok (.iload_n 3, 1) := dk_29 (by decide +kernel)
theorem dX12_when_139 : decode cX12_when 139 = .ok (.if_icmp .ne 24, 3) := dk_160 (a := 0) (b := 24) (by decide +kernel) rfl
theorem dX12_when_142 : decode cX12_when 142 = .ok (.iload 4, 2) := dk_21 (by decide +kernel)
theorem dX12_when_144 : decode cX12_when 144 = .ok (.ifCond .le 19, 3) := dk_158 (a := 0) (b := 19) (by decide +kernel) rfl
theorem dX12_when_147 : decode cX12_when 147 = .ok (.iload 4, 2) := dk_21 (by decide +kernel)
theorem dX12_when_149 : decode cX12_when 149 = .ok (.iconst 1, 1) := dk_4 (by decide +kernel)
theorem dX12_when_150 : decode cX12_when 150 = .ok (.if_icmp .ne 8, 3) := dk_160 (a := 0) (b := 8) (by decide +kernel) rfl
theorem dX12_when_153 : decode cX12_when 153 = .ok (.iload 7, 2) := dk_21 (by decide +kernel)
theorem dX12_when_155 : decode cX12_when 155 = .ok (.goto 7, 3) := dk_167 (a := 0) (b := 7) (by decide +kernel) rfl
theorem dX12_when_158 : decode cX12_when 158 = .ok (.iload 8, 2) := dk_21 (by decide +kernel)
theorem dX12_when_160 : decode cX12_when 160 = .ok (.iconst 1, 1) := dk_4 (by decide +kernel)
theorem dX12_when_161 : decode cX12_when 161 = .ok (.isub, 1) := dk_100 (by decide +kernel)
theorem dX12_when_162 : decode cX12_when 162 = .ok (.ireturn, 1) := dk_172 (by decide +kernel)
theorem dX12_when_163 : decode cX12_when 163 = .ok (.iinc 5 1, 3) := dk_132 (b := 1) (by decide +kernel) rfl
theorem dX12_when_166 : decode cX12_when 166 = .ok (.iload 9, 2) := dk_21 (by decide +kernel)
theorem dX12_when_168 : decode cX12_when 168 = .ok (.istore 6, 2) := dk_54 (by decide +kernel)
theorem dX12_when_170 : decode cX12_when 170 = .ok (.iinc 8 1, 3) := dk_132 (b := 1) (by decide +kernel) rfl
theorem dX12_when_173 : decode cX12_when 173 = .ok (.goto (-119), 3) := dk_167 (a := 255) (b := 137) (by decide +kernel) rfl
theorem dX12_when_176 : decode cX12_when 176 = .ok (.iload 4, 2) := dk_21 (by decide +kernel)
theorem dX12_when_178 : decode cX12_when 178 = .ok (.ifCond .ne 8, 3) := dk_154 (a := 0) (b := 8) (by decide +kernel) rfl
theorem dX12_when_181 : decode cX12_when 181 = .ok (.iload 5, 2) := dk_21 (by decide +kernel)
theorem dX12_when_183 : decode cX12_when 183 = .ok (.goto 4, 3) := dk_167 (a := 0) (b := 4) (by decide +kernel) rfl
theorem dX12_when_186 : decode cX12_when 186 = .ok (.iconst (-1), 1) := dk_2 (by decide +kernel)
theorem dX12_when_187 : decode cX12_when 187 = .ok (.ireturn, 1) := dk_172 (by decide +kernel)
theorem dX12_isDirect_0 : decode cX12_isDirect 0 = .ok (.aload_n 0, 1) := dk_42 (by decide +kernel)
theorem dX12_isDirect_1 : decode cX12_isDirect 1 = .ok (.getfield 96, 3) := dk_180 (a := 0) (b := 96) (by decide +kernel) rfl
theorem dX12_isDirect_4 : decode cX12_isDirect 4 = .ok (.iload_n 1, 1) := dk_27 (by decide +kernel)
theorem dX12_isDirect_5 : decode cX12_isDirect 5 = .ok (.iaload, 1) := dk_46 (by decide +kernel)
theorem dX12_isDirect_6 : decode cX12_isDirect 6 = .ok (.aload_n 0, 1) := dk_42 (by decide +kernel)
theorem dX12_isDirect_7 : decode cX12_isDirect 7 = .ok (.getfield 96, 3) := dk_180 (a := 0) (b := 96) (by decide +kernel) rfl
theorem dX12_isDirect_10 : decode cX12_isDirect 10 = .ok (.iload_n 2, 1) := dk_28 (by decide +kernel)
theorem dX12_isDirect_11 : decode cX12_isDirect 11 = .ok (.iaload, 1) := dk_46 (by decide +kernel)
theorem dX12_isDirect_12 : decode cX12_isDirect 12 = .ok (.if_icmp .ne 5, 3) := dk_160 (a := 0) (b := 5) (by decide +kernel) rfl
theorem dX12_isDirect_15 : decode cX12_isDirect 15 = .ok (.iconst 1, 1) := dk_4 (by decide +kernel)
theorem dX12_isDirect_16 : decode cX12_isDirect 16 = .ok (.ireturn, 1) := dk_172 (by decide +kernel)
theorem dX12_isDirect_17 : decode cX12_isDirect 17 = .ok (.aload_n 0, 1) := dk_42 (by decide +kernel)
theorem dX12_isDirect_18 : decode cX12_isDirect 18 = .ok (.getfield 111, 3) := dk_180 (a := 0) (b := 111) (by decide +kernel) rfl
theorem dX12_isDirect_21 : decode cX12_isDirect 21 = .ok (.iload_n 1, 1) := dk_27 (by decide +kernel)
theorem dX12_isDirect_22 : decode cX12_isDirect 22 = .ok (.iaload, 1) := dk_46 (by decide +kernel)
theorem dX12_isDirect_23 : decode cX12_isDirect 23 = .ok (.iconst 2, 1) := dk_5 (by decide +kernel)
theorem dX12_isDirect_24 : decode cX12_isDirect 24 = .ok (.if_icmp .ne 32, 3) := dk_160 (a := 0) (b := 32) (by decide +kernel) rfl
theorem dX12_isDirect_27 : decode cX12_isDirect 27 = .ok (.aload_n 0, 1) := dk_42 (by decide +kernel)
theorem dX12_isDirect_28 : decode cX12_isDirect 28 = .ok (.getfield 111, 3) := dk_180 (a := 0) (b := 111) (by decide +kernel) rfl
theorem dX12_isDirect_31 : decode cX12_isDirect 31 = .ok (.iload_n 2, 1) := dk_28 (by decide +kernel)
theorem dX12_isDirect_32 : decode cX12_isDirect 32 = .ok (.iaload, 1) := dk_46 (by decide +kernel)
theorem dX12_isDirect_33 : decode cX12_isDirect 33 = .ok (.iconst 1, 1) := dk_4 (by decide +kernel)
theorem dX12_isDirect_34 : decode cX12_isDirect 34 = .ok (.if_icmp .ne 22, 3) := dk_160 (a := 0) (b := 22) (by decide +kernel) rfl
theorem dX12_isDirect_37 : decode cX12_isDirect 37 = .ok (.aload_n 0, 1) := dk_42 (by decide +kernel)
theorem dX12_isDirect_38 : decode cX12_isDirect 38 = .ok (.getfield 114, 3) := dk_180 (a := 0) (b := 114) (by decide +kernel) rfl
theorem dX12_isDirect_41 : decode cX12_isDirect 41 = .ok (.iload_n 1, 1) := dk_27 (by decide +kernel)
theorem dX12_isDirect_42 : decode cX12_isDirect 42 = .ok (.iaload, 1) := dk_46 (by decide +kernel)
theorem dX12_isDirect_43 : decode cX12_isDirect 43 = .ok (.aload_n 0, 1) := dk_42 (by decide +kernel)
theorem dX12_isDirect_44 : decode cX12_isDirect 44 = .ok (.getfield 114, 3) := dk_180 (a := 0) (b := 114) (by decide +kernel) rfl
theorem dX12_isDirect_47 : decode cX12_isDirect 47 = .ok (.iload_n 2, 1) := dk_28 (by decide +kernel)
theorem dX12_isDirect_48 : decode cX12_isDirect 48 = .ok (.iaload, 1) := dk_46 (by decide +kernel)
theorem dX12_isDirect_49 : decode cX12_isDirect 49 = .ok (.if_icmp .ne 7, 3) := dk_160 (a := 0) (b := 7) (by decide +kernel) rfl
theorem dX12_isDirect_52 : decode cX12_isDirect 52 = .ok (.iconst 1, 1) := dk_4 (by decide +kernel)
theorem dX12_isDirect_53 : decode cX12_isDirect 53 = .ok (.goto 4, 3) := dk_167 (a := 0) (b := 4) (by decide +kernel) rfl
theorem dX12_isDirect_56 : decode cX12_isDirect 56 = .ok (.iconst 0, 1) := dk_3 (by decide +kernel)
theorem dX12_isDirect_57 : decode cX12_isDirect 57 = .ok (.istore_n 3, 1) := dk_62 (by decide +kernel)
theorem dX12_isDirect_58 : decode cX12_isDirect 58 = .ok (.aload_n 0, 1) := dk_42 (by decide +kernel)
theorem dX12_isDirect_59 : decode cX12_isDirect 59 = .ok (.getfield 111, 3) := dk_180 (a := 0) (b := 111) (by decide +kernel) rfl
theorem dX12_isDirect_62 : decode cX12_isDirect 62 = .ok (.iload_n 1, 1) := dk_27 (by decide +kernel)
theorem dX12_isDirect_63 : decode cX12_isDirect 63 = .ok (.iaload, 1) := dk_46 (by decide +kernel)
theorem dX12_isDirect_64 : decode cX12_isDirect 64 = .ok (.iconst 4, 1) := dk_7 (by decide +kernel)
theorem dX12_isDirect_65 : decode cX12_isDirect 65 = .ok (.if_icmp .ne 22, 3) := dk_160 (a := 0) (b := 22) (by decide +kernel) rfl
theorem dX12_isDirect_68 : decode cX12_isDirect 68 = .ok (.aload_n 0, 1) := dk_42 (by decide +kernel)
theorem dX12_isDirect_69 : decode cX12_isDirect 69 = .ok (.getfield 114, 3) := dk_180 (a := 0) (b := 114) (by decide +kernel) rfl
theorem dX12_isDirect_72 : decode cX12_isDirect 72 = .ok (.iload_n 1, 1) := dk_27 (by decide +kernel)
theorem dX12_isDirect_73 : decode cX12_isDirect 73 = .ok (.iaload, 1) := dk_46 (by decide +kernel)
theorem dX12_isDirect_74 : decode cX12_isDirect 74 = .ok (.aload_n 0, 1) := dk_42 (by decide +kernel)
theorem dX12_isDirect_75 : decode cX12_isDirect 75 = .ok (.getfield 96, 3) := dk_180 (a := 0) (b := 96) (by decide +kernel) rfl
theorem dX12_isDirect_78 : decode cX12_isDirect 78 = .ok (.iload_n 2, 1) := dk_28 (by decide +kernel)
theorem dX12_isDirect_79 : decode cX12_isDirect 79 = .ok (.iaload, 1) := dk_46 (by decide +kernel)
theorem dX12_isDirect_80 : decode cX12_isDirect 80 = .ok (.if_icmp .ne 7, 3) := dk_160 (a := 0) (b := 7) (by decide +kernel) rfl
theorem dX12_isDirect_83 : decode cX12_isDirect 83 = .ok (.iconst 1, 1) := dk_4 (by decide +kernel)
theorem dX12_isDirect_84 : decode cX12_isDirect 84 = .ok (.goto 4, 3) := dk_167 (a := 0) (b := 4) (by decide +kernel) rfl
theorem dX12_isDirect_87 : decode cX12_isDirect 87 = .ok (.iconst 0, 1) := dk_3 (by decide +kernel)
theorem dX12_isDirect_88 : decode cX12_isDirect 88 = .ok (.istore 4, 2) := dk_54 (by decide +kernel)
theorem dX12_isDirect_90 : decode cX12_isDirect 90 = .ok (.iload_n 3, 1) := dk_29 (by decide +kernel)
theorem dX12_isDirect_91 : decode cX12_isDirect 91 = .ok (.ifCond .ne 17, 3) := dk_154 (a := 0) (b := 17) (by decide +kernel) rfl
theorem dX12_isDirect_94 : decode cX12_isDirect 94 = .ok (.iload 4, 2) := dk_21 (by decide +kernel)
theorem dX12_isDirect_96 : decode cX12_isDirect 96 = .ok (.ifCond .ne 12, 3) := dk_154 (a := 0) (b := 12) (by decide +kernel) rfl
theorem dX12_isDirect_99 : decode cX12_isDirect 99 = .ok (.aload_n 0, 1) := dk_42 (by decide +kernel)
theorem dX12_isDirect_100 : decode cX12_isDirect 100 = .ok (.iload_n 1, 1) := dk_27 (by decide +kernel)
theorem dX12_isDirect_101 : decode cX12_isDirect 101 = .ok (.iload_n 2, 1) := dk_28 (by decide +kernel)
theorem dX12_isDirect_102 : decode cX12_isDirect 102 = .ok (.invokevirtual 327, 3) := dk_182 (a := 1) (b := 71) (by decide +kernel) rfl
theorem dX12_isDirect_105 : decode cX12_isDirect 105 = .ok (.ifCond .eq 7, 3) := dk_153 (a := 0) (b := 7) (by decide +kernel) rfl
theorem dX12_isDirect_108 : decode cX12_isDirect 108 = .ok (.iconst 1, 1) := dk_4 (by decide +kernel)
theorem dX12_isDirect_109 : decode cX12_isDirect 109 = .ok (.goto 4, 3) := dk_167 (a := 0) (b := 4) (by decide +kernel) rfl
theorem dX12_isDirect_112 : decode cX12_isDirect 112 = .ok (.iconst 0, 1) := dk_3 (by decide +kernel)
theorem dX12_isDirect_113 : decode cX12_isDirect 113 = .ok (.ireturn, 1) := dk_172 (by decide +kernel)
theorem dX12_isWaking_0 : decode cX12_isWaking 0 = .ok (.aload_n 0, 1) := dk_42 (by decide +kernel)
theorem dX12_isWaking_1 : decode cX12_isWaking 1 = .ok (.getfield 111, 3) := dk_180 (a := 0) (b := 111) (by decide +kernel) rfl
theorem dX12_isWaking_4 : decode cX12_isWaking 4 = .ok (.iload_n 1, 1) := dk_27 (by decide +kernel)
theorem dX12_isWaking_5 : decode cX12_isWaking 5 = .ok (.iaload, 1) := dk_46 (by decide +kernel)
theorem dX12_isWaking_6 : decode cX12_isWaking 6 = .ok (.iconst 3, 1) := dk_6 (by decide +kernel)
theorem dX12_isWaking_7 : decode cX12_isWaking 7 = .ok (.if_icmp .ne 39, 3) := dk_160 (a := 0) (b := 39) (by decide +kernel) rfl
theorem dX12_isWaking_10 : decode cX12_isWaking 10 = .ok (.aload_n 0, 1) := dk_42 (by decide +kernel)
theorem dX12_isWaking_11 : decode cX12_isWaking 11 = .ok (.getfield 102, 3) := dk_180 (a := 0) (b := 102) (by decide +kernel) rfl
theorem dX12_isWaking_14 : decode cX12_isWaking 14 = .ok (.iload_n 2, 1) := dk_28 (by decide +kernel)
theorem dX12_isWaking_15 : decode cX12_isWaking 15 = .ok (.iaload, 1) := dk_46 (by decide +kernel)
theorem dX12_isWaking_16 : decode cX12_isWaking 16 = .ok (.bipush 14, 2) := dk_16 (a := 14) (by decide +kernel) rfl
theorem dX12_isWaking_18 : decode cX12_isWaking 18 = .ok (.if_icmp .ne 28, 3) := dk_160 (a := 0) (b := 28) (by decide +kernel) rfl
theorem dX12_isWaking_21 : decode cX12_isWaking 21 = .ok (.aload_n 0, 1) := dk_42 (by decide +kernel)
theorem dX12_isWaking_22 : decode cX12_isWaking 22 = .ok (.getfield 111, 3) := dk_180 (a := 0) (b := 111) (by decide +kernel) rfl
theorem dX12_isWaking_25 : decode cX12_isWaking 25 = .ok (.iload_n 2, 1) := dk_28 (by decide +kernel)
theorem dX12_isWaking_26 : decode cX12_isWaking 26 = .ok (.iaload, 1) := dk_46 (by decide +kernel)
theorem dX12_isWaking_27 : decode cX12_isWaking 27 = .ok (.iconst 1, 1) := dk_4 (by decide +kernel)
theorem dX12_isWaking_28 : decode cX12_isWaking 28 = .ok (.if_icmp .ne 18, 3) := dk_160 (a := 0) (b := 18) (by decide +kernel) rfl
theorem dX12_isWaking_31 : decode cX12_isWaking 31 = .ok (.aload_n 0, 1) := dk_42 (by decide +kernel)
theorem dX12_isWaking_32 : decode cX12_isWaking 32 = .ok (.getfield 114, 3) := dk_180 (a := 0) (b := 114) (by decide +kernel) rfl
theorem dX12_isWaking_35 : decode cX12_isWaking 35 = .ok (.iload_n 1, 1) := dk_27 (by decide +kernel)
theorem dX12_isWaking_36 : decode cX12_isWaking 36 = .ok (.iaload, 1) := dk_46 (by decide +kernel)
theorem dX12_isWaking_37 : decode cX12_isWaking 37 = .ok (.aload_n 0, 1) := dk_42 (by decide +kernel)
theorem dX12_isWaking_38 : decode cX12_isWaking 38 = .ok (.getfield 114, 3) := dk_180 (a := 0) (b := 114) (by decide +kernel) rfl
theorem dX12_isWaking_41 : decode cX12_isWaking 41 = .ok (.iload_n 2, 1) := dk_28 (by decide +kernel)
theorem dX12_isWaking_42 : decode cX12_isWaking 42 = .ok (.iaload, 1) := dk_46 (by decide +kernel)
theorem dX12_isWaking_43 : decode cX12_isWaking 43 = .ok (.if_icmp .eq 5, 3) := dk_159 (a := 0) (b := 5) (by decide +kernel) rfl
theorem dX12_isWaking_46 : decode cX12_isWaking 46 = .ok (.iconst 0, 1) := dk_3 (by decide +kernel)
theorem dX12_isWaking_47 : decode cX12_isWaking 47 = .ok (.ireturn, 1) := dk_172 (by decide +kernel)
theorem dX12_isWaking_48 : decode cX12_isWaking 48 = .ok (.iconst 0, 1) := dk_3 (by decide +kernel)
theorem dX12_isWaking_49 : decode cX12_isWaking 49 = .ok (.istore_n 3, 1) := dk_62 (by decide +kernel)
theorem dX12_isWaking_50 : decode cX12_isWaking 50 = .ok (.iconst 1, 1) := dk_4 (by decide +kernel)
theorem dX12_isWaking_51 : decode cX12_isWaking 51 = .ok (.istore 4, 2) := dk_54 (by decide +kernel)
theorem dX12_isWaking_53 : decode cX12_isWaking 53 = .ok (.iload 4, 2) := dk_21 (by decide +kernel)
theorem dX12_isWaking_55 : decode cX12_isWaking 55 = .ok (.iload_n 2, 1) := dk_28 (by decide +kernel)
theorem dX12_isWaking_56 : decode cX12_isWaking 56 = .ok (.if_icmp .ge 32, 3) := dk_162 (a := 0) (b := 32) (by decide +kernel) rfl
theorem dX12_isWaking_59 : decode cX12_isWaking 59 = .ok (.aload_n 0, 1) := dk_42 (by decide +kernel)
theorem dX12_isWaking_60 : decode cX12_isWaking 60 = .ok (.getfield 96, 3) := dk_180 (a := 0) (b := 96) (by decide +kernel) rfl
theorem dX12_isWaking_63 : decode cX12_isWaking 63 = .ok (.iload 4, 2) := dk_21 (by decide +kernel)
theorem dX12_isWaking_65 : decode cX12_isWaking 65 = .ok (.iaload, 1) := dk_46 (by decide +kernel)
theorem dX12_isWaking_66 : decode cX12_isWaking 66 = .ok (.aload_n 0, 1) := dk_42 (by decide +kernel)
theorem dX12_isWaking_67 : decode cX12_isWaking 67 = .ok (.getfield 96, 3) := dk_180 (a := 0) (b := 96) (by decide +kernel) rfl
theorem dX12_isWaking_70 : decode cX12_isWaking 70 = .ok (.iload_n 2, 1) := dk_28 (by decide +kernel)
theorem dX12_isWaking_71 : decode cX12_isWaking 71 = .ok (.iaload, 1) := dk_46 (by decide +kernel)
theorem dX12_isWaking_72 : decode cX12_isWaking 72 = .ok (.if_icmp .ne 8, 3) := dk_160 (a := 0) (b := 8) (by decide +kernel) rfl
theorem dX12_isWaking_75 : decode cX12_isWaking 75 = .ok (.iload 4, 2) := dk_21 (by decide +kernel)
theorem dX12_isWaking_77 : decode cX12_isWaking 77 = .ok (.goto 4, 3) := dk_167 (a := 0) (b := 4) (by decide +kernel) rfl
theorem dX12_isWaking_80 : decode cX12_isWaking 80 = .ok (.iload_n 3, 1) := dk_29 (by decide +kernel)
theorem dX12_isWaking_81 : decode cX12_isWaking 81 = .ok (.istore_n 3, 1) := dk_62 (by decide +kernel)
theorem dX12_isWaking_82 : decode cX12_isWaking 82 = .ok (.iinc 4 1, 3) := dk_132 (b := 1) (by decide +kernel) rfl
theorem dX12_isWaking_85 : decode cX12_isWaking 85 = .ok (.goto (-32), 3) := dk_167 (a := 255) (b := 224) (by decide +kernel) rfl
theorem dX12_isWaking_88 : decode cX12_isWaking 88 = .ok (.iload_n 3, 1) := dk_29 (by decide +kernel)
theorem dX12_isWaking_89 : decode cX12_isWaking 89 = .ok (.iload_n 1, 1) := dk_27 (by decide +kernel)
theorem dX12_isWaking_90 : decode cX12_isWaking 90 = .ok (.if_icmp .ge 7, 3) := dk_162 (a := 0) (b := 7) (by decide +kernel) rfl
theorem dX12_isWaking_93 : decode cX12_isWaking 93 = .ok (.iconst 1, 1) := dk_4 (by decide +kernel)
theorem dX12_isWaking_94 : decode cX12_isWaking 94 = .ok (.goto 4, 3) := dk_167 (a := 0) (b := 4) (by decide +kernel) rfl
theorem dX12_isWaking_97 : decode cX12_isWaking 97 = .ok (.iconst 0, 1) := dk_3 (by decide +kernel)
theorem dX12_isWaking_98 : decode cX12_isWaking 98 = .ok (.istore 4, 2) := dk_54 (by decide +kernel)
theorem dX12_isWaking_100 : decode cX12_isWaking 100 = .ok (.iload_n 3, 1) := dk_29 (by decide +kernel)
theorem dX12_isWaking_101 : decode cX12_isWaking 101 = .ok (.iconst 1, 1) := dk_4 (by decide +kernel)
theorem dX12_isWaking_102 : decode cX12_isWaking 102 = .ok (.iadd, 1) := dk_96 (by decide +kernel)
theorem dX12_isWaking_103 : decode cX12_isWaking 103 = .ok (.istore 5, 2) := dk_54 (by decide +kernel)
theorem dX12_isWaking_105 : decode cX12_isWaking 105 = .ok (.iload 5, 2) := dk_21 (by decide +kernel)
theorem dX12_isWaking_107 : decode cX12_isWaking 107 = .ok (.iload_n 1, 1) := dk_27 (by decide +kernel)
theorem dX12_isWaking_108 : decode cX12_isWaking 108 = .ok (.if_icmp .ge 48, 3) := dk_162 (a := 0) (b := 48) (by decide +kernel) rfl
theorem dX12_isWaking_111 : decode cX12_isWaking 111 = .ok (.iload 4, 2) := dk_21 (by decide +kernel)
theorem dX12_isWaking_113 : decode cX12_isWaking 113 = .ok (.ifCond .eq 34, 3) := dk_153 (a := 0) (b := 34) (by decide +kernel) rfl
theorem dX12_isWaking_116 : decode cX12_isWaking 116 = .ok (.aload_n 0, 1) := dk_42 (by decide +kernel)
theorem dX12_isWaking_117 : decode cX12_isWaking 117 = .ok (.getfield 111, 3) := dk_180 (a := 0) (b := 111) (by decide +kernel) rfl
theorem dX12_isWaking_120 : decode cX12_isWaking 120 = .ok (.iload 5, 2) := dk_21 (by decide +kernel)
theorem dX12_isWaking_122 : decode cX12_isWaking 122 = .ok (.iaload, 1) := dk_46 (by decide +kernel)
theorem dX12_isWaking_123 : decode cX12_isWaking 123 = .ok (.iconst 3, 1) := dk_6 (by decide +kernel)
theorem dX12_isWaking_124 : decode cX12_isWaking 124 = .ok (.if_icmp .ne 19, 3) := dk_160 (a := 0) (b := 19) (by decide +kernel) rfl
theorem dX12_isWaking_127 : decode cX12_isWaking 127 = .ok (.aload_n 0, 1) := dk_42 (by decide +kernel)
theorem dX12_isWaking_128 : decode cX12_isWaking 128 = .ok (.getfield 114, 3) := dk_180 (a := 0) (b := 114) (by decide +kernel) rfl
theorem dX12_isWaking_131 : decode cX12_isWaking 131 = .ok (.iload 5, 2) := dk_21 (by decide +kernel)
theorem dX12_isWaking_133 : decode cX12_isWaking 133 = .ok (.iaload, 1) := dk_46 (by decide +kernel)
theorem dX12_isWaking_134 : decode cX12_isWaking 134 = .ok (.aload_n 0, 1) := dk_42 (by decide +kernel)
theorem dX12_isWaking_135 : decode cX12_isWaking 135 = .ok (.getfield 114, 3) := dk_180 (a := 0) (b := 114) (by decide +kernel) rfl
theorem dX12_isWaking_138 : decode cX12_isWaking 138 = .ok (.iload_n 1, 1) := dk_27 (by decide +kernel)
theorem dX12_isWaking_139 : decode cX12_isWaking 139 = .ok (.iaload, 1) := dk_46 (by decide +kernel)
theorem dX12_isWaking_140 : decode cX12_isWaking 140 = .ok (.if_icmp .eq 7, 3) := dk_159 (a := 0) (b := 7) (by decide +kernel) rfl
theorem dX12_isWaking_143 : decode cX12_isWaking 143 = .ok (.iconst 1, 1) := dk_4 (by decide +kernel)
theorem dX12_isWaking_144 : decode cX12_isWaking 144 = .ok (.goto 4, 3) := dk_167 (a := 0) (b := 4) (by decide +kernel) rfl
theorem dX12_isWaking_147 : decode cX12_isWaking 147 = .ok (.iconst 0, 1) := dk_3 (by decide +kernel)
theorem dX12_isWaking_148 : decode cX12_isWaking 148 = .ok (.istore 4, 2) := dk_54 (by decide +kernel)
theorem dX12_isWaking_150 : decode cX12_isWaking 150 = .ok (.iinc 5 1, 3) := dk_132 (b := 1) (by decide +kernel) rfl
theorem dX12_isWaking_153 : decode cX12_isWaking 153 = .ok (.goto (-48), 3) := dk_167 (a := 255) (b := 208) (by decide +kernel) rfl
theorem dX12_isWaking_156 : decode cX12_isWaking 156 = .ok (.iload 4, 2) := dk_21 (by decide +kernel)
theorem dX12_isWaking_158 : decode cX12_isWaking 158 = .ok (.ireturn, 1) := dk_172 (by decide +kernel)
theorem dX12_findAhead_0 : decode cX12_findAhead 0 = .ok (.aload_n 0, 1) := dk_42 (by decide +kernel)
theorem dX12_findAhead_1 : decode cX12_findAhead 1 = .ok (.getfield 288, 3) := dk_180 (a := 1) (b := 32) (by decide +kernel) rfl
theorem dX12_findAhead_4 : decode cX12_findAhead 4 = .ok (.ifCond .eq 4, 3) := dk_153 (a := 0) (b := 4) (by decide +kernel) rfl
theorem dX12_findAhead_7 : decode cX12_findAhead 7 = .ok (.return_, 1) := dk_177 (by decide +kernel)
theorem dX12_findAhead_8 : decode cX12_findAhead 8 = .ok (.aload_n 0, 1) := dk_42 (by decide +kernel)
theorem dX12_findAhead_9 : decode cX12_findAhead 9 = .ok (.iconst 1, 1) := dk_4 (by decide +kernel)
theorem dX12_findAhead_10 : decode cX12_findAhead 10 = .ok (.putfield 288, 3) := dk_181 (a := 1) (b := 32) (by decide +kernel) rfl
theorem dX12_findAhead_13 : decode cX12_findAhead 13 = .ok (.iconst 1, 1) := dk_4 (by decide +kernel)
theorem dX12_findAhead_14 : decode cX12_findAhead 14 = .ok (.istore_n 1, 1) := dk_60 (by decide +kernel)
theorem dX12_findAhead_15 : decode cX12_findAhead 15 = .ok (.iload_n 1, 1) := dk_27 (by decide +kernel)
theorem dX12_findAhead_16 : decode cX12_findAhead 16 = .ok (.aload_n 0, 1) := dk_42 (by decide +kernel)
theorem dX12_findAhead_17 : decode cX12_findAhead 17 = .ok (.getfield 304, 3) := dk_180 (a := 1) (b := 48) (by decide +kernel) rfl
theorem dX12_findAhead_20 : decode cX12_findAhead 20 = .ok (.if_icmp .gt 146, 3) := dk_163 (a := 0) (b := 146) (by decide +kernel) rfl
theorem dX12_findAhead_23 : decode cX12_findAhead 23 = .ok (.iconst 1, 1) := dk_4 (by decide +kernel)
theorem dX12_findAhead_24 : decode cX12_findAhead 24 = .ok (.istore_n 2, 1) := dk_61 (by decide +kernel)
theorem dX12_findAhead_25 : decode cX12_findAhead 25 = .ok (.iload_n 2, 1) := dk_28 (by decide +kernel)
theorem dX12_findAhead_26 : decode cX12_findAhead 26 = .ok (.iload_n 1, 1) := dk_27 (by decide +kernel)
theorem dX12_findAhead_27 : decode cX12_findAhead 27 = .ok (.if_icmp .ge 22, 3) := dk_162 (a := 0) (b := 22) (by decide +kernel) rfl
theorem dX12_findAhead_30 : decode cX12_findAhead 30 = .ok (.aload_n 0, 1) := dk_42 (by decide +kernel)
theorem dX12_findAhead_31 : decode cX12_findAhead 31 = .ok (.getfield 127, 3) := dk_180 (a := 0) (b := 127) (by decide +kernel) rfl
theorem dX12_findAhead_34 : decode cX12_findAhead 34 = .ok (.sipush 301, 3) := dk_17 (a := 1) (b := 45) (by decide +kernel) rfl
theorem dX12_findAhead_37 : decode cX12_findAhead 37 = .ok (.iload_n 2, 1) := dk_28 (by decide +kernel)
theorem dX12_findAhead_38 : decode cX12_findAhead 38 = .ok (.imul, 1) := dk_104 (by decide +kernel)
theorem dX12_findAhead_39 : decode cX12_findAhead 39 = .ok (.iload_n 1, 1) := dk_27 (by decide +kernel)
theorem dX12_findAhead_40 : decode cX12_findAhead 40 = .ok (.iadd, 1) := dk_96 (by decide +kernel)
theorem dX12_findAhead_41 : decode cX12_findAhead 41 = .ok (.iconst 0, 1) := dk_3 (by decide +kernel)
theorem dX12_findAhead_42 : decode cX12_findAhead 42 = .ok (.bastore, 1) := dk_84 (by decide +kernel)
theorem dX12_findAhead_43 : decode cX12_findAhead 43 = .ok (.iinc 2 1, 3) := dk_132 (b := 1) (by decide +kernel) rfl
theorem dX12_findAhead_46 : decode cX12_findAhead 46 = .ok (.goto (-21), 3) := dk_167 (a := 255) (b := 235) (by decide +kernel) rfl
theorem dX12_findAhead_49 : decode cX12_findAhead 49 = .ok (.iload_n 1, 1) := dk_27 (by decide +kernel)
theorem dX12_findAhead_50 : decode cX12_findAhead 50 = .ok (.iconst 1, 1) := dk_4 (by decide +kernel)
theorem dX12_findAhead_51 : decode cX12_findAhead 51 = .ok (.isub, 1) := dk_100 (by decide +kernel)
theorem dX12_findAhead_52 : decode cX12_findAhead 52 = .ok (.istore_n 2, 1) := dk_61 (by decide +kernel)
theorem dX12_findAhead_53 : decode cX12_findAhead 53 = .ok (.iload_n 2, 1) := dk_28 (by decide +kernel)
theorem dX12_findAhead_54 : decode cX12_findAhead 54 = .ok (.ifCond .le 106, 3) := dk_158 (a := 0) (b := 106) (by decide +kernel) rfl
theorem dX12_findAhead_57 : decode cX12_findAhead 57 = .ok (.aload_n 0, 1) := dk_42 (by decide +kernel)
theorem dX12_findAhead_58 : decode cX12_findAhead 58 = .ok (.getfield 127, 3) := dk_180 (a := 0) (b := 127) (by decide +kernel) rfl
theorem dX12_findAhead_61 : decode cX12_findAhead 61 = .ok (.sipush 301, 3) := dk_17 (a := 1) (b := 45) (by decide +kernel) rfl
theorem dX12_findAhead_64 : decode cX12_findAhead 64 = .ok (.iload_n 2, 1) := dk_28 (by decide +kernel)
theorem dX12_findAhead_65 : decode cX12_findAhead 65 = .ok (.imul, 1) := dk_104 (by decide +kernel)
theorem dX12_findAhead_66 : decode cX12_findAhead 66 = .ok (.iload_n 1, 1) := dk_27 (by decide +kernel)
theorem dX12_findAhead_67 : decode cX12_findAhead 67 = .ok (.iadd, 1) := dk_96 (by decide +kernel)
theorem dX12_findAhead_68 : decode cX12_findAhead 68 = .ok (.baload, 1) := dk_51 (by decide +kernel)
theorem dX12_findAhead_69 : decode cX12_findAhead 69 = .ok (.ifCond .ne 85, 3) := dk_154 (a := 0) (b := 85) (by decide +kernel) rfl
theorem dX12_findAhead_72 : decode cX12_findAhead 72 = .ok (.aload_n 0, 1) := dk_42 (by decide +kernel)
theorem dX12_findAhead_73 : decode cX12_findAhead 73 = .ok (.iload_n 2, 1) := dk_28 (by decide +kernel)
theorem dX12_findAhead_74 : decode cX12_findAhead 74 = .ok (.iload_n 1, 1) := dk_27 (by decide +kernel)
theorem dX12_findAhead_75 : decode cX12_findAhead 75 = .ok (.invokevirtual 331, 3) := dk_182 (a := 1) (b := 75) (by decide +kernel) rfl
theorem dX12_findAhead_78 : decode cX12_findAhead 78 = .ok (.ifCond .eq 76, 3) := dk_153 (a := 0) (b := 76) (by decide +kernel) rfl
theorem dX12_findAhead_81 : decode cX12_findAhead 81 = .ok (.aload_n 0, 1) := dk_42 (by decide +kernel)
theorem dX12_findAhead_82 : decode cX12_findAhead 82 = .ok (.getfield 127, 3) := dk_180 (a := 0) (b := 127) (by decide +kernel) rfl
theorem dX12_findAhead_85 : decode cX12_findAhead 85 = .ok (.sipush 301, 3) := dk_17 (a := 1) (b := 45) (by decide +kernel) rfl
theorem dX12_findAhead_88 : decode cX12_findAhead 88 = .ok (.iload_n 2, 1) := dk_28 (by decide +kernel)
theorem dX12_findAhead_89 : decode cX12_findAhead 89 = .ok (.imul, 1) := dk_104 (by decide +kernel)
theorem dX12_findAhead_90 : decode cX12_findAhead 90 = .ok (.iload_n 1, 1) := dk_27 (by decide +kernel)
theorem dX12_findAhead_91 : decode cX12_findAhead 91 = .ok (.iadd, 1) := dk_96 (by decide +kernel)
theorem dX12_findAhead_92 : decode cX12_findAhead 92 = .ok (.iconst 1, 1) := dk_4 (by decide +kernel)
theorem dX12_findAhead_93 : decode cX12_findAhead 93 = .ok (.bastore, 1) := dk_84 (by decide +kernel)
theorem dX12_findAhead_94 : decode cX12_findAhead 94 = .ok (.iconst 1, 1) := dk_4 (by decide +kernel)
theorem dX12_findAhead_95 : decode cX12_findAhead 95 = .ok (.istore_n 3, 1) := dk_62 (by decide +kernel)
theorem dX12_findAhead_96 : decode cX12_findAhead 96 = .ok (.iload_n 3, 1) := dk_29 (by decide +kernel)
theorem dX12_findAhead_97 : decode cX12_findAhead 97 = .ok (.iload_n 2, 1) := dk_28 (by decide +kernel)
theorem dX12_findAhead_98 : decode cX12_findAhead 98 = .ok (.if_icmp .ge 56, 3) := dk_162 (a := 0) (b := 56) (by decide +kernel) rfl
theorem dX12_findAhead_101 : decode cX12_findAhead 101 = .ok (.aload_n 0, 1) := dk_42 (by decide +kernel)
theorem dX12_findAhead_102 : decode cX12_findAhead 102 = .ok (.getfield 127, 3) := dk_180 (a := 0) (b := 127) (by decide +kernel) rfl
theorem dX12_findAhead_105 : decode cX12_findAhead 105 = .ok (.sipush 301, 3) := dk_17 (a := 1) (b := 45) (by decide +kernel) rfl
theorem dX12_findAhead_108 : decode cX12_findAhead 108 = .ok (.iload_n 3, 1) := dk_29 (by decide +kernel)
theorem dX12_findAhead_109 : decode cX12_findAhead 109 = .ok (.imul, 1) := dk_104 (by decide +kernel)
theorem dX12_findAhead_110 : decode cX12_findAhead 110 = .ok (.iload_n 1, 1) := dk_27 (by decide +kernel)
theorem dX12_findAhead_111 : decode cX12_findAhead 111 = .ok (.iadd, 1) := dk_96 (by decide +kernel)
theorem dX12_findAhead_112 : decode cX12_findAhead 112 = .ok (.aload_n 0, 1) := dk_42 (by decide +kernel)
theorem dX12_findAhead_113 : decode cX12_findAhead 113 = .ok (.getfield 127, 3) := dk_180 (a := 0) (b := 127) (by decide +kernel) rfl
theorem dX12_findAhead_116 : decode cX12_findAhead 116 = .ok (.sipush 301, 3) := dk_17 (a := 1) (b := 45) (by decide +kernel) rfl
theorem dX12_findAhead_119 : decode cX12_findAhead 119 = .ok (.iload_n 3, 1) := dk_29 (by decide +kernel)
theorem dX12_findAhead_120 : decode cX12_findAhead 120 = .ok (.imul, 1) := dk_104 (by decide +kernel)
theorem dX12_findAhead_121 : decode cX12_findAhead 121 = .ok (.iload_n 1, 1) := dk_27 (by decide +kernel)
theorem dX12_findAhead_122 : decode cX12_findAhead 122 = .ok (.iadd, 1) := dk_96 (by decide +kernel)
theorem dX12_findAhead_123 : decode cX12_findAhead 123 = .ok (.baload, 1) := dk_51 (by decide +kernel)
theorem dX12_findAhead_124 : decode cX12_findAhead 124 = .ok (.ifCond .ne 18, 3) := dk_154 (a := 0) (b := 18) (by decide +kernel) rfl
theorem dX12_findAhead_127 : decode cX12_findAhead 127 = .ok (.aload_n 0, 1) := dk_42 (by decide +kernel)
theorem dX12_findAhead_128 : decode cX12_findAhead 128 = .ok (.getfield 127, 3) := dk_180 (a := 0) (b := 127) (by decide +kernel) rfl
theorem dX12_findAhead_131 : decode cX12_findAhead 131 = .ok (.sipush 301, 3) := dk_17 (a := 1) (b := 45) (by decide +kernel) rfl
theorem dX12_findAhead_134 : decode cX12_findAhead 134 = .ok (.iload_n 3, 1) := dk_29 (by decide +kernel)
theorem dX12_findAhead_135 : decode cX12_findAhead 135 = .ok (.imul, 1) := dk_104 (by decide +kernel)
theorem dX12_findAhead_136 : decode cX12_findAhead 136 = .ok (.iload_n 2, 1) := dk_28 (by decide +kernel)
theorem dX12_findAhead_137 : decode cX12_findAhead 137 = .ok (.iadd, 1) := dk_96 (by decide +kernel)
theorem dX12_findAhead_138 : decode cX12_findAhead 138 = .ok (.baload, 1) := dk_51 (by decide +kernel)
theorem dX12_findAhead_139 : decode cX12_findAhead 139 = .ok (.ifCond .eq 7, 3) := dk_153 (a := 0) (b := 7) (by decide +kernel) rfl
theorem dX12_findAhead_142 : decode cX12_findAhead 142 = .ok (.iconst 1, 1) := dk_4 (by decide +kernel)
theorem dX12_findAhead_143 : decode cX12_findAhead 143 = .ok (.goto 4, 3) := dk_167 (a := 0) (b := 4) (by decide +kernel) rfl
theorem dX12_findAhead_146 : decode cX12_findAhead 146 = .ok (.iconst 0, 1) := dk_3 (by decide +kernel)
theorem dX12_findAhead_147 : decode cX12_findAhead 147 = .ok (.bastore, 1) := dk_84 (by decide +kernel)
theorem dX12_findAhead_148 : decode cX12_findAhead 148 = .ok (.iinc 3 1, 3) := dk_132 (b := 1) (by decide +kernel) rfl
theorem dX12_findAhead_151 : decode cX12_findAhead 151 = .ok (.goto (-55), 3) := dk_167 (a := 255) (b := 201) (by decide +kernel) rfl
theorem dX12_findAhead_154 : decode cX12_findAhead 154 = .ok (.iinc 2 (-1), 3) := dk_132 (b := 255) (by decide +kernel) rfl
theorem dX12_findAhead_157 : decode cX12_findAhead 157 = .ok (.goto (-104), 3) := dk_167 (a := 255) (b := 152) (by decide +kernel) rfl
theorem dX12_findAhead_160 : decode cX12_findAhead 160 = .ok (.iinc 1 1, 3) := dk_132 (b := 1) (by decide +kernel) rfl
theorem dX12_findAhead_163 : decode cX12_findAhead 163 = .ok (.goto (-148), 3) := dk_167 (a := 255) (b := 108) (by decide +kernel) rfl
theorem dX12_findAhead_166 : decode cX12_findAhead 166 = .ok (.return_, 1) := dk_177 (by decide +kernel)
theorem dX12_ahead_0 : decode cX12_ahead 0 = .ok (.aload_n 0, 1) := dk_42 (by decide +kernel)
theorem dX12_ahead_1 : decode cX12_ahead 1 = .ok (.iconst 0, 1) := dk_3 (by decide +kernel)
theorem dX12_ahead_2 : decode cX12_ahead 2 = .ok (.putfield 164, 3) := dk_181 (a := 0) (b := 164) (by decide +kernel) rfl
theorem dX12_ahead_5 : decode cX12_ahead 5 = .ok (.aload_n 0, 1) := dk_42 (by decide +kernel)
theorem dX12_ahead_6 : decode cX12_ahead 6 = .ok (.getfield 294, 3) := dk_180 (a := 1) (b := 38) (by decide +kernel) rfl
theorem dX12_ahead_9 : decode cX12_ahead 9 = .ok (.ifCond .ne 6, 3) := dk_154 (a := 0) (b := 6) (by decide +kernel) rfl
theorem dX12_ahead_12 : decode cX12_ahead 12 = .ok (.bipush (-2), 2) := dk_16 (a := 254) (by decide +kernel) rfl
theorem dX12_ahead_14 : decode cX12_ahead 14 = .ok (.ireturn, 1) := dk_172 (by decide +kernel)
theorem dX12_ahead_15 : decode cX12_ahead 15 = .ok (.iload_n 2, 1) := dk_28 (by decide +kernel)
theorem dX12_ahead_16 : decode cX12_ahead 16 = .ok (.i2l, 1) := dk_133 (by decide +kernel)
theorem dX12_ahead_17 : decode cX12_ahead 17 = .ok (.lconst 1, 1) := dk_10 (by decide +kernel)
theorem dX12_ahead_18 : decode cX12_ahead 18 = .ok (.aload_n 0, 1) := dk_42 (by decide +kernel)
theorem dX12_ahead_19 : decode cX12_ahead 19 = .ok (.getfield 304, 3) := dk_180 (a := 1) (b := 48) (by decide +kernel) rfl
theorem dX12_ahead_22 : decode cX12_ahead 22 = .ok (.i2l, 1) := dk_133 (by decide +kernel)
theorem dX12_ahead_23 : decode cX12_ahead 23 = .ok (.invokestatic 169, 3) := dk_184 (a := 0) (b := 169) (by decide +kernel) rfl
theorem dX12_ahead_26 : decode cX12_ahead 26 = .ok (.ifCond .eq 16, 3) := dk_153 (a := 0) (b := 16) (by decide +kernel) rfl
