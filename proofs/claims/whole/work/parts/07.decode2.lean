/-! decode rows (written by gen/names.py) -/
theorem qd_Z_init_0 : decode qc_Z_init 0 = .ok (.aload_n 0, 1) := by decide +kernel
theorem qd_Z_init_1 : decode qc_Z_init 1 = .ok (.invokespecial 1, 3) := by decide +kernel
theorem qd_Z_init_4 : decode qc_Z_init 4 = .ok (.aload_n 0, 1) := by decide +kernel
theorem qd_Z_init_5 : decode qc_Z_init 5 = .ok (.sipush 1920, 3) := by decide +kernel
theorem qd_Z_init_8 : decode qc_Z_init 8 = .ok (.newarray .int, 2) := by decide +kernel
theorem qd_Z_init_10 : decode qc_Z_init 10 = .ok (.putfield 7, 3) := by decide +kernel
theorem qd_Z_init_13 : decode qc_Z_init 13 = .ok (.aload_n 0, 1) := by decide +kernel
theorem qd_Z_init_14 : decode qc_Z_init 14 = .ok (.bipush 32, 2) := by decide +kernel
theorem qd_Z_init_16 : decode qc_Z_init 16 = .ok (.newarray .int, 2) := by decide +kernel
theorem qd_Z_init_18 : decode qc_Z_init 18 = .ok (.putfield 13, 3) := by decide +kernel
theorem qd_Z_init_21 : decode qc_Z_init 21 = .ok (.aload_n 0, 1) := by decide +kernel
theorem qd_Z_init_22 : decode qc_Z_init 22 = .ok (.bipush 64, 2) := by decide +kernel
theorem qd_Z_init_24 : decode qc_Z_init 24 = .ok (.newarray .boolean, 2) := by decide +kernel
theorem qd_Z_init_26 : decode qc_Z_init 26 = .ok (.putfield 16, 3) := by decide +kernel
theorem qd_Z_init_29 : decode qc_Z_init 29 = .ok (.aload_n 0, 1) := by decide +kernel
theorem qd_Z_init_30 : decode qc_Z_init 30 = .ok (.bipush 8, 2) := by decide +kernel
theorem qd_Z_init_32 : decode qc_Z_init 32 = .ok (.newarray .boolean, 2) := by decide +kernel
theorem qd_Z_init_34 : decode qc_Z_init 34 = .ok (.putfield 20, 3) := by decide +kernel
theorem qd_Z_init_37 : decode qc_Z_init 37 = .ok (.aload_n 0, 1) := by decide +kernel
theorem qd_Z_init_38 : decode qc_Z_init 38 = .ok (.bipush 8, 2) := by decide +kernel
theorem qd_Z_init_40 : decode qc_Z_init 40 = .ok (.newarray .int, 2) := by decide +kernel
theorem qd_Z_init_42 : decode qc_Z_init 42 = .ok (.putfield 23, 3) := by decide +kernel
theorem qd_Z_init_45 : decode qc_Z_init 45 = .ok (.aload_n 0, 1) := by decide +kernel
theorem qd_Z_init_46 : decode qc_Z_init 46 = .ok (.bipush 8, 2) := by decide +kernel
theorem qd_Z_init_48 : decode qc_Z_init 48 = .ok (.newarray .int, 2) := by decide +kernel
theorem qd_Z_init_50 : decode qc_Z_init 50 = .ok (.putfield 26, 3) := by decide +kernel
theorem qd_Z_init_53 : decode qc_Z_init 53 = .ok (.aload_n 0, 1) := by decide +kernel
theorem qd_Z_init_54 : decode qc_Z_init 54 = .ok (.bipush 64, 2) := by decide +kernel
theorem qd_Z_init_56 : decode qc_Z_init 56 = .ok (.newarray .int, 2) := by decide +kernel
theorem qd_Z_init_58 : decode qc_Z_init 58 = .ok (.putfield 29, 3) := by decide +kernel
theorem qd_Z_init_61 : decode qc_Z_init 61 = .ok (.aload_n 0, 1) := by decide +kernel
theorem qd_Z_init_62 : decode qc_Z_init 62 = .ok (.bipush 64, 2) := by decide +kernel
theorem qd_Z_init_64 : decode qc_Z_init 64 = .ok (.newarray .int, 2) := by decide +kernel
theorem qd_Z_init_66 : decode qc_Z_init 66 = .ok (.putfield 32, 3) := by decide +kernel
theorem qd_Z_init_69 : decode qc_Z_init 69 = .ok (.aload_n 0, 1) := by decide +kernel
theorem qd_Z_init_70 : decode qc_Z_init 70 = .ok (.bipush 64, 2) := by decide +kernel
theorem qd_Z_init_72 : decode qc_Z_init 72 = .ok (.newarray .int, 2) := by decide +kernel
theorem qd_Z_init_74 : decode qc_Z_init 74 = .ok (.putfield 35, 3) := by decide +kernel
theorem qd_Z_init_77 : decode qc_Z_init 77 = .ok (.aload_n 0, 1) := by decide +kernel
theorem qd_Z_init_78 : decode qc_Z_init 78 = .ok (.bipush 64, 2) := by decide +kernel
theorem qd_Z_init_80 : decode qc_Z_init 80 = .ok (.newarray .int, 2) := by decide +kernel
theorem qd_Z_init_82 : decode qc_Z_init 82 = .ok (.putfield 38, 3) := by decide +kernel
theorem qd_Z_init_85 : decode qc_Z_init 85 = .ok (.aload_n 0, 1) := by decide +kernel
theorem qd_Z_init_86 : decode qc_Z_init 86 = .ok (.bipush 64, 2) := by decide +kernel
theorem qd_Z_init_88 : decode qc_Z_init 88 = .ok (.newarray .int, 2) := by decide +kernel
theorem qd_Z_init_90 : decode qc_Z_init 90 = .ok (.putfield 41, 3) := by decide +kernel
theorem qd_Z_init_93 : decode qc_Z_init 93 = .ok (.aload_n 0, 1) := by decide +kernel
theorem qd_Z_init_94 : decode qc_Z_init 94 = .ok (.bipush 64, 2) := by decide +kernel
theorem qd_Z_init_96 : decode qc_Z_init 96 = .ok (.newarray .int, 2) := by decide +kernel
theorem qd_Z_init_98 : decode qc_Z_init 98 = .ok (.putfield 44, 3) := by decide +kernel
theorem qd_Z_init_101 : decode qc_Z_init 101 = .ok (.aload_n 0, 1) := by decide +kernel
theorem qd_Z_init_102 : decode qc_Z_init 102 = .ok (.bipush 64, 2) := by decide +kernel
theorem qd_Z_init_104 : decode qc_Z_init 104 = .ok (.newarray .int, 2) := by decide +kernel
theorem qd_Z_init_106 : decode qc_Z_init 106 = .ok (.putfield 47, 3) := by decide +kernel
theorem qd_Z_init_109 : decode qc_Z_init 109 = .ok (.aload_n 0, 1) := by decide +kernel
theorem qd_Z_init_110 : decode qc_Z_init 110 = .ok (.bipush 8, 2) := by decide +kernel
theorem qd_Z_init_112 : decode qc_Z_init 112 = .ok (.newarray .int, 2) := by decide +kernel
theorem qd_Z_init_114 : decode qc_Z_init 114 = .ok (.putfield 50, 3) := by decide +kernel
theorem qd_Z_init_117 : decode qc_Z_init 117 = .ok (.aload_n 0, 1) := by decide +kernel
theorem qd_Z_init_118 : decode qc_Z_init 118 = .ok (.sipush 128, 3) := by decide +kernel
theorem qd_Z_init_121 : decode qc_Z_init 121 = .ok (.newarray .int, 2) := by decide +kernel
theorem qd_Z_init_123 : decode qc_Z_init 123 = .ok (.putfield 53, 3) := by decide +kernel
theorem qd_Z_init_126 : decode qc_Z_init 126 = .ok (.aload_n 0, 1) := by decide +kernel
theorem qd_Z_init_127 : decode qc_Z_init 127 = .ok (.bipush 8, 2) := by decide +kernel
theorem qd_Z_init_129 : decode qc_Z_init 129 = .ok (.newarray .boolean, 2) := by decide +kernel
theorem qd_Z_init_131 : decode qc_Z_init 131 = .ok (.putfield 56, 3) := by decide +kernel
theorem qd_Z_init_134 : decode qc_Z_init 134 = .ok (.aload_n 0, 1) := by decide +kernel
theorem qd_Z_init_135 : decode qc_Z_init 135 = .ok (.bipush 8, 2) := by decide +kernel
theorem qd_Z_init_137 : decode qc_Z_init 137 = .ok (.newarray .int, 2) := by decide +kernel
theorem qd_Z_init_139 : decode qc_Z_init 139 = .ok (.putfield 59, 3) := by decide +kernel
theorem qd_Z_init_142 : decode qc_Z_init 142 = .ok (.aload_n 0, 1) := by decide +kernel
theorem qd_Z_init_143 : decode qc_Z_init 143 = .ok (.bipush 8, 2) := by decide +kernel
theorem qd_Z_init_145 : decode qc_Z_init 145 = .ok (.newarray .int, 2) := by decide +kernel
theorem qd_Z_init_147 : decode qc_Z_init 147 = .ok (.putfield 62, 3) := by decide +kernel
theorem qd_Z_init_150 : decode qc_Z_init 150 = .ok (.aload_n 0, 1) := by decide +kernel
theorem qd_Z_init_151 : decode qc_Z_init 151 = .ok (.bipush 8, 2) := by decide +kernel
theorem qd_Z_init_153 : decode qc_Z_init 153 = .ok (.newarray .boolean, 2) := by decide +kernel
theorem qd_Z_init_155 : decode qc_Z_init 155 = .ok (.putfield 65, 3) := by decide +kernel
theorem qd_Z_init_158 : decode qc_Z_init 158 = .ok (.aload_n 0, 1) := by decide +kernel
theorem qd_Z_init_159 : decode qc_Z_init 159 = .ok (.bipush 8, 2) := by decide +kernel
theorem qd_Z_init_161 : decode qc_Z_init 161 = .ok (.newarray .int, 2) := by decide +kernel
theorem qd_Z_init_163 : decode qc_Z_init 163 = .ok (.putfield 68, 3) := by decide +kernel
theorem qd_Z_init_166 : decode qc_Z_init 166 = .ok (.aload_n 0, 1) := by decide +kernel
theorem qd_Z_init_167 : decode qc_Z_init 167 = .ok (.bipush 8, 2) := by decide +kernel
theorem qd_Z_init_169 : decode qc_Z_init 169 = .ok (.newarray .int, 2) := by decide +kernel
theorem qd_Z_init_171 : decode qc_Z_init 171 = .ok (.putfield 71, 3) := by decide +kernel
theorem qd_Z_init_174 : decode qc_Z_init 174 = .ok (.aload_n 0, 1) := by decide +kernel
theorem qd_Z_init_175 : decode qc_Z_init 175 = .ok (.bipush 8, 2) := by decide +kernel
theorem qd_Z_init_177 : decode qc_Z_init 177 = .ok (.newarray .int, 2) := by decide +kernel
theorem qd_Z_init_179 : decode qc_Z_init 179 = .ok (.putfield 74, 3) := by decide +kernel
theorem qd_Z_init_182 : decode qc_Z_init 182 = .ok (.aload_n 0, 1) := by decide +kernel
theorem qd_Z_init_183 : decode qc_Z_init 183 = .ok (.bipush 8, 2) := by decide +kernel
theorem qd_Z_init_185 : decode qc_Z_init 185 = .ok (.newarray .int, 2) := by decide +kernel
theorem qd_Z_init_187 : decode qc_Z_init 187 = .ok (.putfield 77, 3) := by decide +kernel
theorem qd_Z_init_190 : decode qc_Z_init 190 = .ok (.aload_n 0, 1) := by decide +kernel
theorem qd_Z_init_191 : decode qc_Z_init 191 = .ok (.bipush 8, 2) := by decide +kernel
theorem qd_Z_init_193 : decode qc_Z_init 193 = .ok (.newarray .int, 2) := by decide +kernel
theorem qd_Z_init_195 : decode qc_Z_init 195 = .ok (.putfield 80, 3) := by decide +kernel
theorem qd_Z_init_198 : decode qc_Z_init 198 = .ok (.aload_n 0, 1) := by decide +kernel
theorem qd_Z_init_199 : decode qc_Z_init 199 = .ok (.bipush 8, 2) := by decide +kernel
theorem qd_Z_init_201 : decode qc_Z_init 201 = .ok (.newarray .int, 2) := by decide +kernel
theorem qd_Z_init_203 : decode qc_Z_init 203 = .ok (.putfield 83, 3) := by decide +kernel
theorem qd_Z_init_206 : decode qc_Z_init 206 = .ok (.aload_n 0, 1) := by decide +kernel
theorem qd_Z_init_207 : decode qc_Z_init 207 = .ok (.iload_n 1, 1) := by decide +kernel
theorem qd_Z_init_208 : decode qc_Z_init 208 = .ok (.iconst 2, 1) := by decide +kernel
theorem qd_Z_init_209 : decode qc_Z_init 209 = .ok (.if_icmp .ge 7, 3) := by decide +kernel
theorem qd_Z_init_212 : decode qc_Z_init 212 = .ok (.iconst 2, 1) := by decide +kernel
theorem qd_Z_init_213 : decode qc_Z_init 213 = .ok (.goto 15, 3) := by decide +kernel
theorem qd_Z_init_216 : decode qc_Z_init 216 = .ok (.iload_n 1, 1) := by decide +kernel
theorem qd_Z_init_217 : decode qc_Z_init 217 = .ok (.bipush 8, 2) := by decide +kernel
theorem qd_Z_init_219 : decode qc_Z_init 219 = .ok (.if_icmp .le 8, 3) := by decide +kernel
theorem qd_Z_init_222 : decode qc_Z_init 222 = .ok (.bipush 8, 2) := by decide +kernel
theorem qd_Z_init_224 : decode qc_Z_init 224 = .ok (.goto 4, 3) := by decide +kernel
theorem qd_Z_init_227 : decode qc_Z_init 227 = .ok (.iload_n 1, 1) := by decide +kernel
theorem qd_Z_init_228 : decode qc_Z_init 228 = .ok (.putfield 86, 3) := by decide +kernel
theorem qd_Z_init_231 : decode qc_Z_init 231 = .ok (.return_, 1) := by decide +kernel
theorem qd_Z_start_0 : decode qc_Z_start 0 = .ok (.aload_n 0, 1) := by decide +kernel
theorem qd_Z_start_1 : decode qc_Z_start 1 = .ok (.iload_n 1, 1) := by decide +kernel
theorem qd_Z_start_2 : decode qc_Z_start 2 = .ok (.invokevirtual 90, 3) := by decide +kernel
theorem qd_Z_start_5 : decode qc_Z_start 5 = .ok (.ifCond .eq 20, 3) := by decide +kernel
theorem qd_Z_start_8 : decode qc_Z_start 8 = .ok (.aload_n 0, 1) := by decide +kernel
theorem qd_Z_start_9 : decode qc_Z_start 9 = .ok (.getfield 20, 3) := by decide +kernel
theorem qd_Z_start_12 : decode qc_Z_start 12 = .ok (.iload_n 1, 1) := by decide +kernel
theorem qd_Z_start_13 : decode qc_Z_start 13 = .ok (.baload, 1) := by decide +kernel
theorem qd_Z_start_14 : decode qc_Z_start 14 = .ok (.ifCond .ne 11, 3) := by decide +kernel
theorem qd_Z_start_17 : decode qc_Z_start 17 = .ok (.aload_n 0, 1) := by decide +kernel
theorem qd_Z_start_18 : decode qc_Z_start 18 = .ok (.iload_n 2, 1) := by decide +kernel
theorem qd_Z_start_19 : decode qc_Z_start 19 = .ok (.invokevirtual 90, 3) := by decide +kernel
theorem qd_Z_start_22 : decode qc_Z_start 22 = .ok (.ifCond .ne 5, 3) := by decide +kernel
theorem qd_Z_start_25 : decode qc_Z_start 25 = .ok (.iconst 0, 1) := by decide +kernel
theorem qd_Z_start_26 : decode qc_Z_start 26 = .ok (.ireturn, 1) := by decide +kernel
theorem qd_Z_start_27 : decode qc_Z_start 27 = .ok (.iconst 0, 1) := by decide +kernel
theorem qd_Z_start_28 : decode qc_Z_start 28 = .ok (.istore_n 3, 1) := by decide +kernel
theorem qd_Z_start_29 : decode qc_Z_start 29 = .ok (.iload_n 3, 1) := by decide +kernel
theorem qd_Z_start_30 : decode qc_Z_start 30 = .ok (.bipush 8, 2) := by decide +kernel
theorem qd_Z_start_32 : decode qc_Z_start 32 = .ok (.if_icmp .ge 69, 3) := by decide +kernel
theorem qd_Z_start_35 : decode qc_Z_start 35 = .ok (.aload_n 0, 1) := by decide +kernel
theorem qd_Z_start_36 : decode qc_Z_start 36 = .ok (.getfield 29, 3) := by decide +kernel
theorem qd_Z_start_39 : decode qc_Z_start 39 = .ok (.bipush 8, 2) := by decide +kernel
theorem qd_Z_start_41 : decode qc_Z_start 41 = .ok (.iload_n 1, 1) := by decide +kernel
theorem qd_Z_start_42 : decode qc_Z_start 42 = .ok (.imul, 1) := by decide +kernel
theorem qd_Z_start_43 : decode qc_Z_start 43 = .ok (.iload_n 3, 1) := by decide +kernel
theorem qd_Z_start_44 : decode qc_Z_start 44 = .ok (.iadd, 1) := by decide +kernel
theorem qd_Z_start_45 : decode qc_Z_start 45 = .ok (.iconst 0, 1) := by decide +kernel
theorem qd_Z_start_46 : decode qc_Z_start 46 = .ok (.iastore, 1) := by decide +kernel
theorem qd_Z_start_47 : decode qc_Z_start 47 = .ok (.aload_n 0, 1) := by decide +kernel
theorem qd_Z_start_48 : decode qc_Z_start 48 = .ok (.getfield 32, 3) := by decide +kernel
theorem qd_Z_start_51 : decode qc_Z_start 51 = .ok (.bipush 8, 2) := by decide +kernel
theorem qd_Z_start_53 : decode qc_Z_start 53 = .ok (.iload_n 1, 1) := by decide +kernel
theorem qd_Z_start_54 : decode qc_Z_start 54 = .ok (.imul, 1) := by decide +kernel
theorem qd_Z_start_55 : decode qc_Z_start 55 = .ok (.iload_n 3, 1) := by decide +kernel
theorem qd_Z_start_56 : decode qc_Z_start 56 = .ok (.iadd, 1) := by decide +kernel
theorem qd_Z_start_57 : decode qc_Z_start 57 = .ok (.iconst 0, 1) := by decide +kernel
theorem qd_Z_start_58 : decode qc_Z_start 58 = .ok (.iastore, 1) := by decide +kernel
theorem qd_Z_start_59 : decode qc_Z_start 59 = .ok (.aload_n 0, 1) := by decide +kernel
theorem qd_Z_start_60 : decode qc_Z_start 60 = .ok (.getfield 35, 3) := by decide +kernel
theorem qd_Z_start_63 : decode qc_Z_start 63 = .ok (.bipush 8, 2) := by decide +kernel
theorem qd_Z_start_65 : decode qc_Z_start 65 = .ok (.iload_n 1, 1) := by decide +kernel
theorem qd_Z_start_66 : decode qc_Z_start 66 = .ok (.imul, 1) := by decide +kernel
theorem qd_Z_start_67 : decode qc_Z_start 67 = .ok (.iload_n 3, 1) := by decide +kernel
theorem qd_Z_start_68 : decode qc_Z_start 68 = .ok (.iadd, 1) := by decide +kernel
theorem qd_Z_start_69 : decode qc_Z_start 69 = .ok (.iconst 0, 1) := by decide +kernel
theorem qd_Z_start_70 : decode qc_Z_start 70 = .ok (.iastore, 1) := by decide +kernel
theorem qd_Z_start_71 : decode qc_Z_start 71 = .ok (.aload_n 0, 1) := by decide +kernel
theorem qd_Z_start_72 : decode qc_Z_start 72 = .ok (.getfield 38, 3) := by decide +kernel
theorem qd_Z_start_75 : decode qc_Z_start 75 = .ok (.bipush 8, 2) := by decide +kernel
theorem qd_Z_start_77 : decode qc_Z_start 77 = .ok (.iload_n 1, 1) := by decide +kernel
theorem qd_Z_start_78 : decode qc_Z_start 78 = .ok (.imul, 1) := by decide +kernel
theorem qd_Z_start_79 : decode qc_Z_start 79 = .ok (.iload_n 3, 1) := by decide +kernel
theorem qd_Z_start_80 : decode qc_Z_start 80 = .ok (.iadd, 1) := by decide +kernel
theorem qd_Z_start_81 : decode qc_Z_start 81 = .ok (.iconst 0, 1) := by decide +kernel
theorem qd_Z_start_82 : decode qc_Z_start 82 = .ok (.iastore, 1) := by decide +kernel
theorem qd_Z_start_83 : decode qc_Z_start 83 = .ok (.aload_n 0, 1) := by decide +kernel
theorem qd_Z_start_84 : decode qc_Z_start 84 = .ok (.getfield 41, 3) := by decide +kernel
theorem qd_Z_start_87 : decode qc_Z_start 87 = .ok (.bipush 8, 2) := by decide +kernel
theorem qd_Z_start_89 : decode qc_Z_start 89 = .ok (.iload_n 1, 1) := by decide +kernel
theorem qd_Z_start_90 : decode qc_Z_start 90 = .ok (.imul, 1) := by decide +kernel
theorem qd_Z_start_91 : decode qc_Z_start 91 = .ok (.iload_n 3, 1) := by decide +kernel
theorem qd_Z_start_92 : decode qc_Z_start 92 = .ok (.iadd, 1) := by decide +kernel
theorem qd_Z_start_93 : decode qc_Z_start 93 = .ok (.iconst 0, 1) := by decide +kernel
theorem qd_Z_start_94 : decode qc_Z_start 94 = .ok (.iastore, 1) := by decide +kernel
theorem qd_Z_start_95 : decode qc_Z_start 95 = .ok (.iinc 3 1, 3) := by decide +kernel
theorem qd_Z_start_98 : decode qc_Z_start 98 = .ok (.goto (-69), 3) := by decide +kernel
theorem qd_Z_start_101 : decode qc_Z_start 101 = .ok (.aload_n 0, 1) := by decide +kernel
theorem qd_Z_start_102 : decode qc_Z_start 102 = .ok (.getfield 20, 3) := by decide +kernel
theorem qd_Z_start_105 : decode qc_Z_start 105 = .ok (.iload_n 1, 1) := by decide +kernel
theorem qd_Z_start_106 : decode qc_Z_start 106 = .ok (.iconst 1, 1) := by decide +kernel
theorem qd_Z_start_107 : decode qc_Z_start 107 = .ok (.bastore, 1) := by decide +kernel
theorem qd_Z_start_108 : decode qc_Z_start 108 = .ok (.aload_n 0, 1) := by decide +kernel
theorem qd_Z_start_109 : decode qc_Z_start 109 = .ok (.getfield 23, 3) := by decide +kernel
theorem qd_Z_start_112 : decode qc_Z_start 112 = .ok (.iload_n 1, 1) := by decide +kernel
theorem qd_Z_start_113 : decode qc_Z_start 113 = .ok (.aload_n 0, 1) := by decide +kernel
theorem qd_Z_start_114 : decode qc_Z_start 114 = .ok (.getfield 112, 3) := by decide +kernel
theorem qd_Z_start_117 : decode qc_Z_start 117 = .ok (.iastore, 1) := by decide +kernel
theorem qd_Z_start_118 : decode qc_Z_start 118 = .ok (.aload_n 0, 1) := by decide +kernel
theorem qd_Z_start_119 : decode qc_Z_start 119 = .ok (.getfield 26, 3) := by decide +kernel
theorem qd_Z_start_122 : decode qc_Z_start 122 = .ok (.iload_n 1, 1) := by decide +kernel
theorem qd_Z_start_123 : decode qc_Z_start 123 = .ok (.iconst 0, 1) := by decide +kernel
theorem qd_Z_start_124 : decode qc_Z_start 124 = .ok (.iastore, 1) := by decide +kernel
theorem qd_Z_start_125 : decode qc_Z_start 125 = .ok (.aload_n 0, 1) := by decide +kernel
theorem qd_Z_start_126 : decode qc_Z_start 126 = .ok (.getfield 50, 3) := by decide +kernel
theorem qd_Z_start_129 : decode qc_Z_start 129 = .ok (.iload_n 1, 1) := by decide +kernel
theorem qd_Z_start_130 : decode qc_Z_start 130 = .ok (.iconst 0, 1) := by decide +kernel
theorem qd_Z_start_131 : decode qc_Z_start 131 = .ok (.iastore, 1) := by decide +kernel
theorem qd_Z_start_132 : decode qc_Z_start 132 = .ok (.aload_n 0, 1) := by decide +kernel
theorem qd_Z_start_133 : decode qc_Z_start 133 = .ok (.getfield 56, 3) := by decide +kernel
theorem qd_Z_start_136 : decode qc_Z_start 136 = .ok (.iload_n 1, 1) := by decide +kernel
theorem qd_Z_start_137 : decode qc_Z_start 137 = .ok (.iconst 0, 1) := by decide +kernel
theorem qd_Z_start_138 : decode qc_Z_start 138 = .ok (.bastore, 1) := by decide +kernel
theorem qd_Z_start_139 : decode qc_Z_start 139 = .ok (.aload_n 0, 1) := by decide +kernel
theorem qd_Z_start_140 : decode qc_Z_start 140 = .ok (.getfield 68, 3) := by decide +kernel
theorem qd_Z_start_143 : decode qc_Z_start 143 = .ok (.iload_n 1, 1) := by decide +kernel
theorem qd_Z_start_144 : decode qc_Z_start 144 = .ok (.iconst 0, 1) := by decide +kernel
theorem qd_Z_start_145 : decode qc_Z_start 145 = .ok (.iastore, 1) := by decide +kernel
theorem qd_Z_start_146 : decode qc_Z_start 146 = .ok (.aload_n 0, 1) := by decide +kernel
theorem qd_Z_start_147 : decode qc_Z_start 147 = .ok (.getfield 71, 3) := by decide +kernel
theorem qd_Z_start_150 : decode qc_Z_start 150 = .ok (.iload_n 1, 1) := by decide +kernel
theorem qd_Z_start_151 : decode qc_Z_start 151 = .ok (.iconst 2, 1) := by decide +kernel
theorem qd_Z_start_152 : decode qc_Z_start 152 = .ok (.iastore, 1) := by decide +kernel
theorem qd_Z_start_153 : decode qc_Z_start 153 = .ok (.aload_n 0, 1) := by decide +kernel
theorem qd_Z_start_154 : decode qc_Z_start 154 = .ok (.getfield 80, 3) := by decide +kernel
theorem qd_Z_start_157 : decode qc_Z_start 157 = .ok (.iload_n 1, 1) := by decide +kernel
theorem qd_Z_start_158 : decode qc_Z_start 158 = .ok (.iload_n 1, 1) := by decide +kernel
theorem qd_Z_start_159 : decode qc_Z_start 159 = .ok (.iastore, 1) := by decide +kernel
theorem qd_Z_start_160 : decode qc_Z_start 160 = .ok (.aload_n 0, 1) := by decide +kernel
theorem qd_Z_start_161 : decode qc_Z_start 161 = .ok (.getfield 83, 3) := by decide +kernel
theorem qd_Z_start_164 : decode qc_Z_start 164 = .ok (.iload_n 1, 1) := by decide +kernel
theorem qd_Z_start_165 : decode qc_Z_start 165 = .ok (.iload_n 1, 1) := by decide +kernel
theorem qd_Z_start_166 : decode qc_Z_start 166 = .ok (.iastore, 1) := by decide +kernel
theorem qd_Z_start_167 : decode qc_Z_start 167 = .ok (.aload_n 0, 1) := by decide +kernel
theorem qd_Z_start_168 : decode qc_Z_start 168 = .ok (.iload_n 1, 1) := by decide +kernel
theorem qd_Z_start_169 : decode qc_Z_start 169 = .ok (.iload_n 1, 1) := by decide +kernel
theorem qd_Z_start_170 : decode qc_Z_start 170 = .ok (.iconst 1, 1) := by decide +kernel
theorem qd_Z_start_171 : decode qc_Z_start 171 = .ok (.iconst 0, 1) := by decide +kernel
theorem qd_Z_start_172 : decode qc_Z_start 172 = .ok (.iload_n 1, 1) := by decide +kernel
theorem qd_Z_start_173 : decode qc_Z_start 173 = .ok (.invokevirtual 119, 3) := by decide +kernel
theorem qd_Z_start_176 : decode qc_Z_start 176 = .ok (.iload_n 2, 1) := by decide +kernel
theorem qd_Z_start_177 : decode qc_Z_start 177 = .ok (.iload_n 1, 1) := by decide +kernel
theorem qd_Z_start_178 : decode qc_Z_start 178 = .ok (.if_icmp .eq 14, 3) := by decide +kernel
theorem qd_Z_start_181 : decode qc_Z_start 181 = .ok (.aload_n 0, 1) := by decide +kernel
theorem qd_Z_start_182 : decode qc_Z_start 182 = .ok (.bipush 6, 2) := by decide +kernel
theorem qd_Z_start_184 : decode qc_Z_start 184 = .ok (.iload_n 1, 1) := by decide +kernel
theorem qd_Z_start_185 : decode qc_Z_start 185 = .ok (.iload_n 2, 1) := by decide +kernel
theorem qd_Z_start_186 : decode qc_Z_start 186 = .ok (.iconst 0, 1) := by decide +kernel
theorem qd_Z_start_187 : decode qc_Z_start 187 = .ok (.iconst 0, 1) := by decide +kernel
theorem qd_Z_start_188 : decode qc_Z_start 188 = .ok (.iconst 0, 1) := by decide +kernel
theorem qd_Z_start_189 : decode qc_Z_start 189 = .ok (.invokevirtual 123, 3) := by decide +kernel
theorem qd_Z_start_192 : decode qc_Z_start 192 = .ok (.iconst 1, 1) := by decide +kernel
theorem qd_Z_start_193 : decode qc_Z_start 193 = .ok (.ireturn, 1) := by decide +kernel
theorem qd_Z_isNode_0 : decode qc_Z_isNode 0 = .ok (.iload_n 1, 1) := by decide +kernel
theorem qd_Z_isNode_1 : decode qc_Z_isNode 1 = .ok (.ifCond .lt 15, 3) := by decide +kernel
theorem qd_Z_isNode_4 : decode qc_Z_isNode 4 = .ok (.iload_n 1, 1) := by decide +kernel
theorem qd_Z_isNode_5 : decode qc_Z_isNode 5 = .ok (.aload_n 0, 1) := by decide +kernel
theorem qd_Z_isNode_6 : decode qc_Z_isNode 6 = .ok (.getfield 86, 3) := by decide +kernel
theorem qd_Z_isNode_9 : decode qc_Z_isNode 9 = .ok (.if_icmp .ge 7, 3) := by decide +kernel
theorem qd_Z_isNode_12 : decode qc_Z_isNode 12 = .ok (.iconst 1, 1) := by decide +kernel
theorem qd_Z_isNode_13 : decode qc_Z_isNode 13 = .ok (.goto 4, 3) := by decide +kernel
theorem qd_Z_isNode_16 : decode qc_Z_isNode 16 = .ok (.iconst 0, 1) := by decide +kernel
theorem qd_Z_isNode_17 : decode qc_Z_isNode 17 = .ok (.ireturn, 1) := by decide +kernel
theorem qd_Z_enter_0 : decode qc_Z_enter 0 = .ok (.bipush 8, 2) := by decide +kernel
theorem qd_Z_enter_2 : decode qc_Z_enter 2 = .ok (.iload_n 1, 1) := by decide +kernel
theorem qd_Z_enter_3 : decode qc_Z_enter 3 = .ok (.imul, 1) := by decide +kernel
theorem qd_Z_enter_4 : decode qc_Z_enter 4 = .ok (.iload_n 2, 1) := by decide +kernel
theorem qd_Z_enter_5 : decode qc_Z_enter 5 = .ok (.iadd, 1) := by decide +kernel
theorem qd_Z_enter_6 : decode qc_Z_enter 6 = .ok (.istore 6, 2) := by decide +kernel
theorem qd_Z_enter_8 : decode qc_Z_enter 8 = .ok (.aload_n 0, 1) := by decide +kernel
theorem qd_Z_enter_9 : decode qc_Z_enter 9 = .ok (.getfield 29, 3) := by decide +kernel
theorem qd_Z_enter_12 : decode qc_Z_enter 12 = .ok (.iload 6, 2) := by decide +kernel
theorem qd_Z_enter_14 : decode qc_Z_enter 14 = .ok (.iload_n 3, 1) := by decide +kernel
theorem qd_Z_enter_15 : decode qc_Z_enter 15 = .ok (.iastore, 1) := by decide +kernel
theorem qd_Z_enter_16 : decode qc_Z_enter 16 = .ok (.aload_n 0, 1) := by decide +kernel
theorem qd_Z_enter_17 : decode qc_Z_enter 17 = .ok (.getfield 32, 3) := by decide +kernel
theorem qd_Z_enter_20 : decode qc_Z_enter 20 = .ok (.iload 6, 2) := by decide +kernel
theorem qd_Z_enter_22 : decode qc_Z_enter 22 = .ok (.iload 4, 2) := by decide +kernel
theorem qd_Z_enter_24 : decode qc_Z_enter 24 = .ok (.iastore, 1) := by decide +kernel
theorem qd_Z_enter_25 : decode qc_Z_enter 25 = .ok (.aload_n 0, 1) := by decide +kernel
theorem qd_Z_enter_26 : decode qc_Z_enter 26 = .ok (.getfield 35, 3) := by decide +kernel
theorem qd_Z_enter_29 : decode qc_Z_enter 29 = .ok (.iload 6, 2) := by decide +kernel
theorem qd_Z_enter_31 : decode qc_Z_enter 31 = .ok (.aload_n 0, 1) := by decide +kernel
theorem qd_Z_enter_32 : decode qc_Z_enter 32 = .ok (.getfield 112, 3) := by decide +kernel
theorem qd_Z_enter_35 : decode qc_Z_enter 35 = .ok (.iastore, 1) := by decide +kernel
theorem qd_Z_enter_36 : decode qc_Z_enter 36 = .ok (.aload_n 0, 1) := by decide +kernel
theorem qd_Z_enter_37 : decode qc_Z_enter 37 = .ok (.getfield 38, 3) := by decide +kernel
theorem qd_Z_enter_40 : decode qc_Z_enter 40 = .ok (.iload 6, 2) := by decide +kernel
theorem qd_Z_enter_42 : decode qc_Z_enter 42 = .ok (.iload_n 3, 1) := by decide +kernel
theorem qd_Z_enter_43 : decode qc_Z_enter 43 = .ok (.iconst 2, 1) := by decide +kernel
theorem qd_Z_enter_44 : decode qc_Z_enter 44 = .ok (.if_icmp .ne 10, 3) := by decide +kernel
theorem qd_Z_enter_47 : decode qc_Z_enter 47 = .ok (.iconst 1, 1) := by decide +kernel
theorem qd_Z_enter_48 : decode qc_Z_enter 48 = .ok (.iload 5, 2) := by decide +kernel
theorem qd_Z_enter_50 : decode qc_Z_enter 50 = .ok (.ishl, 1) := by decide +kernel
theorem qd_Z_enter_51 : decode qc_Z_enter 51 = .ok (.goto 4, 3) := by decide +kernel
theorem qd_Z_enter_54 : decode qc_Z_enter 54 = .ok (.iconst 0, 1) := by decide +kernel
theorem qd_Z_enter_55 : decode qc_Z_enter 55 = .ok (.iastore, 1) := by decide +kernel
theorem qd_Z_enter_56 : decode qc_Z_enter 56 = .ok (.aload_n 0, 1) := by decide +kernel
theorem qd_Z_enter_57 : decode qc_Z_enter 57 = .ok (.iload_n 1, 1) := by decide +kernel
theorem qd_Z_enter_58 : decode qc_Z_enter 58 = .ok (.iload_n 2, 1) := by decide +kernel
theorem qd_Z_enter_59 : decode qc_Z_enter 59 = .ok (.iload_n 3, 1) := by decide +kernel
theorem qd_Z_enter_60 : decode qc_Z_enter 60 = .ok (.iload 4, 2) := by decide +kernel
theorem qd_Z_enter_62 : decode qc_Z_enter 62 = .ok (.invokevirtual 115, 3) := by decide +kernel
theorem qd_Z_enter_65 : decode qc_Z_enter 65 = .ok (.return_, 1) := by decide +kernel
theorem qd_Z_announce_0 : decode qc_Z_announce 0 = .ok (.aload_n 0, 1) := by decide +kernel
theorem qd_Z_announce_1 : decode qc_Z_announce 1 = .ok (.getfield 41, 3) := by decide +kernel
theorem qd_Z_announce_4 : decode qc_Z_announce 4 = .ok (.bipush 8, 2) := by decide +kernel
theorem qd_Z_announce_6 : decode qc_Z_announce 6 = .ok (.iload_n 1, 1) := by decide +kernel
theorem qd_Z_announce_7 : decode qc_Z_announce 7 = .ok (.imul, 1) := by decide +kernel
theorem qd_Z_announce_8 : decode qc_Z_announce 8 = .ok (.iload_n 2, 1) := by decide +kernel
theorem qd_Z_announce_9 : decode qc_Z_announce 9 = .ok (.iadd, 1) := by decide +kernel
theorem qd_Z_announce_10 : decode qc_Z_announce 10 = .ok (.iconst 4, 1) := by decide +kernel
theorem qd_Z_announce_11 : decode qc_Z_announce 11 = .ok (.iastore, 1) := by decide +kernel
theorem qd_Z_announce_12 : decode qc_Z_announce 12 = .ok (.aload_n 0, 1) := by decide +kernel
theorem qd_Z_announce_13 : decode qc_Z_announce 13 = .ok (.getfield 44, 3) := by decide +kernel
theorem qd_Z_announce_16 : decode qc_Z_announce 16 = .ok (.bipush 8, 2) := by decide +kernel
theorem qd_Z_announce_18 : decode qc_Z_announce 18 = .ok (.iload_n 1, 1) := by decide +kernel
theorem qd_Z_announce_19 : decode qc_Z_announce 19 = .ok (.imul, 1) := by decide +kernel
theorem qd_Z_announce_20 : decode qc_Z_announce 20 = .ok (.iload_n 2, 1) := by decide +kernel
theorem qd_Z_announce_21 : decode qc_Z_announce 21 = .ok (.iadd, 1) := by decide +kernel
theorem qd_Z_announce_22 : decode qc_Z_announce 22 = .ok (.iload_n 3, 1) := by decide +kernel
theorem qd_Z_announce_23 : decode qc_Z_announce 23 = .ok (.iastore, 1) := by decide +kernel
theorem qd_Z_announce_24 : decode qc_Z_announce 24 = .ok (.aload_n 0, 1) := by decide +kernel
theorem qd_Z_announce_25 : decode qc_Z_announce 25 = .ok (.getfield 47, 3) := by decide +kernel
theorem qd_Z_announce_28 : decode qc_Z_announce 28 = .ok (.bipush 8, 2) := by decide +kernel
theorem qd_Z_announce_30 : decode qc_Z_announce 30 = .ok (.iload_n 1, 1) := by decide +kernel
theorem qd_Z_announce_31 : decode qc_Z_announce 31 = .ok (.imul, 1) := by decide +kernel
theorem qd_Z_announce_32 : decode qc_Z_announce 32 = .ok (.iload_n 2, 1) := by decide +kernel
theorem qd_Z_announce_33 : decode qc_Z_announce 33 = .ok (.iadd, 1) := by decide +kernel
theorem qd_Z_announce_34 : decode qc_Z_announce 34 = .ok (.iload 4, 2) := by decide +kernel
theorem qd_Z_announce_36 : decode qc_Z_announce 36 = .ok (.iastore, 1) := by decide +kernel
theorem qd_Z_announce_37 : decode qc_Z_announce 37 = .ok (.return_, 1) := by decide +kernel
theorem qd_Z_send_0 : decode qc_Z_send 0 = .ok (.aload_n 0, 1) := by decide +kernel
theorem qd_Z_send_1 : decode qc_Z_send 1 = .ok (.getfield 13, 3) := by decide +kernel
theorem qd_Z_send_4 : decode qc_Z_send 4 = .ok (.iconst 0, 1) := by decide +kernel
theorem qd_Z_send_5 : decode qc_Z_send 5 = .ok (.iload_n 1, 1) := by decide +kernel
theorem qd_Z_send_6 : decode qc_Z_send 6 = .ok (.iastore, 1) := by decide +kernel
theorem qd_Z_send_7 : decode qc_Z_send 7 = .ok (.aload_n 0, 1) := by decide +kernel
theorem qd_Z_send_8 : decode qc_Z_send 8 = .ok (.getfield 13, 3) := by decide +kernel
theorem qd_Z_send_11 : decode qc_Z_send 11 = .ok (.iconst 1, 1) := by decide +kernel
theorem qd_Z_send_12 : decode qc_Z_send 12 = .ok (.iload_n 2, 1) := by decide +kernel
theorem qd_Z_send_13 : decode qc_Z_send 13 = .ok (.iastore, 1) := by decide +kernel
theorem qd_Z_send_14 : decode qc_Z_send 14 = .ok (.aload_n 0, 1) := by decide +kernel
theorem qd_Z_send_15 : decode qc_Z_send 15 = .ok (.getfield 13, 3) := by decide +kernel
theorem qd_Z_send_18 : decode qc_Z_send 18 = .ok (.iconst 2, 1) := by decide +kernel
theorem qd_Z_send_19 : decode qc_Z_send 19 = .ok (.iload_n 3, 1) := by decide +kernel
theorem qd_Z_send_20 : decode qc_Z_send 20 = .ok (.iastore, 1) := by decide +kernel
theorem qd_Z_send_21 : decode qc_Z_send 21 = .ok (.aload_n 0, 1) := by decide +kernel
theorem qd_Z_send_22 : decode qc_Z_send 22 = .ok (.getfield 13, 3) := by decide +kernel
theorem qd_Z_send_25 : decode qc_Z_send 25 = .ok (.iconst 3, 1) := by decide +kernel
theorem qd_Z_send_26 : decode qc_Z_send 26 = .ok (.iload 4, 2) := by decide +kernel
theorem qd_Z_send_28 : decode qc_Z_send 28 = .ok (.iastore, 1) := by decide +kernel
theorem qd_Z_send_29 : decode qc_Z_send 29 = .ok (.aload_n 0, 1) := by decide +kernel
theorem qd_Z_send_30 : decode qc_Z_send 30 = .ok (.getfield 13, 3) := by decide +kernel
theorem qd_Z_send_33 : decode qc_Z_send 33 = .ok (.iconst 4, 1) := by decide +kernel
theorem qd_Z_send_34 : decode qc_Z_send 34 = .ok (.iload 5, 2) := by decide +kernel
theorem qd_Z_send_36 : decode qc_Z_send 36 = .ok (.iastore, 1) := by decide +kernel
theorem qd_Z_send_37 : decode qc_Z_send 37 = .ok (.aload_n 0, 1) := by decide +kernel
theorem qd_Z_send_38 : decode qc_Z_send 38 = .ok (.getfield 13, 3) := by decide +kernel
theorem qd_Z_send_41 : decode qc_Z_send 41 = .ok (.iconst 5, 1) := by decide +kernel
theorem qd_Z_send_42 : decode qc_Z_send 42 = .ok (.iload 6, 2) := by decide +kernel
theorem qd_Z_send_44 : decode qc_Z_send 44 = .ok (.iastore, 1) := by decide +kernel
theorem qd_Z_send_45 : decode qc_Z_send 45 = .ok (.aload_n 0, 1) := by decide +kernel
theorem qd_Z_send_46 : decode qc_Z_send 46 = .ok (.getfield 13, 3) := by decide +kernel
theorem qd_Z_send_49 : decode qc_Z_send 49 = .ok (.bipush 6, 2) := by decide +kernel
theorem qd_Z_send_51 : decode qc_Z_send 51 = .ok (.iconst 0, 1) := by decide +kernel
theorem qd_Z_send_52 : decode qc_Z_send 52 = .ok (.iastore, 1) := by decide +kernel
theorem qd_Z_send_53 : decode qc_Z_send 53 = .ok (.iload_n 1, 1) := by decide +kernel
theorem qd_Z_send_54 : decode qc_Z_send 54 = .ok (.bipush 6, 2) := by decide +kernel
theorem qd_Z_send_56 : decode qc_Z_send 56 = .ok (.if_icmp .ge 11, 3) := by decide +kernel
theorem qd_Z_send_59 : decode qc_Z_send 59 = .ok (.aload_n 0, 1) := by decide +kernel
theorem qd_Z_send_60 : decode qc_Z_send 60 = .ok (.iload_n 2, 1) := by decide +kernel
theorem qd_Z_send_61 : decode qc_Z_send 61 = .ok (.invokevirtual 102, 3) := by decide +kernel
theorem qd_Z_send_64 : decode qc_Z_send 64 = .ok (.goto 8, 3) := by decide +kernel
theorem qd_Z_send_67 : decode qc_Z_send 67 = .ok (.aload_n 0, 1) := by decide +kernel
theorem qd_Z_send_68 : decode qc_Z_send 68 = .ok (.iload_n 2, 1) := by decide +kernel
theorem qd_Z_send_69 : decode qc_Z_send 69 = .ok (.invokevirtual 106, 3) := by decide +kernel
theorem qd_Z_send_72 : decode qc_Z_send 72 = .ok (.aload_n 0, 1) := by decide +kernel
theorem qd_Z_send_73 : decode qc_Z_send 73 = .ok (.getfield 109, 3) := by decide +kernel
theorem qd_Z_send_76 : decode qc_Z_send 76 = .ok (.bipush 60, 2) := by decide +kernel
theorem qd_Z_send_78 : decode qc_Z_send 78 = .ok (.if_icmp .ne 4, 3) := by decide +kernel
theorem qd_Z_send_81 : decode qc_Z_send 81 = .ok (.return_, 1) := by decide +kernel
theorem qd_Z_send_82 : decode qc_Z_send 82 = .ok (.iconst 0, 1) := by decide +kernel
theorem qd_Z_send_83 : decode qc_Z_send 83 = .ok (.istore 7, 2) := by decide +kernel
theorem qd_Z_send_85 : decode qc_Z_send 85 = .ok (.iload 7, 2) := by decide +kernel
theorem qd_Z_send_87 : decode qc_Z_send 87 = .ok (.bipush 32, 2) := by decide +kernel
theorem qd_Z_send_89 : decode qc_Z_send 89 = .ok (.if_icmp .ge 31, 3) := by decide +kernel
theorem qd_Z_send_92 : decode qc_Z_send 92 = .ok (.aload_n 0, 1) := by decide +kernel
theorem qd_Z_send_93 : decode qc_Z_send 93 = .ok (.getfield 7, 3) := by decide +kernel
theorem qd_Z_send_96 : decode qc_Z_send 96 = .ok (.bipush 32, 2) := by decide +kernel
theorem qd_Z_send_98 : decode qc_Z_send 98 = .ok (.aload_n 0, 1) := by decide +kernel
theorem qd_Z_send_99 : decode qc_Z_send 99 = .ok (.getfield 109, 3) := by decide +kernel
theorem qd_Z_send_102 : decode qc_Z_send 102 = .ok (.imul, 1) := by decide +kernel
theorem qd_Z_send_103 : decode qc_Z_send 103 = .ok (.iload 7, 2) := by decide +kernel
theorem qd_Z_send_105 : decode qc_Z_send 105 = .ok (.iadd, 1) := by decide +kernel
theorem qd_Z_send_106 : decode qc_Z_send 106 = .ok (.aload_n 0, 1) := by decide +kernel
theorem qd_Z_send_107 : decode qc_Z_send 107 = .ok (.getfield 13, 3) := by decide +kernel
theorem qd_Z_send_110 : decode qc_Z_send 110 = .ok (.iload 7, 2) := by decide +kernel
theorem qd_Z_send_112 : decode qc_Z_send 112 = .ok (.iaload, 1) := by decide +kernel
theorem qd_Z_send_113 : decode qc_Z_send 113 = .ok (.iastore, 1) := by decide +kernel
theorem qd_Z_send_114 : decode qc_Z_send 114 = .ok (.iinc 7 1, 3) := by decide +kernel
theorem qd_Z_send_117 : decode qc_Z_send 117 = .ok (.goto (-32), 3) := by decide +kernel
theorem qd_Z_send_120 : decode qc_Z_send 120 = .ok (.aload_n 0, 1) := by decide +kernel
theorem qd_Z_send_121 : decode qc_Z_send 121 = .ok (.dup, 1) := by decide +kernel
theorem qd_Z_send_122 : decode qc_Z_send 122 = .ok (.getfield 109, 3) := by decide +kernel
theorem qd_Z_send_125 : decode qc_Z_send 125 = .ok (.iconst 1, 1) := by decide +kernel
theorem qd_Z_send_126 : decode qc_Z_send 126 = .ok (.iadd, 1) := by decide +kernel
theorem qd_Z_send_127 : decode qc_Z_send 127 = .ok (.putfield 109, 3) := by decide +kernel
theorem qd_Z_send_130 : decode qc_Z_send 130 = .ok (.return_, 1) := by decide +kernel
theorem qd_Z_addQueued_0 : decode qc_Z_addQueued 0 = .ok (.iconst 0, 1) := by decide +kernel
theorem qd_Z_addQueued_1 : decode qc_Z_addQueued 1 = .ok (.istore_n 2, 1) := by decide +kernel
theorem qd_Z_addQueued_2 : decode qc_Z_addQueued 2 = .ok (.iload_n 2, 1) := by decide +kernel
theorem qd_Z_addQueued_3 : decode qc_Z_addQueued 3 = .ok (.iconst 3, 1) := by decide +kernel
theorem qd_Z_addQueued_4 : decode qc_Z_addQueued 4 = .ok (.if_icmp .ge 69, 3) := by decide +kernel
theorem qd_Z_addQueued_7 : decode qc_Z_addQueued 7 = .ok (.aload_n 0, 1) := by decide +kernel
theorem qd_Z_addQueued_8 : decode qc_Z_addQueued 8 = .ok (.iload_n 1, 1) := by decide +kernel
theorem qd_Z_addQueued_9 : decode qc_Z_addQueued 9 = .ok (.invokevirtual 94, 3) := by decide +kernel
theorem qd_Z_addQueued_12 : decode qc_Z_addQueued 12 = .ok (.istore_n 3, 1) := by decide +kernel
theorem qd_Z_addQueued_13 : decode qc_Z_addQueued 13 = .ok (.iload_n 3, 1) := by decide +kernel
theorem qd_Z_addQueued_14 : decode qc_Z_addQueued 14 = .ok (.ifCond .lt 53, 3) := by decide +kernel
theorem qd_Z_addQueued_17 : decode qc_Z_addQueued 17 = .ok (.aload_n 0, 1) := by decide +kernel
theorem qd_Z_addQueued_18 : decode qc_Z_addQueued 18 = .ok (.iload_n 3, 1) := by decide +kernel
theorem qd_Z_addQueued_19 : decode qc_Z_addQueued 19 = .ok (.aload_n 0, 1) := by decide +kernel
theorem qd_Z_addQueued_20 : decode qc_Z_addQueued 20 = .ok (.getfield 44, 3) := by decide +kernel
theorem qd_Z_addQueued_23 : decode qc_Z_addQueued 23 = .ok (.bipush 8, 2) := by decide +kernel
theorem qd_Z_addQueued_25 : decode qc_Z_addQueued 25 = .ok (.iload_n 1, 1) := by decide +kernel
theorem qd_Z_addQueued_26 : decode qc_Z_addQueued 26 = .ok (.imul, 1) := by decide +kernel
theorem qd_Z_addQueued_27 : decode qc_Z_addQueued 27 = .ok (.iload_n 3, 1) := by decide +kernel
theorem qd_Z_addQueued_28 : decode qc_Z_addQueued 28 = .ok (.iadd, 1) := by decide +kernel
theorem qd_Z_addQueued_29 : decode qc_Z_addQueued 29 = .ok (.iaload, 1) := by decide +kernel
theorem qd_Z_addQueued_30 : decode qc_Z_addQueued 30 = .ok (.aload_n 0, 1) := by decide +kernel
theorem qd_Z_addQueued_31 : decode qc_Z_addQueued 31 = .ok (.getfield 47, 3) := by decide +kernel
theorem qd_Z_addQueued_34 : decode qc_Z_addQueued 34 = .ok (.bipush 8, 2) := by decide +kernel
theorem qd_Z_addQueued_36 : decode qc_Z_addQueued 36 = .ok (.iload_n 1, 1) := by decide +kernel
theorem qd_Z_addQueued_37 : decode qc_Z_addQueued 37 = .ok (.imul, 1) := by decide +kernel
theorem qd_Z_addQueued_38 : decode qc_Z_addQueued 38 = .ok (.iload_n 3, 1) := by decide +kernel
theorem qd_Z_addQueued_39 : decode qc_Z_addQueued 39 = .ok (.iadd, 1) := by decide +kernel
theorem qd_Z_addQueued_40 : decode qc_Z_addQueued 40 = .ok (.iaload, 1) := by decide +kernel
theorem qd_Z_addQueued_41 : decode qc_Z_addQueued 41 = .ok (.invokevirtual 98, 3) := by decide +kernel
theorem qd_Z_addQueued_44 : decode qc_Z_addQueued 44 = .ok (.aload_n 0, 1) := by decide +kernel
theorem qd_Z_addQueued_45 : decode qc_Z_addQueued 45 = .ok (.getfield 41, 3) := by decide +kernel
theorem qd_Z_addQueued_48 : decode qc_Z_addQueued 48 = .ok (.bipush 8, 2) := by decide +kernel
theorem qd_Z_addQueued_50 : decode qc_Z_addQueued 50 = .ok (.iload_n 1, 1) := by decide +kernel
theorem qd_Z_addQueued_51 : decode qc_Z_addQueued 51 = .ok (.imul, 1) := by decide +kernel
theorem qd_Z_addQueued_52 : decode qc_Z_addQueued 52 = .ok (.iload_n 3, 1) := by decide +kernel
theorem qd_Z_addQueued_53 : decode qc_Z_addQueued 53 = .ok (.iadd, 1) := by decide +kernel
theorem qd_Z_addQueued_54 : decode qc_Z_addQueued 54 = .ok (.aload_n 0, 1) := by decide +kernel
theorem qd_Z_addQueued_55 : decode qc_Z_addQueued 55 = .ok (.getfield 41, 3) := by decide +kernel
theorem qd_Z_addQueued_58 : decode qc_Z_addQueued 58 = .ok (.bipush 8, 2) := by decide +kernel
theorem qd_Z_addQueued_60 : decode qc_Z_addQueued 60 = .ok (.iload_n 1, 1) := by decide +kernel
theorem qd_Z_addQueued_61 : decode qc_Z_addQueued 61 = .ok (.imul, 1) := by decide +kernel
theorem qd_Z_addQueued_62 : decode qc_Z_addQueued 62 = .ok (.iload_n 3, 1) := by decide +kernel
theorem qd_Z_addQueued_63 : decode qc_Z_addQueued 63 = .ok (.iadd, 1) := by decide +kernel
theorem qd_Z_addQueued_64 : decode qc_Z_addQueued 64 = .ok (.iaload, 1) := by decide +kernel
theorem qd_Z_addQueued_65 : decode qc_Z_addQueued 65 = .ok (.ineg, 1) := by decide +kernel
theorem qd_Z_addQueued_66 : decode qc_Z_addQueued 66 = .ok (.iastore, 1) := by decide +kernel
theorem qd_Z_addQueued_67 : decode qc_Z_addQueued 67 = .ok (.iinc 2 1, 3) := by decide +kernel
theorem qd_Z_addQueued_70 : decode qc_Z_addQueued 70 = .ok (.goto (-68), 3) := by decide +kernel
theorem qd_Z_addQueued_73 : decode qc_Z_addQueued 73 = .ok (.iconst 0, 1) := by decide +kernel
theorem qd_Z_addQueued_74 : decode qc_Z_addQueued 74 = .ok (.istore_n 2, 1) := by decide +kernel
theorem qd_Z_addQueued_75 : decode qc_Z_addQueued 75 = .ok (.iload_n 2, 1) := by decide +kernel
theorem qd_Z_addQueued_76 : decode qc_Z_addQueued 76 = .ok (.aload_n 0, 1) := by decide +kernel
theorem qd_Z_addQueued_77 : decode qc_Z_addQueued 77 = .ok (.getfield 86, 3) := by decide +kernel
theorem qd_Z_addQueued_80 : decode qc_Z_addQueued 80 = .ok (.if_icmp .ge 62, 3) := by decide +kernel
theorem qd_Z_addQueued_83 : decode qc_Z_addQueued 83 = .ok (.aload_n 0, 1) := by decide +kernel
theorem qd_Z_addQueued_84 : decode qc_Z_addQueued 84 = .ok (.getfield 41, 3) := by decide +kernel
theorem qd_Z_addQueued_87 : decode qc_Z_addQueued 87 = .ok (.bipush 8, 2) := by decide +kernel
theorem qd_Z_addQueued_89 : decode qc_Z_addQueued 89 = .ok (.iload_n 1, 1) := by decide +kernel
theorem qd_Z_addQueued_90 : decode qc_Z_addQueued 90 = .ok (.imul, 1) := by decide +kernel
theorem qd_Z_addQueued_91 : decode qc_Z_addQueued 91 = .ok (.iload_n 2, 1) := by decide +kernel
theorem qd_Z_addQueued_92 : decode qc_Z_addQueued 92 = .ok (.iadd, 1) := by decide +kernel
theorem qd_Z_addQueued_93 : decode qc_Z_addQueued 93 = .ok (.aload_n 0, 1) := by decide +kernel
theorem qd_Z_addQueued_94 : decode qc_Z_addQueued 94 = .ok (.getfield 41, 3) := by decide +kernel
theorem qd_Z_addQueued_97 : decode qc_Z_addQueued 97 = .ok (.bipush 8, 2) := by decide +kernel
theorem qd_Z_addQueued_99 : decode qc_Z_addQueued 99 = .ok (.iload_n 1, 1) := by decide +kernel
theorem qd_Z_addQueued_100 : decode qc_Z_addQueued 100 = .ok (.imul, 1) := by decide +kernel
theorem qd_Z_addQueued_101 : decode qc_Z_addQueued 101 = .ok (.iload_n 2, 1) := by decide +kernel
theorem qd_Z_addQueued_102 : decode qc_Z_addQueued 102 = .ok (.iadd, 1) := by decide +kernel
theorem qd_Z_addQueued_103 : decode qc_Z_addQueued 103 = .ok (.iaload, 1) := by decide +kernel
theorem qd_Z_addQueued_104 : decode qc_Z_addQueued 104 = .ok (.ifCond .ge 20, 3) := by decide +kernel
theorem qd_Z_addQueued_107 : decode qc_Z_addQueued 107 = .ok (.aload_n 0, 1) := by decide +kernel
theorem qd_Z_addQueued_108 : decode qc_Z_addQueued 108 = .ok (.getfield 41, 3) := by decide +kernel
theorem qd_Z_addQueued_111 : decode qc_Z_addQueued 111 = .ok (.bipush 8, 2) := by decide +kernel
theorem qd_Z_addQueued_113 : decode qc_Z_addQueued 113 = .ok (.iload_n 1, 1) := by decide +kernel
theorem qd_Z_addQueued_114 : decode qc_Z_addQueued 114 = .ok (.imul, 1) := by decide +kernel
theorem qd_Z_addQueued_115 : decode qc_Z_addQueued 115 = .ok (.iload_n 2, 1) := by decide +kernel
theorem qd_Z_addQueued_116 : decode qc_Z_addQueued 116 = .ok (.iadd, 1) := by decide +kernel
theorem qd_Z_addQueued_117 : decode qc_Z_addQueued 117 = .ok (.iaload, 1) := by decide +kernel
theorem qd_Z_addQueued_118 : decode qc_Z_addQueued 118 = .ok (.ineg, 1) := by decide +kernel
theorem qd_Z_addQueued_119 : decode qc_Z_addQueued 119 = .ok (.iconst 1, 1) := by decide +kernel
theorem qd_Z_addQueued_120 : decode qc_Z_addQueued 120 = .ok (.isub, 1) := by decide +kernel
theorem qd_Z_addQueued_121 : decode qc_Z_addQueued 121 = .ok (.goto 14, 3) := by decide +kernel
theorem qd_Z_addQueued_124 : decode qc_Z_addQueued 124 = .ok (.aload_n 0, 1) := by decide +kernel
theorem qd_Z_addQueued_125 : decode qc_Z_addQueued 125 = .ok (.getfield 41, 3) := by decide +kernel
theorem qd_Z_addQueued_128 : decode qc_Z_addQueued 128 = .ok (.bipush 8, 2) := by decide +kernel
theorem qd_Z_addQueued_130 : decode qc_Z_addQueued 130 = .ok (.iload_n 1, 1) := by decide +kernel
theorem qd_Z_addQueued_131 : decode qc_Z_addQueued 131 = .ok (.imul, 1) := by decide +kernel
theorem qd_Z_addQueued_132 : decode qc_Z_addQueued 132 = .ok (.iload_n 2, 1) := by decide +kernel
theorem qd_Z_addQueued_133 : decode qc_Z_addQueued 133 = .ok (.iadd, 1) := by decide +kernel
theorem qd_Z_addQueued_134 : decode qc_Z_addQueued 134 = .ok (.iaload, 1) := by decide +kernel
theorem qd_Z_addQueued_135 : decode qc_Z_addQueued 135 = .ok (.iastore, 1) := by decide +kernel
theorem qd_Z_addQueued_136 : decode qc_Z_addQueued 136 = .ok (.iinc 2 1, 3) := by decide +kernel
theorem qd_Z_addQueued_139 : decode qc_Z_addQueued 139 = .ok (.goto (-64), 3) := by decide +kernel
theorem qd_Z_addQueued_142 : decode qc_Z_addQueued 142 = .ok (.return_, 1) := by decide +kernel
theorem qd_Z_mostQueued_0 : decode qc_Z_mostQueued 0 = .ok (.iconst (-1), 1) := by decide +kernel
theorem qd_Z_mostQueued_1 : decode qc_Z_mostQueued 1 = .ok (.istore_n 2, 1) := by decide +kernel
theorem qd_Z_mostQueued_2 : decode qc_Z_mostQueued 2 = .ok (.iconst 0, 1) := by decide +kernel
theorem qd_Z_mostQueued_3 : decode qc_Z_mostQueued 3 = .ok (.istore_n 3, 1) := by decide +kernel
theorem qd_Z_mostQueued_4 : decode qc_Z_mostQueued 4 = .ok (.iload_n 3, 1) := by decide +kernel
theorem qd_Z_mostQueued_5 : decode qc_Z_mostQueued 5 = .ok (.aload_n 0, 1) := by decide +kernel
theorem qd_Z_mostQueued_6 : decode qc_Z_mostQueued 6 = .ok (.getfield 86, 3) := by decide +kernel
theorem qd_Z_mostQueued_9 : decode qc_Z_mostQueued 9 = .ok (.if_icmp .ge 58, 3) := by decide +kernel
theorem qd_Z_mostQueued_12 : decode qc_Z_mostQueued 12 = .ok (.aload_n 0, 1) := by decide +kernel
theorem qd_Z_mostQueued_13 : decode qc_Z_mostQueued 13 = .ok (.getfield 41, 3) := by decide +kernel
theorem qd_Z_mostQueued_16 : decode qc_Z_mostQueued 16 = .ok (.bipush 8, 2) := by decide +kernel
theorem qd_Z_mostQueued_18 : decode qc_Z_mostQueued 18 = .ok (.iload_n 1, 1) := by decide +kernel
theorem qd_Z_mostQueued_19 : decode qc_Z_mostQueued 19 = .ok (.imul, 1) := by decide +kernel
theorem qd_Z_mostQueued_20 : decode qc_Z_mostQueued 20 = .ok (.iload_n 3, 1) := by decide +kernel
theorem qd_Z_mostQueued_21 : decode qc_Z_mostQueued 21 = .ok (.iadd, 1) := by decide +kernel
theorem qd_Z_mostQueued_22 : decode qc_Z_mostQueued 22 = .ok (.iaload, 1) := by decide +kernel
theorem qd_Z_mostQueued_23 : decode qc_Z_mostQueued 23 = .ok (.ifCond .le 36, 3) := by decide +kernel
theorem qd_Z_mostQueued_26 : decode qc_Z_mostQueued 26 = .ok (.iload_n 2, 1) := by decide +kernel
theorem qd_Z_mostQueued_27 : decode qc_Z_mostQueued 27 = .ok (.ifCond .lt 28, 3) := by decide +kernel
theorem qd_Z_mostQueued_30 : decode qc_Z_mostQueued 30 = .ok (.aload_n 0, 1) := by decide +kernel
theorem qd_Z_mostQueued_31 : decode qc_Z_mostQueued 31 = .ok (.getfield 41, 3) := by decide +kernel
theorem qd_Z_mostQueued_34 : decode qc_Z_mostQueued 34 = .ok (.bipush 8, 2) := by decide +kernel
theorem qd_Z_mostQueued_36 : decode qc_Z_mostQueued 36 = .ok (.iload_n 1, 1) := by decide +kernel
theorem qd_Z_mostQueued_37 : decode qc_Z_mostQueued 37 = .ok (.imul, 1) := by decide +kernel
theorem qd_Z_mostQueued_38 : decode qc_Z_mostQueued 38 = .ok (.iload_n 3, 1) := by decide +kernel
theorem qd_Z_mostQueued_39 : decode qc_Z_mostQueued 39 = .ok (.iadd, 1) := by decide +kernel
theorem qd_Z_mostQueued_40 : decode qc_Z_mostQueued 40 = .ok (.iaload, 1) := by decide +kernel
theorem qd_Z_mostQueued_41 : decode qc_Z_mostQueued 41 = .ok (.aload_n 0, 1) := by decide +kernel
theorem qd_Z_mostQueued_42 : decode qc_Z_mostQueued 42 = .ok (.getfield 41, 3) := by decide +kernel
theorem qd_Z_mostQueued_45 : decode qc_Z_mostQueued 45 = .ok (.bipush 8, 2) := by decide +kernel
theorem qd_Z_mostQueued_47 : decode qc_Z_mostQueued 47 = .ok (.iload_n 1, 1) := by decide +kernel
theorem qd_Z_mostQueued_48 : decode qc_Z_mostQueued 48 = .ok (.imul, 1) := by decide +kernel
theorem qd_Z_mostQueued_49 : decode qc_Z_mostQueued 49 = .ok (.iload_n 2, 1) := by decide +kernel
theorem qd_Z_mostQueued_50 : decode qc_Z_mostQueued 50 = .ok (.iadd, 1) := by decide +kernel
theorem qd_Z_mostQueued_51 : decode qc_Z_mostQueued 51 = .ok (.iaload, 1) := by decide +kernel
theorem qd_Z_mostQueued_52 : decode qc_Z_mostQueued 52 = .ok (.if_icmp .le 7, 3) := by decide +kernel
theorem qd_Z_mostQueued_55 : decode qc_Z_mostQueued 55 = .ok (.iload_n 3, 1) := by decide +kernel
theorem qd_Z_mostQueued_56 : decode qc_Z_mostQueued 56 = .ok (.goto 4, 3) := by decide +kernel
theorem qd_Z_mostQueued_59 : decode qc_Z_mostQueued 59 = .ok (.iload_n 2, 1) := by decide +kernel
theorem qd_Z_mostQueued_60 : decode qc_Z_mostQueued 60 = .ok (.istore_n 2, 1) := by decide +kernel
theorem qd_Z_mostQueued_61 : decode qc_Z_mostQueued 61 = .ok (.iinc 3 1, 3) := by decide +kernel
theorem qd_Z_mostQueued_64 : decode qc_Z_mostQueued 64 = .ok (.goto (-60), 3) := by decide +kernel
theorem qd_Z_mostQueued_67 : decode qc_Z_mostQueued 67 = .ok (.iload_n 2, 1) := by decide +kernel
theorem qd_Z_mostQueued_68 : decode qc_Z_mostQueued 68 = .ok (.ireturn, 1) := by decide +kernel
theorem qd_Z_addNews_0 : decode qc_Z_addNews 0 = .ok (.bipush 7, 2) := by decide +kernel
theorem qd_Z_addNews_2 : decode qc_Z_addNews 2 = .ok (.iconst 3, 1) := by decide +kernel
theorem qd_Z_addNews_3 : decode qc_Z_addNews 3 = .ok (.aload_n 0, 1) := by decide +kernel
theorem qd_Z_addNews_4 : decode qc_Z_addNews 4 = .ok (.getfield 13, 3) := by decide +kernel
theorem qd_Z_addNews_7 : decode qc_Z_addNews 7 = .ok (.bipush 6, 2) := by decide +kernel
theorem qd_Z_addNews_9 : decode qc_Z_addNews 9 = .ok (.iaload, 1) := by decide +kernel
theorem qd_Z_addNews_10 : decode qc_Z_addNews 10 = .ok (.imul, 1) := by decide +kernel
theorem qd_Z_addNews_11 : decode qc_Z_addNews 11 = .ok (.iadd, 1) := by decide +kernel
theorem qd_Z_addNews_12 : decode qc_Z_addNews 12 = .ok (.istore 4, 2) := by decide +kernel
theorem qd_Z_addNews_14 : decode qc_Z_addNews 14 = .ok (.aload_n 0, 1) := by decide +kernel
theorem qd_Z_addNews_15 : decode qc_Z_addNews 15 = .ok (.getfield 13, 3) := by decide +kernel
theorem qd_Z_addNews_18 : decode qc_Z_addNews 18 = .ok (.iload 4, 2) := by decide +kernel
theorem qd_Z_addNews_20 : decode qc_Z_addNews 20 = .ok (.iload_n 1, 1) := by decide +kernel
theorem qd_Z_addNews_21 : decode qc_Z_addNews 21 = .ok (.iastore, 1) := by decide +kernel
theorem qd_Z_addNews_22 : decode qc_Z_addNews 22 = .ok (.aload_n 0, 1) := by decide +kernel
theorem qd_Z_addNews_23 : decode qc_Z_addNews 23 = .ok (.getfield 13, 3) := by decide +kernel
theorem qd_Z_addNews_26 : decode qc_Z_addNews 26 = .ok (.iload 4, 2) := by decide +kernel
theorem qd_Z_addNews_28 : decode qc_Z_addNews 28 = .ok (.iconst 1, 1) := by decide +kernel
theorem qd_Z_addNews_29 : decode qc_Z_addNews 29 = .ok (.iadd, 1) := by decide +kernel
theorem qd_Z_addNews_30 : decode qc_Z_addNews 30 = .ok (.iload_n 2, 1) := by decide +kernel
theorem qd_Z_addNews_31 : decode qc_Z_addNews 31 = .ok (.iastore, 1) := by decide +kernel
theorem qd_Z_addNews_32 : decode qc_Z_addNews 32 = .ok (.aload_n 0, 1) := by decide +kernel
theorem qd_Z_addNews_33 : decode qc_Z_addNews 33 = .ok (.getfield 13, 3) := by decide +kernel
theorem qd_Z_addNews_36 : decode qc_Z_addNews 36 = .ok (.iload 4, 2) := by decide +kernel
theorem qd_Z_addNews_38 : decode qc_Z_addNews 38 = .ok (.iconst 2, 1) := by decide +kernel
theorem qd_Z_addNews_39 : decode qc_Z_addNews 39 = .ok (.iadd, 1) := by decide +kernel
theorem qd_Z_addNews_40 : decode qc_Z_addNews 40 = .ok (.iload_n 3, 1) := by decide +kernel
theorem qd_Z_addNews_41 : decode qc_Z_addNews 41 = .ok (.iastore, 1) := by decide +kernel
theorem qd_Z_addNews_42 : decode qc_Z_addNews 42 = .ok (.aload_n 0, 1) := by decide +kernel
theorem qd_Z_addNews_43 : decode qc_Z_addNews 43 = .ok (.getfield 13, 3) := by decide +kernel
theorem qd_Z_addNews_46 : decode qc_Z_addNews 46 = .ok (.bipush 6, 2) := by decide +kernel
theorem qd_Z_addNews_48 : decode qc_Z_addNews 48 = .ok (.dup2, 1) := by decide +kernel
theorem qd_Z_addNews_49 : decode qc_Z_addNews 49 = .ok (.iaload, 1) := by decide +kernel
theorem qd_Z_addNews_50 : decode qc_Z_addNews 50 = .ok (.iconst 1, 1) := by decide +kernel
theorem qd_Z_addNews_51 : decode qc_Z_addNews 51 = .ok (.iadd, 1) := by decide +kernel
theorem qd_Z_addNews_52 : decode qc_Z_addNews 52 = .ok (.iastore, 1) := by decide +kernel
theorem qd_Z_addNews_53 : decode qc_Z_addNews 53 = .ok (.return_, 1) := by decide +kernel
theorem qd_Z_addTable_0 : decode qc_Z_addTable 0 = .ok (.iconst 0, 1) := by decide +kernel
theorem qd_Z_addTable_1 : decode qc_Z_addTable 1 = .ok (.istore_n 2, 1) := by decide +kernel
theorem qd_Z_addTable_2 : decode qc_Z_addTable 2 = .ok (.iload_n 2, 1) := by decide +kernel
theorem qd_Z_addTable_3 : decode qc_Z_addTable 3 = .ok (.aload_n 0, 1) := by decide +kernel
theorem qd_Z_addTable_4 : decode qc_Z_addTable 4 = .ok (.getfield 86, 3) := by decide +kernel
theorem qd_Z_addTable_7 : decode qc_Z_addTable 7 = .ok (.if_icmp .ge 50, 3) := by decide +kernel
theorem qd_Z_addTable_10 : decode qc_Z_addTable 10 = .ok (.aload_n 0, 1) := by decide +kernel
theorem qd_Z_addTable_11 : decode qc_Z_addTable 11 = .ok (.getfield 29, 3) := by decide +kernel
theorem qd_Z_addTable_14 : decode qc_Z_addTable 14 = .ok (.bipush 8, 2) := by decide +kernel
theorem qd_Z_addTable_16 : decode qc_Z_addTable 16 = .ok (.iload_n 1, 1) := by decide +kernel
theorem qd_Z_addTable_17 : decode qc_Z_addTable 17 = .ok (.imul, 1) := by decide +kernel
theorem qd_Z_addTable_18 : decode qc_Z_addTable 18 = .ok (.iload_n 2, 1) := by decide +kernel
theorem qd_Z_addTable_19 : decode qc_Z_addTable 19 = .ok (.iadd, 1) := by decide +kernel
theorem qd_Z_addTable_20 : decode qc_Z_addTable 20 = .ok (.iaload, 1) := by decide +kernel
theorem qd_Z_addTable_21 : decode qc_Z_addTable 21 = .ok (.ifCond .le 30, 3) := by decide +kernel
theorem qd_Z_addTable_24 : decode qc_Z_addTable 24 = .ok (.aload_n 0, 1) := by decide +kernel
theorem qd_Z_addTable_25 : decode qc_Z_addTable 25 = .ok (.iload_n 2, 1) := by decide +kernel
theorem qd_Z_addTable_26 : decode qc_Z_addTable 26 = .ok (.aload_n 0, 1) := by decide +kernel
theorem qd_Z_addTable_27 : decode qc_Z_addTable 27 = .ok (.getfield 29, 3) := by decide +kernel
theorem qd_Z_addTable_30 : decode qc_Z_addTable 30 = .ok (.bipush 8, 2) := by decide +kernel
theorem qd_Z_addTable_32 : decode qc_Z_addTable 32 = .ok (.iload_n 1, 1) := by decide +kernel
theorem qd_Z_addTable_33 : decode qc_Z_addTable 33 = .ok (.imul, 1) := by decide +kernel
theorem qd_Z_addTable_34 : decode qc_Z_addTable 34 = .ok (.iload_n 2, 1) := by decide +kernel
theorem qd_Z_addTable_35 : decode qc_Z_addTable 35 = .ok (.iadd, 1) := by decide +kernel
theorem qd_Z_addTable_36 : decode qc_Z_addTable 36 = .ok (.iaload, 1) := by decide +kernel
theorem qd_Z_addTable_37 : decode qc_Z_addTable 37 = .ok (.aload_n 0, 1) := by decide +kernel
theorem qd_Z_addTable_38 : decode qc_Z_addTable 38 = .ok (.getfield 32, 3) := by decide +kernel
theorem qd_Z_addTable_41 : decode qc_Z_addTable 41 = .ok (.bipush 8, 2) := by decide +kernel
theorem qd_Z_addTable_43 : decode qc_Z_addTable 43 = .ok (.iload_n 1, 1) := by decide +kernel
theorem qd_Z_addTable_44 : decode qc_Z_addTable 44 = .ok (.imul, 1) := by decide +kernel
theorem qd_Z_addTable_45 : decode qc_Z_addTable 45 = .ok (.iload_n 2, 1) := by decide +kernel
theorem qd_Z_addTable_46 : decode qc_Z_addTable 46 = .ok (.iadd, 1) := by decide +kernel
theorem qd_Z_addTable_47 : decode qc_Z_addTable 47 = .ok (.iaload, 1) := by decide +kernel
theorem qd_Z_addTable_48 : decode qc_Z_addTable 48 = .ok (.invokevirtual 98, 3) := by decide +kernel
theorem qd_Z_addTable_51 : decode qc_Z_addTable 51 = .ok (.iinc 2 1, 3) := by decide +kernel
theorem qd_Z_addTable_54 : decode qc_Z_addTable 54 = .ok (.goto (-52), 3) := by decide +kernel
theorem qd_Z_addTable_57 : decode qc_Z_addTable 57 = .ok (.return_, 1) := by decide +kernel
theorem qd_Z_crash_0 : decode qc_Z_crash 0 = .ok (.aload_n 0, 1) := by decide +kernel
theorem qd_Z_crash_1 : decode qc_Z_crash 1 = .ok (.iload_n 1, 1) := by decide +kernel
theorem qd_Z_crash_2 : decode qc_Z_crash 2 = .ok (.invokevirtual 127, 3) := by decide +kernel
theorem qd_Z_crash_5 : decode qc_Z_crash 5 = .ok (.ifCond .ne 5, 3) := by decide +kernel
theorem qd_Z_crash_8 : decode qc_Z_crash 8 = .ok (.iconst 0, 1) := by decide +kernel
theorem qd_Z_crash_9 : decode qc_Z_crash 9 = .ok (.ireturn, 1) := by decide +kernel
theorem qd_Z_crash_10 : decode qc_Z_crash 10 = .ok (.aload_n 0, 1) := by decide +kernel
theorem qd_Z_crash_11 : decode qc_Z_crash 11 = .ok (.getfield 20, 3) := by decide +kernel
theorem qd_Z_crash_14 : decode qc_Z_crash 14 = .ok (.iload_n 1, 1) := by decide +kernel
theorem qd_Z_crash_15 : decode qc_Z_crash 15 = .ok (.iconst 0, 1) := by decide +kernel
theorem qd_Z_crash_16 : decode qc_Z_crash 16 = .ok (.bastore, 1) := by decide +kernel
theorem qd_Z_crash_17 : decode qc_Z_crash 17 = .ok (.iconst 1, 1) := by decide +kernel
theorem qd_Z_crash_18 : decode qc_Z_crash 18 = .ok (.ireturn, 1) := by decide +kernel
theorem qd_Z_isRunning_0 : decode qc_Z_isRunning 0 = .ok (.aload_n 0, 1) := by decide +kernel
theorem qd_Z_isRunning_1 : decode qc_Z_isRunning 1 = .ok (.iload_n 1, 1) := by decide +kernel
theorem qd_Z_isRunning_2 : decode qc_Z_isRunning 2 = .ok (.invokevirtual 90, 3) := by decide +kernel
theorem qd_Z_isRunning_5 : decode qc_Z_isRunning 5 = .ok (.ifCond .eq 16, 3) := by decide +kernel
theorem qd_Z_isRunning_8 : decode qc_Z_isRunning 8 = .ok (.aload_n 0, 1) := by decide +kernel
theorem qd_Z_isRunning_9 : decode qc_Z_isRunning 9 = .ok (.getfield 20, 3) := by decide +kernel
theorem qd_Z_isRunning_12 : decode qc_Z_isRunning 12 = .ok (.iload_n 1, 1) := by decide +kernel
theorem qd_Z_isRunning_13 : decode qc_Z_isRunning 13 = .ok (.baload, 1) := by decide +kernel
theorem qd_Z_isRunning_14 : decode qc_Z_isRunning 14 = .ok (.ifCond .eq 7, 3) := by decide +kernel
theorem qd_Z_isRunning_17 : decode qc_Z_isRunning 17 = .ok (.iconst 1, 1) := by decide +kernel
theorem qd_Z_isRunning_18 : decode qc_Z_isRunning 18 = .ok (.goto 4, 3) := by decide +kernel
theorem qd_Z_isRunning_21 : decode qc_Z_isRunning 21 = .ok (.iconst 0, 1) := by decide +kernel
theorem qd_Z_isRunning_22 : decode qc_Z_isRunning 22 = .ok (.ireturn, 1) := by decide +kernel
theorem qd_Z_leave_0 : decode qc_Z_leave 0 = .ok (.aload_n 0, 1) := by decide +kernel
theorem qd_Z_leave_1 : decode qc_Z_leave 1 = .ok (.iload_n 1, 1) := by decide +kernel
theorem qd_Z_leave_2 : decode qc_Z_leave 2 = .ok (.invokevirtual 127, 3) := by decide +kernel
theorem qd_Z_leave_5 : decode qc_Z_leave 5 = .ok (.ifCond .ne 5, 3) := by decide +kernel
theorem qd_Z_leave_8 : decode qc_Z_leave 8 = .ok (.iconst 0, 1) := by decide +kernel
theorem qd_Z_leave_9 : decode qc_Z_leave 9 = .ok (.ireturn, 1) := by decide +kernel
theorem qd_Z_leave_10 : decode qc_Z_leave 10 = .ok (.aload_n 0, 1) := by decide +kernel
theorem qd_Z_leave_11 : decode qc_Z_leave 11 = .ok (.iload_n 1, 1) := by decide +kernel
theorem qd_Z_leave_12 : decode qc_Z_leave 12 = .ok (.iload_n 1, 1) := by decide +kernel
theorem qd_Z_leave_13 : decode qc_Z_leave 13 = .ok (.iconst 3, 1) := by decide +kernel
theorem qd_Z_leave_14 : decode qc_Z_leave 14 = .ok (.aload_n 0, 1) := by decide +kernel
theorem qd_Z_leave_15 : decode qc_Z_leave 15 = .ok (.getfield 32, 3) := by decide +kernel
theorem qd_Z_leave_18 : decode qc_Z_leave 18 = .ok (.bipush 9, 2) := by decide +kernel
theorem qd_Z_leave_20 : decode qc_Z_leave 20 = .ok (.iload_n 1, 1) := by decide +kernel
theorem qd_Z_leave_21 : decode qc_Z_leave 21 = .ok (.imul, 1) := by decide +kernel
theorem qd_Z_leave_22 : decode qc_Z_leave 22 = .ok (.iaload, 1) := by decide +kernel
theorem qd_Z_leave_23 : decode qc_Z_leave 23 = .ok (.invokevirtual 115, 3) := by decide +kernel
theorem qd_Z_leave_26 : decode qc_Z_leave 26 = .ok (.iconst 0, 1) := by decide +kernel
theorem qd_Z_leave_27 : decode qc_Z_leave 27 = .ok (.istore_n 2, 1) := by decide +kernel
theorem qd_Z_leave_28 : decode qc_Z_leave 28 = .ok (.iload_n 2, 1) := by decide +kernel
theorem qd_Z_leave_29 : decode qc_Z_leave 29 = .ok (.aload_n 0, 1) := by decide +kernel
theorem qd_Z_leave_30 : decode qc_Z_leave 30 = .ok (.getfield 86, 3) := by decide +kernel
theorem qd_Z_leave_33 : decode qc_Z_leave 33 = .ok (.if_icmp .ge 39, 3) := by decide +kernel
theorem qd_Z_leave_36 : decode qc_Z_leave 36 = .ok (.iload_n 2, 1) := by decide +kernel
theorem qd_Z_leave_37 : decode qc_Z_leave 37 = .ok (.iload_n 1, 1) := by decide +kernel
theorem qd_Z_leave_38 : decode qc_Z_leave 38 = .ok (.if_icmp .eq 28, 3) := by decide +kernel
theorem qd_Z_leave_41 : decode qc_Z_leave 41 = .ok (.aload_n 0, 1) := by decide +kernel
theorem qd_Z_leave_42 : decode qc_Z_leave 42 = .ok (.getfield 29, 3) := by decide +kernel
theorem qd_Z_leave_45 : decode qc_Z_leave 45 = .ok (.bipush 8, 2) := by decide +kernel
theorem qd_Z_leave_47 : decode qc_Z_leave 47 = .ok (.iload_n 1, 1) := by decide +kernel
theorem qd_Z_leave_48 : decode qc_Z_leave 48 = .ok (.imul, 1) := by decide +kernel
theorem qd_Z_leave_49 : decode qc_Z_leave 49 = .ok (.iload_n 2, 1) := by decide +kernel
theorem qd_Z_leave_50 : decode qc_Z_leave 50 = .ok (.iadd, 1) := by decide +kernel
theorem qd_Z_leave_51 : decode qc_Z_leave 51 = .ok (.iaload, 1) := by decide +kernel
theorem qd_Z_leave_52 : decode qc_Z_leave 52 = .ok (.iconst 1, 1) := by decide +kernel
theorem qd_Z_leave_53 : decode qc_Z_leave 53 = .ok (.if_icmp .ne 13, 3) := by decide +kernel
theorem qd_Z_leave_56 : decode qc_Z_leave 56 = .ok (.aload_n 0, 1) := by decide +kernel
theorem qd_Z_leave_57 : decode qc_Z_leave 57 = .ok (.iconst 5, 1) := by decide +kernel
theorem qd_Z_leave_58 : decode qc_Z_leave 58 = .ok (.iload_n 1, 1) := by decide +kernel
theorem qd_Z_leave_59 : decode qc_Z_leave 59 = .ok (.iload_n 2, 1) := by decide +kernel
theorem qd_Z_leave_60 : decode qc_Z_leave 60 = .ok (.iconst 0, 1) := by decide +kernel
theorem qd_Z_leave_61 : decode qc_Z_leave 61 = .ok (.iconst 0, 1) := by decide +kernel
theorem qd_Z_leave_62 : decode qc_Z_leave 62 = .ok (.iconst 0, 1) := by decide +kernel
theorem qd_Z_leave_63 : decode qc_Z_leave 63 = .ok (.invokevirtual 123, 3) := by decide +kernel
theorem qd_Z_leave_66 : decode qc_Z_leave 66 = .ok (.iinc 2 1, 3) := by decide +kernel
theorem qd_Z_leave_69 : decode qc_Z_leave 69 = .ok (.goto (-41), 3) := by decide +kernel
theorem qd_Z_leave_72 : decode qc_Z_leave 72 = .ok (.aload_n 0, 1) := by decide +kernel
theorem qd_Z_leave_73 : decode qc_Z_leave 73 = .ok (.getfield 20, 3) := by decide +kernel
theorem qd_Z_leave_76 : decode qc_Z_leave 76 = .ok (.iload_n 1, 1) := by decide +kernel
theorem qd_Z_leave_77 : decode qc_Z_leave 77 = .ok (.iconst 0, 1) := by decide +kernel
theorem qd_Z_leave_78 : decode qc_Z_leave 78 = .ok (.bastore, 1) := by decide +kernel
theorem qd_Z_leave_79 : decode qc_Z_leave 79 = .ok (.iconst 1, 1) := by decide +kernel
theorem qd_Z_leave_80 : decode qc_Z_leave 80 = .ok (.ireturn, 1) := by decide +kernel
theorem qd_Z_cut_0 : decode qc_Z_cut 0 = .ok (.aload_n 0, 1) := by decide +kernel
theorem qd_Z_cut_1 : decode qc_Z_cut 1 = .ok (.iload_n 1, 1) := by decide +kernel
theorem qd_Z_cut_2 : decode qc_Z_cut 2 = .ok (.invokevirtual 90, 3) := by decide +kernel
theorem qd_Z_cut_5 : decode qc_Z_cut 5 = .ok (.ifCond .eq 31, 3) := by decide +kernel
theorem qd_Z_cut_8 : decode qc_Z_cut 8 = .ok (.aload_n 0, 1) := by decide +kernel
theorem qd_Z_cut_9 : decode qc_Z_cut 9 = .ok (.iload_n 2, 1) := by decide +kernel
theorem qd_Z_cut_10 : decode qc_Z_cut 10 = .ok (.invokevirtual 90, 3) := by decide +kernel
theorem qd_Z_cut_13 : decode qc_Z_cut 13 = .ok (.ifCond .eq 23, 3) := by decide +kernel
theorem qd_Z_cut_16 : decode qc_Z_cut 16 = .ok (.iload_n 1, 1) := by decide +kernel
theorem qd_Z_cut_17 : decode qc_Z_cut 17 = .ok (.iload_n 2, 1) := by decide +kernel
theorem qd_Z_cut_18 : decode qc_Z_cut 18 = .ok (.if_icmp .eq 18, 3) := by decide +kernel
theorem qd_Z_cut_21 : decode qc_Z_cut 21 = .ok (.aload_n 0, 1) := by decide +kernel
theorem qd_Z_cut_22 : decode qc_Z_cut 22 = .ok (.getfield 16, 3) := by decide +kernel
theorem qd_Z_cut_25 : decode qc_Z_cut 25 = .ok (.bipush 8, 2) := by decide +kernel
theorem qd_Z_cut_27 : decode qc_Z_cut 27 = .ok (.iload_n 1, 1) := by decide +kernel
theorem qd_Z_cut_28 : decode qc_Z_cut 28 = .ok (.imul, 1) := by decide +kernel
theorem qd_Z_cut_29 : decode qc_Z_cut 29 = .ok (.iload_n 2, 1) := by decide +kernel
theorem qd_Z_cut_30 : decode qc_Z_cut 30 = .ok (.iadd, 1) := by decide +kernel
theorem qd_Z_cut_31 : decode qc_Z_cut 31 = .ok (.baload, 1) := by decide +kernel
theorem qd_Z_cut_32 : decode qc_Z_cut 32 = .ok (.iload_n 3, 1) := by decide +kernel
theorem qd_Z_cut_33 : decode qc_Z_cut 33 = .ok (.if_icmp .ne 5, 3) := by decide +kernel
theorem qd_Z_cut_36 : decode qc_Z_cut 36 = .ok (.iconst 0, 1) := by decide +kernel
theorem qd_Z_cut_37 : decode qc_Z_cut 37 = .ok (.ireturn, 1) := by decide +kernel
theorem qd_Z_cut_38 : decode qc_Z_cut 38 = .ok (.aload_n 0, 1) := by decide +kernel
theorem qd_Z_cut_39 : decode qc_Z_cut 39 = .ok (.getfield 16, 3) := by decide +kernel
theorem qd_Z_cut_42 : decode qc_Z_cut 42 = .ok (.bipush 8, 2) := by decide +kernel
theorem qd_Z_cut_44 : decode qc_Z_cut 44 = .ok (.iload_n 1, 1) := by decide +kernel
theorem qd_Z_cut_45 : decode qc_Z_cut 45 = .ok (.imul, 1) := by decide +kernel
theorem qd_Z_cut_46 : decode qc_Z_cut 46 = .ok (.iload_n 2, 1) := by decide +kernel
theorem qd_Z_cut_47 : decode qc_Z_cut 47 = .ok (.iadd, 1) := by decide +kernel
theorem qd_Z_cut_48 : decode qc_Z_cut 48 = .ok (.iload_n 3, 1) := by decide +kernel
theorem qd_Z_cut_49 : decode qc_Z_cut 49 = .ok (.bastore, 1) := by decide +kernel
theorem qd_Z_cut_50 : decode qc_Z_cut 50 = .ok (.aload_n 0, 1) := by decide +kernel
theorem qd_Z_cut_51 : decode qc_Z_cut 51 = .ok (.getfield 16, 3) := by decide +kernel
theorem qd_Z_cut_54 : decode qc_Z_cut 54 = .ok (.bipush 8, 2) := by decide +kernel
theorem qd_Z_cut_56 : decode qc_Z_cut 56 = .ok (.iload_n 2, 1) := by decide +kernel
theorem qd_Z_cut_57 : decode qc_Z_cut 57 = .ok (.imul, 1) := by decide +kernel
theorem qd_Z_cut_58 : decode qc_Z_cut 58 = .ok (.iload_n 1, 1) := by decide +kernel
theorem qd_Z_cut_59 : decode qc_Z_cut 59 = .ok (.iadd, 1) := by decide +kernel
theorem qd_Z_cut_60 : decode qc_Z_cut 60 = .ok (.iload_n 3, 1) := by decide +kernel
theorem qd_Z_cut_61 : decode qc_Z_cut 61 = .ok (.bastore, 1) := by decide +kernel
theorem qd_Z_cut_62 : decode qc_Z_cut 62 = .ok (.iconst 1, 1) := by decide +kernel
theorem qd_Z_cut_63 : decode qc_Z_cut 63 = .ok (.ireturn, 1) := by decide +kernel
theorem qd_Z_drop_0 : decode qc_Z_drop 0 = .ok (.iload_n 1, 1) := by decide +kernel
theorem qd_Z_drop_1 : decode qc_Z_drop 1 = .ok (.ifCond .lt 11, 3) := by decide +kernel
theorem qd_Z_drop_4 : decode qc_Z_drop 4 = .ok (.iload_n 1, 1) := by decide +kernel
theorem qd_Z_drop_5 : decode qc_Z_drop 5 = .ok (.aload_n 0, 1) := by decide +kernel
theorem qd_Z_drop_6 : decode qc_Z_drop 6 = .ok (.getfield 109, 3) := by decide +kernel
theorem qd_Z_drop_9 : decode qc_Z_drop 9 = .ok (.if_icmp .lt 5, 3) := by decide +kernel
theorem qd_Z_drop_12 : decode qc_Z_drop 12 = .ok (.iconst 0, 1) := by decide +kernel
theorem qd_Z_drop_13 : decode qc_Z_drop 13 = .ok (.ireturn, 1) := by decide +kernel
theorem qd_Z_drop_14 : decode qc_Z_drop 14 = .ok (.aload_n 0, 1) := by decide +kernel
theorem qd_Z_drop_15 : decode qc_Z_drop 15 = .ok (.iload_n 1, 1) := by decide +kernel
theorem qd_Z_drop_16 : decode qc_Z_drop 16 = .ok (.invokevirtual 130, 3) := by decide +kernel
theorem qd_Z_drop_19 : decode qc_Z_drop 19 = .ok (.iconst 1, 1) := by decide +kernel
theorem qd_Z_drop_20 : decode qc_Z_drop 20 = .ok (.ireturn, 1) := by decide +kernel
theorem qd_Z_remove_0 : decode qc_Z_remove 0 = .ok (.aload_n 0, 1) := by decide +kernel
theorem qd_Z_remove_1 : decode qc_Z_remove 1 = .ok (.dup, 1) := by decide +kernel
theorem qd_Z_remove_2 : decode qc_Z_remove 2 = .ok (.getfield 109, 3) := by decide +kernel
theorem qd_Z_remove_5 : decode qc_Z_remove 5 = .ok (.iconst 1, 1) := by decide +kernel
theorem qd_Z_remove_6 : decode qc_Z_remove 6 = .ok (.isub, 1) := by decide +kernel
theorem qd_Z_remove_7 : decode qc_Z_remove 7 = .ok (.putfield 109, 3) := by decide +kernel
theorem qd_Z_remove_10 : decode qc_Z_remove 10 = .ok (.bipush 32, 2) := by decide +kernel
theorem qd_Z_remove_12 : decode qc_Z_remove 12 = .ok (.iload_n 1, 1) := by decide +kernel
theorem qd_Z_remove_13 : decode qc_Z_remove 13 = .ok (.imul, 1) := by decide +kernel
theorem qd_Z_remove_14 : decode qc_Z_remove 14 = .ok (.istore_n 2, 1) := by decide +kernel
theorem qd_Z_remove_15 : decode qc_Z_remove 15 = .ok (.iload_n 2, 1) := by decide +kernel
theorem qd_Z_remove_16 : decode qc_Z_remove 16 = .ok (.bipush 32, 2) := by decide +kernel
theorem qd_Z_remove_18 : decode qc_Z_remove 18 = .ok (.aload_n 0, 1) := by decide +kernel
theorem qd_Z_remove_19 : decode qc_Z_remove 19 = .ok (.getfield 109, 3) := by decide +kernel
theorem qd_Z_remove_22 : decode qc_Z_remove 22 = .ok (.imul, 1) := by decide +kernel
theorem qd_Z_remove_23 : decode qc_Z_remove 23 = .ok (.if_icmp .ge 24, 3) := by decide +kernel
theorem qd_Z_remove_26 : decode qc_Z_remove 26 = .ok (.aload_n 0, 1) := by decide +kernel
theorem qd_Z_remove_27 : decode qc_Z_remove 27 = .ok (.getfield 7, 3) := by decide +kernel
theorem qd_Z_remove_30 : decode qc_Z_remove 30 = .ok (.iload_n 2, 1) := by decide +kernel
theorem qd_Z_remove_31 : decode qc_Z_remove 31 = .ok (.aload_n 0, 1) := by decide +kernel
theorem qd_Z_remove_32 : decode qc_Z_remove 32 = .ok (.getfield 7, 3) := by decide +kernel
theorem qd_Z_remove_35 : decode qc_Z_remove 35 = .ok (.iload_n 2, 1) := by decide +kernel
theorem qd_Z_remove_36 : decode qc_Z_remove 36 = .ok (.bipush 32, 2) := by decide +kernel
theorem qd_Z_remove_38 : decode qc_Z_remove 38 = .ok (.iadd, 1) := by decide +kernel
theorem qd_Z_remove_39 : decode qc_Z_remove 39 = .ok (.iaload, 1) := by decide +kernel
theorem qd_Z_remove_40 : decode qc_Z_remove 40 = .ok (.iastore, 1) := by decide +kernel
theorem qd_Z_remove_41 : decode qc_Z_remove 41 = .ok (.iinc 2 1, 3) := by decide +kernel
theorem qd_Z_remove_44 : decode qc_Z_remove 44 = .ok (.goto (-29), 3) := by decide +kernel
theorem qd_Z_remove_47 : decode qc_Z_remove 47 = .ok (.return_, 1) := by decide +kernel
theorem qd_Z_swap_0 : decode qc_Z_swap 0 = .ok (.iload_n 1, 1) := by decide +kernel
theorem qd_Z_swap_1 : decode qc_Z_swap 1 = .ok (.ifCond .lt 13, 3) := by decide +kernel
theorem qd_Z_swap_4 : decode qc_Z_swap 4 = .ok (.iload_n 1, 1) := by decide +kernel
theorem qd_Z_swap_5 : decode qc_Z_swap 5 = .ok (.aload_n 0, 1) := by decide +kernel
theorem qd_Z_swap_6 : decode qc_Z_swap 6 = .ok (.getfield 109, 3) := by decide +kernel
theorem qd_Z_swap_9 : decode qc_Z_swap 9 = .ok (.iconst 1, 1) := by decide +kernel
theorem qd_Z_swap_10 : decode qc_Z_swap 10 = .ok (.isub, 1) := by decide +kernel
theorem qd_Z_swap_11 : decode qc_Z_swap 11 = .ok (.if_icmp .lt 5, 3) := by decide +kernel
theorem qd_Z_swap_14 : decode qc_Z_swap 14 = .ok (.iconst 0, 1) := by decide +kernel
theorem qd_Z_swap_15 : decode qc_Z_swap 15 = .ok (.ireturn, 1) := by decide +kernel
theorem qd_Z_swap_16 : decode qc_Z_swap 16 = .ok (.bipush 32, 2) := by decide +kernel
theorem qd_Z_swap_18 : decode qc_Z_swap 18 = .ok (.iload_n 1, 1) := by decide +kernel
theorem qd_Z_swap_19 : decode qc_Z_swap 19 = .ok (.imul, 1) := by decide +kernel
theorem qd_Z_swap_20 : decode qc_Z_swap 20 = .ok (.istore_n 2, 1) := by decide +kernel
theorem qd_Z_swap_21 : decode qc_Z_swap 21 = .ok (.iload_n 2, 1) := by decide +kernel
theorem qd_Z_swap_22 : decode qc_Z_swap 22 = .ok (.bipush 32, 2) := by decide +kernel
theorem qd_Z_swap_24 : decode qc_Z_swap 24 = .ok (.iload_n 1, 1) := by decide +kernel
theorem qd_Z_swap_25 : decode qc_Z_swap 25 = .ok (.imul, 1) := by decide +kernel
theorem qd_Z_swap_26 : decode qc_Z_swap 26 = .ok (.bipush 32, 2) := by decide +kernel
theorem qd_Z_swap_28 : decode qc_Z_swap 28 = .ok (.iadd, 1) := by decide +kernel
theorem qd_Z_swap_29 : decode qc_Z_swap 29 = .ok (.if_icmp .ge 41, 3) := by decide +kernel
theorem qd_Z_swap_32 : decode qc_Z_swap 32 = .ok (.aload_n 0, 1) := by decide +kernel
theorem qd_Z_swap_33 : decode qc_Z_swap 33 = .ok (.getfield 7, 3) := by decide +kernel
theorem qd_Z_swap_36 : decode qc_Z_swap 36 = .ok (.iload_n 2, 1) := by decide +kernel
theorem qd_Z_swap_37 : decode qc_Z_swap 37 = .ok (.iaload, 1) := by decide +kernel
theorem qd_Z_swap_38 : decode qc_Z_swap 38 = .ok (.istore_n 3, 1) := by decide +kernel
theorem qd_Z_swap_39 : decode qc_Z_swap 39 = .ok (.aload_n 0, 1) := by decide +kernel
theorem qd_Z_swap_40 : decode qc_Z_swap 40 = .ok (.getfield 7, 3) := by decide +kernel
theorem qd_Z_swap_43 : decode qc_Z_swap 43 = .ok (.iload_n 2, 1) := by decide +kernel
theorem qd_Z_swap_44 : decode qc_Z_swap 44 = .ok (.aload_n 0, 1) := by decide +kernel
theorem qd_Z_swap_45 : decode qc_Z_swap 45 = .ok (.getfield 7, 3) := by decide +kernel
theorem qd_Z_swap_48 : decode qc_Z_swap 48 = .ok (.iload_n 2, 1) := by decide +kernel
theorem qd_Z_swap_49 : decode qc_Z_swap 49 = .ok (.bipush 32, 2) := by decide +kernel
theorem qd_Z_swap_51 : decode qc_Z_swap 51 = .ok (.iadd, 1) := by decide +kernel
theorem qd_Z_swap_52 : decode qc_Z_swap 52 = .ok (.iaload, 1) := by decide +kernel
theorem qd_Z_swap_53 : decode qc_Z_swap 53 = .ok (.iastore, 1) := by decide +kernel
theorem qd_Z_swap_54 : decode qc_Z_swap 54 = .ok (.aload_n 0, 1) := by decide +kernel
theorem qd_Z_swap_55 : decode qc_Z_swap 55 = .ok (.getfield 7, 3) := by decide +kernel
theorem qd_Z_swap_58 : decode qc_Z_swap 58 = .ok (.iload_n 2, 1) := by decide +kernel
theorem qd_Z_swap_59 : decode qc_Z_swap 59 = .ok (.bipush 32, 2) := by decide +kernel
theorem qd_Z_swap_61 : decode qc_Z_swap 61 = .ok (.iadd, 1) := by decide +kernel
theorem qd_Z_swap_62 : decode qc_Z_swap 62 = .ok (.iload_n 3, 1) := by decide +kernel
theorem qd_Z_swap_63 : decode qc_Z_swap 63 = .ok (.iastore, 1) := by decide +kernel
theorem qd_Z_swap_64 : decode qc_Z_swap 64 = .ok (.iinc 2 1, 3) := by decide +kernel
theorem qd_Z_swap_67 : decode qc_Z_swap 67 = .ok (.goto (-46), 3) := by decide +kernel
theorem qd_Z_swap_70 : decode qc_Z_swap 70 = .ok (.iconst 1, 1) := by decide +kernel
theorem qd_Z_swap_71 : decode qc_Z_swap 71 = .ok (.ireturn, 1) := by decide +kernel
theorem qd_Z_ticks_0 : decode qc_Z_ticks 0 = .ok (.iload_n 1, 1) := by decide +kernel
theorem qd_Z_ticks_1 : decode qc_Z_ticks 1 = .ok (.ifCond .lt 9, 3) := by decide +kernel
theorem qd_Z_ticks_4 : decode qc_Z_ticks 4 = .ok (.iload_n 1, 1) := by decide +kernel
theorem qd_Z_ticks_5 : decode qc_Z_ticks 5 = .ok (.bipush 100, 2) := by decide +kernel
theorem qd_Z_ticks_7 : decode qc_Z_ticks 7 = .ok (.if_icmp .le 5, 3) := by decide +kernel
theorem qd_Z_ticks_10 : decode qc_Z_ticks 10 = .ok (.iconst (-1), 1) := by decide +kernel
theorem qd_Z_ticks_11 : decode qc_Z_ticks 11 = .ok (.ireturn, 1) := by decide +kernel
theorem qd_Z_ticks_12 : decode qc_Z_ticks 12 = .ok (.iconst 0, 1) := by decide +kernel
theorem qd_Z_ticks_13 : decode qc_Z_ticks 13 = .ok (.istore_n 2, 1) := by decide +kernel
theorem qd_Z_ticks_14 : decode qc_Z_ticks 14 = .ok (.iconst 0, 1) := by decide +kernel
theorem qd_Z_ticks_15 : decode qc_Z_ticks 15 = .ok (.istore_n 3, 1) := by decide +kernel
theorem qd_Z_ticks_16 : decode qc_Z_ticks 16 = .ok (.iload_n 3, 1) := by decide +kernel
theorem qd_Z_ticks_17 : decode qc_Z_ticks 17 = .ok (.iload_n 1, 1) := by decide +kernel
theorem qd_Z_ticks_18 : decode qc_Z_ticks 18 = .ok (.if_icmp .ge 90, 3) := by decide +kernel
theorem qd_Z_ticks_21 : decode qc_Z_ticks 21 = .ok (.aload_n 0, 1) := by decide +kernel
theorem qd_Z_ticks_22 : decode qc_Z_ticks 22 = .ok (.dup, 1) := by decide +kernel
theorem qd_Z_ticks_23 : decode qc_Z_ticks 23 = .ok (.getfield 112, 3) := by decide +kernel
theorem qd_Z_ticks_26 : decode qc_Z_ticks 26 = .ok (.iconst 1, 1) := by decide +kernel
theorem qd_Z_ticks_27 : decode qc_Z_ticks 27 = .ok (.iadd, 1) := by decide +kernel
theorem qd_Z_ticks_28 : decode qc_Z_ticks 28 = .ok (.putfield 112, 3) := by decide +kernel
theorem qd_Z_ticks_31 : decode qc_Z_ticks 31 = .ok (.aload_n 0, 1) := by decide +kernel
theorem qd_Z_ticks_32 : decode qc_Z_ticks 32 = .ok (.getfield 109, 3) := by decide +kernel
theorem qd_Z_ticks_35 : decode qc_Z_ticks 35 = .ok (.istore 4, 2) := by decide +kernel
theorem qd_Z_ticks_37 : decode qc_Z_ticks 37 = .ok (.iconst 0, 1) := by decide +kernel
theorem qd_Z_ticks_38 : decode qc_Z_ticks 38 = .ok (.istore 5, 2) := by decide +kernel
theorem qd_Z_ticks_40 : decode qc_Z_ticks 40 = .ok (.iload 5, 2) := by decide +kernel
theorem qd_Z_ticks_42 : decode qc_Z_ticks 42 = .ok (.iload 4, 2) := by decide +kernel
theorem qd_Z_ticks_44 : decode qc_Z_ticks 44 = .ok (.if_icmp .ge 24, 3) := by decide +kernel
theorem qd_Z_ticks_47 : decode qc_Z_ticks 47 = .ok (.iload_n 2, 1) := by decide +kernel
theorem qd_Z_ticks_48 : decode qc_Z_ticks 48 = .ok (.aload_n 0, 1) := by decide +kernel
theorem qd_Z_ticks_49 : decode qc_Z_ticks 49 = .ok (.invokevirtual 175, 3) := by decide +kernel
theorem qd_Z_ticks_52 : decode qc_Z_ticks 52 = .ok (.ifCond .eq 7, 3) := by decide +kernel
theorem qd_Z_ticks_55 : decode qc_Z_ticks 55 = .ok (.iconst 1, 1) := by decide +kernel
theorem qd_Z_ticks_56 : decode qc_Z_ticks 56 = .ok (.goto 4, 3) := by decide +kernel
theorem qd_Z_ticks_59 : decode qc_Z_ticks 59 = .ok (.iconst 0, 1) := by decide +kernel
theorem qd_Z_ticks_60 : decode qc_Z_ticks 60 = .ok (.iadd, 1) := by decide +kernel
theorem qd_Z_ticks_61 : decode qc_Z_ticks 61 = .ok (.istore_n 2, 1) := by decide +kernel
theorem qd_Z_ticks_62 : decode qc_Z_ticks 62 = .ok (.iinc 5 1, 3) := by decide +kernel
theorem qd_Z_ticks_65 : decode qc_Z_ticks 65 = .ok (.goto (-25), 3) := by decide +kernel
theorem qd_Z_ticks_68 : decode qc_Z_ticks 68 = .ok (.iconst 0, 1) := by decide +kernel
theorem qd_Z_ticks_69 : decode qc_Z_ticks 69 = .ok (.istore 5, 2) := by decide +kernel
theorem qd_Z_ticks_71 : decode qc_Z_ticks 71 = .ok (.iload 5, 2) := by decide +kernel
theorem qd_Z_ticks_73 : decode qc_Z_ticks 73 = .ok (.aload_n 0, 1) := by decide +kernel
theorem qd_Z_ticks_74 : decode qc_Z_ticks 74 = .ok (.getfield 86, 3) := by decide +kernel
theorem qd_Z_ticks_77 : decode qc_Z_ticks 77 = .ok (.if_icmp .ge 25, 3) := by decide +kernel
theorem qd_Z_ticks_80 : decode qc_Z_ticks 80 = .ok (.aload_n 0, 1) := by decide +kernel
theorem qd_Z_ticks_81 : decode qc_Z_ticks 81 = .ok (.getfield 20, 3) := by decide +kernel
theorem qd_Z_ticks_84 : decode qc_Z_ticks 84 = .ok (.iload 5, 2) := by decide +kernel
theorem qd_Z_ticks_86 : decode qc_Z_ticks 86 = .ok (.baload, 1) := by decide +kernel
theorem qd_Z_ticks_87 : decode qc_Z_ticks 87 = .ok (.ifCond .eq 9, 3) := by decide +kernel
theorem qd_Z_ticks_90 : decode qc_Z_ticks 90 = .ok (.aload_n 0, 1) := by decide +kernel
theorem qd_Z_ticks_91 : decode qc_Z_ticks 91 = .ok (.iload 5, 2) := by decide +kernel
theorem qd_Z_ticks_93 : decode qc_Z_ticks 93 = .ok (.invokevirtual 179, 3) := by decide +kernel
theorem qd_Z_ticks_96 : decode qc_Z_ticks 96 = .ok (.iinc 5 1, 3) := by decide +kernel
theorem qd_Z_ticks_99 : decode qc_Z_ticks 99 = .ok (.goto (-28), 3) := by decide +kernel
theorem qd_Z_ticks_102 : decode qc_Z_ticks 102 = .ok (.iinc 3 1, 3) := by decide +kernel
theorem qd_Z_ticks_105 : decode qc_Z_ticks 105 = .ok (.goto (-89), 3) := by decide +kernel
theorem qd_Z_ticks_108 : decode qc_Z_ticks 108 = .ok (.iload_n 2, 1) := by decide +kernel
theorem qd_Z_ticks_109 : decode qc_Z_ticks 109 = .ok (.ireturn, 1) := by decide +kernel
theorem qd_Z_arrive_0 : decode qc_Z_arrive 0 = .ok (.aload_n 0, 1) := by decide +kernel
theorem qd_Z_arrive_1 : decode qc_Z_arrive 1 = .ok (.getfield 7, 3) := by decide +kernel
theorem qd_Z_arrive_4 : decode qc_Z_arrive 4 = .ok (.iconst 0, 1) := by decide +kernel
theorem qd_Z_arrive_5 : decode qc_Z_arrive 5 = .ok (.iaload, 1) := by decide +kernel
theorem qd_Z_arrive_6 : decode qc_Z_arrive 6 = .ok (.istore_n 1, 1) := by decide +kernel
theorem qd_Z_arrive_7 : decode qc_Z_arrive 7 = .ok (.aload_n 0, 1) := by decide +kernel
theorem qd_Z_arrive_8 : decode qc_Z_arrive 8 = .ok (.getfield 7, 3) := by decide +kernel
theorem qd_Z_arrive_11 : decode qc_Z_arrive 11 = .ok (.iconst 1, 1) := by decide +kernel
theorem qd_Z_arrive_12 : decode qc_Z_arrive 12 = .ok (.iaload, 1) := by decide +kernel
theorem qd_Z_arrive_13 : decode qc_Z_arrive 13 = .ok (.istore_n 2, 1) := by decide +kernel
theorem qd_Z_arrive_14 : decode qc_Z_arrive 14 = .ok (.aload_n 0, 1) := by decide +kernel
theorem qd_Z_arrive_15 : decode qc_Z_arrive 15 = .ok (.getfield 7, 3) := by decide +kernel
theorem qd_Z_arrive_18 : decode qc_Z_arrive 18 = .ok (.iconst 2, 1) := by decide +kernel
theorem qd_Z_arrive_19 : decode qc_Z_arrive 19 = .ok (.iaload, 1) := by decide +kernel
theorem qd_Z_arrive_20 : decode qc_Z_arrive 20 = .ok (.istore_n 3, 1) := by decide +kernel
theorem qd_Z_arrive_21 : decode qc_Z_arrive 21 = .ok (.aload_n 0, 1) := by decide +kernel
theorem qd_Z_arrive_22 : decode qc_Z_arrive 22 = .ok (.getfield 7, 3) := by decide +kernel
theorem qd_Z_arrive_25 : decode qc_Z_arrive 25 = .ok (.iconst 3, 1) := by decide +kernel
theorem qd_Z_arrive_26 : decode qc_Z_arrive 26 = .ok (.iaload, 1) := by decide +kernel
theorem qd_Z_arrive_27 : decode qc_Z_arrive 27 = .ok (.istore 4, 2) := by decide +kernel
theorem qd_Z_arrive_29 : decode qc_Z_arrive 29 = .ok (.aload_n 0, 1) := by decide +kernel
theorem qd_Z_arrive_30 : decode qc_Z_arrive 30 = .ok (.getfield 7, 3) := by decide +kernel
theorem qd_Z_arrive_33 : decode qc_Z_arrive 33 = .ok (.iconst 4, 1) := by decide +kernel
theorem qd_Z_arrive_34 : decode qc_Z_arrive 34 = .ok (.iaload, 1) := by decide +kernel
theorem qd_Z_arrive_35 : decode qc_Z_arrive 35 = .ok (.istore 5, 2) := by decide +kernel
theorem qd_Z_arrive_37 : decode qc_Z_arrive 37 = .ok (.aload_n 0, 1) := by decide +kernel
theorem qd_Z_arrive_38 : decode qc_Z_arrive 38 = .ok (.getfield 7, 3) := by decide +kernel
theorem qd_Z_arrive_41 : decode qc_Z_arrive 41 = .ok (.iconst 5, 1) := by decide +kernel
theorem qd_Z_arrive_42 : decode qc_Z_arrive 42 = .ok (.iaload, 1) := by decide +kernel
theorem qd_Z_arrive_43 : decode qc_Z_arrive 43 = .ok (.istore 6, 2) := by decide +kernel
theorem qd_Z_arrive_45 : decode qc_Z_arrive 45 = .ok (.aload_n 0, 1) := by decide +kernel
theorem qd_Z_arrive_46 : decode qc_Z_arrive 46 = .ok (.getfield 7, 3) := by decide +kernel
theorem qd_Z_arrive_49 : decode qc_Z_arrive 49 = .ok (.bipush 6, 2) := by decide +kernel
theorem qd_Z_arrive_51 : decode qc_Z_arrive 51 = .ok (.iaload, 1) := by decide +kernel
theorem qd_Z_arrive_52 : decode qc_Z_arrive 52 = .ok (.istore 7, 2) := by decide +kernel
theorem qd_Z_arrive_54 : decode qc_Z_arrive 54 = .ok (.iconst 0, 1) := by decide +kernel
theorem qd_Z_arrive_55 : decode qc_Z_arrive 55 = .ok (.istore 8, 2) := by decide +kernel
theorem qd_Z_arrive_57 : decode qc_Z_arrive 57 = .ok (.iload 8, 2) := by decide +kernel
theorem qd_Z_arrive_59 : decode qc_Z_arrive 59 = .ok (.bipush 32, 2) := by decide +kernel
theorem qd_Z_arrive_61 : decode qc_Z_arrive 61 = .ok (.if_icmp .ge 23, 3) := by decide +kernel
theorem qd_Z_arrive_64 : decode qc_Z_arrive 64 = .ok (.aload_n 0, 1) := by decide +kernel
theorem qd_Z_arrive_65 : decode qc_Z_arrive 65 = .ok (.getfield 13, 3) := by decide +kernel
theorem qd_Z_arrive_68 : decode qc_Z_arrive 68 = .ok (.iload 8, 2) := by decide +kernel
theorem qd_Z_arrive_70 : decode qc_Z_arrive 70 = .ok (.aload_n 0, 1) := by decide +kernel
theorem qd_Z_arrive_71 : decode qc_Z_arrive 71 = .ok (.getfield 7, 3) := by decide +kernel
theorem qd_Z_arrive_74 : decode qc_Z_arrive 74 = .ok (.iload 8, 2) := by decide +kernel
theorem qd_Z_arrive_76 : decode qc_Z_arrive 76 = .ok (.iaload, 1) := by decide +kernel
theorem qd_Z_arrive_77 : decode qc_Z_arrive 77 = .ok (.iastore, 1) := by decide +kernel
theorem qd_Z_arrive_78 : decode qc_Z_arrive 78 = .ok (.iinc 8 1, 3) := by decide +kernel
theorem qd_Z_arrive_81 : decode qc_Z_arrive 81 = .ok (.goto (-24), 3) := by decide +kernel
theorem qd_Z_arrive_84 : decode qc_Z_arrive 84 = .ok (.aload_n 0, 1) := by decide +kernel
theorem qd_Z_arrive_85 : decode qc_Z_arrive 85 = .ok (.iconst 0, 1) := by decide +kernel
theorem qd_Z_arrive_86 : decode qc_Z_arrive 86 = .ok (.invokevirtual 130, 3) := by decide +kernel
theorem qd_Z_arrive_89 : decode qc_Z_arrive 89 = .ok (.aload_n 0, 1) := by decide +kernel
theorem qd_Z_arrive_90 : decode qc_Z_arrive 90 = .ok (.getfield 20, 3) := by decide +kernel
theorem qd_Z_arrive_93 : decode qc_Z_arrive 93 = .ok (.iload_n 3, 1) := by decide +kernel
theorem qd_Z_arrive_94 : decode qc_Z_arrive 94 = .ok (.baload, 1) := by decide +kernel
theorem qd_Z_arrive_95 : decode qc_Z_arrive 95 = .ok (.ifCond .eq 17, 3) := by decide +kernel
theorem qd_Z_arrive_98 : decode qc_Z_arrive 98 = .ok (.aload_n 0, 1) := by decide +kernel
theorem qd_Z_arrive_99 : decode qc_Z_arrive 99 = .ok (.getfield 16, 3) := by decide +kernel
theorem qd_Z_arrive_102 : decode qc_Z_arrive 102 = .ok (.bipush 8, 2) := by decide +kernel
theorem qd_Z_arrive_104 : decode qc_Z_arrive 104 = .ok (.iload_n 3, 1) := by decide +kernel
theorem qd_Z_arrive_105 : decode qc_Z_arrive 105 = .ok (.imul, 1) := by decide +kernel
theorem qd_Z_arrive_106 : decode qc_Z_arrive 106 = .ok (.iload_n 2, 1) := by decide +kernel
theorem qd_Z_arrive_107 : decode qc_Z_arrive 107 = .ok (.iadd, 1) := by decide +kernel
theorem qd_Z_arrive_108 : decode qc_Z_arrive 108 = .ok (.baload, 1) := by decide +kernel
theorem qd_Z_arrive_109 : decode qc_Z_arrive 109 = .ok (.ifCond .eq 5, 3) := by decide +kernel
theorem qd_Z_arrive_112 : decode qc_Z_arrive 112 = .ok (.iconst 0, 1) := by decide +kernel
theorem qd_Z_arrive_113 : decode qc_Z_arrive 113 = .ok (.ireturn, 1) := by decide +kernel
theorem qd_Z_arrive_114 : decode qc_Z_arrive 114 = .ok (.iconst 0, 1) := by decide +kernel
theorem qd_Z_arrive_115 : decode qc_Z_arrive 115 = .ok (.istore 8, 2) := by decide +kernel
theorem qd_Z_arrive_117 : decode qc_Z_arrive 117 = .ok (.iload 8, 2) := by decide +kernel
theorem qd_Z_arrive_119 : decode qc_Z_arrive 119 = .ok (.iload 7, 2) := by decide +kernel
theorem qd_Z_arrive_121 : decode qc_Z_arrive 121 = .ok (.if_icmp .ge 51, 3) := by decide +kernel
theorem qd_Z_arrive_124 : decode qc_Z_arrive 124 = .ok (.aload_n 0, 1) := by decide +kernel
theorem qd_Z_arrive_125 : decode qc_Z_arrive 125 = .ok (.iload_n 3, 1) := by decide +kernel
theorem qd_Z_arrive_126 : decode qc_Z_arrive 126 = .ok (.aload_n 0, 1) := by decide +kernel
theorem qd_Z_arrive_127 : decode qc_Z_arrive 127 = .ok (.getfield 13, 3) := by decide +kernel
theorem qd_Z_arrive_130 : decode qc_Z_arrive 130 = .ok (.bipush 7, 2) := by decide +kernel
theorem qd_Z_arrive_132 : decode qc_Z_arrive 132 = .ok (.iconst 3, 1) := by decide +kernel
theorem qd_Z_arrive_133 : decode qc_Z_arrive 133 = .ok (.iload 8, 2) := by decide +kernel
theorem qd_Z_arrive_135 : decode qc_Z_arrive 135 = .ok (.imul, 1) := by decide +kernel
theorem qd_Z_arrive_136 : decode qc_Z_arrive 136 = .ok (.iadd, 1) := by decide +kernel
theorem qd_Z_arrive_137 : decode qc_Z_arrive 137 = .ok (.iaload, 1) := by decide +kernel
theorem qd_Z_arrive_138 : decode qc_Z_arrive 138 = .ok (.aload_n 0, 1) := by decide +kernel
theorem qd_Z_arrive_139 : decode qc_Z_arrive 139 = .ok (.getfield 13, 3) := by decide +kernel
theorem qd_Z_arrive_142 : decode qc_Z_arrive 142 = .ok (.bipush 8, 2) := by decide +kernel
theorem qd_Z_arrive_144 : decode qc_Z_arrive 144 = .ok (.iconst 3, 1) := by decide +kernel
theorem qd_Z_arrive_145 : decode qc_Z_arrive 145 = .ok (.iload 8, 2) := by decide +kernel
theorem qd_Z_arrive_147 : decode qc_Z_arrive 147 = .ok (.imul, 1) := by decide +kernel
theorem qd_Z_arrive_148 : decode qc_Z_arrive 148 = .ok (.iadd, 1) := by decide +kernel
theorem qd_Z_arrive_149 : decode qc_Z_arrive 149 = .ok (.iaload, 1) := by decide +kernel
theorem qd_Z_arrive_150 : decode qc_Z_arrive 150 = .ok (.aload_n 0, 1) := by decide +kernel
theorem qd_Z_arrive_151 : decode qc_Z_arrive 151 = .ok (.getfield 13, 3) := by decide +kernel
theorem qd_Z_arrive_154 : decode qc_Z_arrive 154 = .ok (.bipush 9, 2) := by decide +kernel
theorem qd_Z_arrive_156 : decode qc_Z_arrive 156 = .ok (.iconst 3, 1) := by decide +kernel
theorem qd_Z_arrive_157 : decode qc_Z_arrive 157 = .ok (.iload 8, 2) := by decide +kernel
theorem qd_Z_arrive_159 : decode qc_Z_arrive 159 = .ok (.imul, 1) := by decide +kernel
theorem qd_Z_arrive_160 : decode qc_Z_arrive 160 = .ok (.iadd, 1) := by decide +kernel
theorem qd_Z_arrive_161 : decode qc_Z_arrive 161 = .ok (.iaload, 1) := by decide +kernel
theorem qd_Z_arrive_162 : decode qc_Z_arrive 162 = .ok (.iload_n 2, 1) := by decide +kernel
theorem qd_Z_arrive_163 : decode qc_Z_arrive 163 = .ok (.invokevirtual 141, 3) := by decide +kernel
theorem qd_Z_arrive_166 : decode qc_Z_arrive 166 = .ok (.iinc 8 1, 3) := by decide +kernel
theorem qd_Z_arrive_169 : decode qc_Z_arrive 169 = .ok (.goto (-52), 3) := by decide +kernel
theorem qd_Z_arrive_172 : decode qc_Z_arrive 172 = .ok (.iload_n 1, 1) := by decide +kernel
theorem qd_Z_arrive_173 : decode qc_Z_arrive 173 = .ok (.iconst 1, 1) := by decide +kernel
theorem qd_Z_arrive_174 : decode qc_Z_arrive 174 = .ok (.if_icmp .ne 16, 3) := by decide +kernel
theorem qd_Z_arrive_177 : decode qc_Z_arrive 177 = .ok (.aload_n 0, 1) := by decide +kernel
theorem qd_Z_arrive_178 : decode qc_Z_arrive 178 = .ok (.iconst 2, 1) := by decide +kernel
theorem qd_Z_arrive_179 : decode qc_Z_arrive 179 = .ok (.iload_n 3, 1) := by decide +kernel
theorem qd_Z_arrive_180 : decode qc_Z_arrive 180 = .ok (.iload_n 2, 1) := by decide +kernel
theorem qd_Z_arrive_181 : decode qc_Z_arrive 181 = .ok (.iload 4, 2) := by decide +kernel
theorem qd_Z_arrive_183 : decode qc_Z_arrive 183 = .ok (.iload 5, 2) := by decide +kernel
theorem qd_Z_arrive_185 : decode qc_Z_arrive 185 = .ok (.iload 6, 2) := by decide +kernel
theorem qd_Z_arrive_187 : decode qc_Z_arrive 187 = .ok (.invokevirtual 123, 3) := by decide +kernel
theorem qd_Z_arrive_190 : decode qc_Z_arrive 190 = .ok (.iload_n 1, 1) := by decide +kernel
theorem qd_Z_arrive_191 : decode qc_Z_arrive 191 = .ok (.iconst 2, 1) := by decide +kernel
theorem qd_Z_arrive_192 : decode qc_Z_arrive 192 = .ok (.if_icmp .ne 14, 3) := by decide +kernel
theorem qd_Z_arrive_195 : decode qc_Z_arrive 195 = .ok (.aload_n 0, 1) := by decide +kernel
theorem qd_Z_arrive_196 : decode qc_Z_arrive 196 = .ok (.iload_n 3, 1) := by decide +kernel
theorem qd_Z_arrive_197 : decode qc_Z_arrive 197 = .ok (.iload 4, 2) := by decide +kernel
theorem qd_Z_arrive_199 : decode qc_Z_arrive 199 = .ok (.iload 5, 2) := by decide +kernel
theorem qd_Z_arrive_201 : decode qc_Z_arrive 201 = .ok (.iload 6, 2) := by decide +kernel
theorem qd_Z_arrive_203 : decode qc_Z_arrive 203 = .ok (.invokevirtual 144, 3) := by decide +kernel
theorem qd_Z_arrive_206 : decode qc_Z_arrive 206 = .ok (.iload_n 1, 1) := by decide +kernel
theorem qd_Z_arrive_207 : decode qc_Z_arrive 207 = .ok (.iconst 3, 1) := by decide +kernel
theorem qd_Z_arrive_208 : decode qc_Z_arrive 208 = .ok (.if_icmp .ne 14, 3) := by decide +kernel
theorem qd_Z_arrive_211 : decode qc_Z_arrive 211 = .ok (.aload_n 0, 1) := by decide +kernel
theorem qd_Z_arrive_212 : decode qc_Z_arrive 212 = .ok (.iload_n 3, 1) := by decide +kernel
theorem qd_Z_arrive_213 : decode qc_Z_arrive 213 = .ok (.iload 4, 2) := by decide +kernel
theorem qd_Z_arrive_215 : decode qc_Z_arrive 215 = .ok (.iload 5, 2) := by decide +kernel
theorem qd_Z_arrive_217 : decode qc_Z_arrive 217 = .ok (.iload 6, 2) := by decide +kernel
theorem qd_Z_arrive_219 : decode qc_Z_arrive 219 = .ok (.invokevirtual 147, 3) := by decide +kernel
theorem qd_Z_arrive_222 : decode qc_Z_arrive 222 = .ok (.iload_n 1, 1) := by decide +kernel
theorem qd_Z_arrive_223 : decode qc_Z_arrive 223 = .ok (.iconst 4, 1) := by decide +kernel
theorem qd_Z_arrive_224 : decode qc_Z_arrive 224 = .ok (.if_icmp .ne 37, 3) := by decide +kernel
theorem qd_Z_arrive_227 : decode qc_Z_arrive 227 = .ok (.aload_n 0, 1) := by decide +kernel
theorem qd_Z_arrive_228 : decode qc_Z_arrive 228 = .ok (.getfield 77, 3) := by decide +kernel
theorem qd_Z_arrive_231 : decode qc_Z_arrive 231 = .ok (.iload_n 3, 1) := by decide +kernel
theorem qd_Z_arrive_232 : decode qc_Z_arrive 232 = .ok (.dup2, 1) := by decide +kernel
theorem qd_Z_arrive_233 : decode qc_Z_arrive 233 = .ok (.iaload, 1) := by decide +kernel
theorem qd_Z_arrive_234 : decode qc_Z_arrive 234 = .ok (.aload_n 0, 1) := by decide +kernel
theorem qd_Z_arrive_235 : decode qc_Z_arrive 235 = .ok (.getfield 56, 3) := by decide +kernel
theorem qd_Z_arrive_238 : decode qc_Z_arrive 238 = .ok (.iload_n 3, 1) := by decide +kernel
theorem qd_Z_arrive_239 : decode qc_Z_arrive 239 = .ok (.baload, 1) := by decide +kernel
theorem qd_Z_arrive_240 : decode qc_Z_arrive 240 = .ok (.ifCond .eq 18, 3) := by decide +kernel
theorem qd_Z_arrive_243 : decode qc_Z_arrive 243 = .ok (.aload_n 0, 1) := by decide +kernel
theorem qd_Z_arrive_244 : decode qc_Z_arrive 244 = .ok (.getfield 68, 3) := by decide +kernel
theorem qd_Z_arrive_247 : decode qc_Z_arrive 247 = .ok (.iload_n 3, 1) := by decide +kernel
theorem qd_Z_arrive_248 : decode qc_Z_arrive 248 = .ok (.iaload, 1) := by decide +kernel
theorem qd_Z_arrive_249 : decode qc_Z_arrive 249 = .ok (.iload 4, 2) := by decide +kernel
theorem qd_Z_arrive_251 : decode qc_Z_arrive 251 = .ok (.if_icmp .ne 7, 3) := by decide +kernel
theorem qd_Z_arrive_254 : decode qc_Z_arrive 254 = .ok (.iconst 1, 1) := by decide +kernel
theorem qd_Z_arrive_255 : decode qc_Z_arrive 255 = .ok (.goto 4, 3) := by decide +kernel
theorem qd_Z_arrive_258 : decode qc_Z_arrive 258 = .ok (.iconst 0, 1) := by decide +kernel
theorem qd_Z_arrive_259 : decode qc_Z_arrive 259 = .ok (.iadd, 1) := by decide +kernel
theorem qd_Z_arrive_260 : decode qc_Z_arrive 260 = .ok (.iastore, 1) := by decide +kernel
theorem qd_Z_arrive_261 : decode qc_Z_arrive 261 = .ok (.iload_n 1, 1) := by decide +kernel
theorem qd_Z_arrive_262 : decode qc_Z_arrive 262 = .ok (.bipush 6, 2) := by decide +kernel
theorem qd_Z_arrive_264 : decode qc_Z_arrive 264 = .ok (.if_icmp .ne 14, 3) := by decide +kernel
theorem qd_Z_arrive_267 : decode qc_Z_arrive 267 = .ok (.aload_n 0, 1) := by decide +kernel
theorem qd_Z_arrive_268 : decode qc_Z_arrive 268 = .ok (.bipush 7, 2) := by decide +kernel
theorem qd_Z_arrive_270 : decode qc_Z_arrive 270 = .ok (.iload_n 3, 1) := by decide +kernel
theorem qd_Z_arrive_271 : decode qc_Z_arrive 271 = .ok (.iload_n 2, 1) := by decide +kernel
theorem qd_Z_arrive_272 : decode qc_Z_arrive 272 = .ok (.iconst 0, 1) := by decide +kernel
theorem qd_Z_arrive_273 : decode qc_Z_arrive 273 = .ok (.iconst 0, 1) := by decide +kernel
theorem qd_Z_arrive_274 : decode qc_Z_arrive 274 = .ok (.iconst 0, 1) := by decide +kernel
theorem qd_Z_arrive_275 : decode qc_Z_arrive 275 = .ok (.invokevirtual 123, 3) := by decide +kernel
theorem qd_Z_arrive_278 : decode qc_Z_arrive 278 = .ok (.iconst 1, 1) := by decide +kernel
theorem qd_Z_arrive_279 : decode qc_Z_arrive 279 = .ok (.ireturn, 1) := by decide +kernel
theorem qd_Z_learn_0 : decode qc_Z_learn 0 = .ok (.bipush 8, 2) := by decide +kernel
theorem qd_Z_learn_2 : decode qc_Z_learn 2 = .ok (.iload_n 1, 1) := by decide +kernel
theorem qd_Z_learn_3 : decode qc_Z_learn 3 = .ok (.imul, 1) := by decide +kernel
theorem qd_Z_learn_4 : decode qc_Z_learn 4 = .ok (.iload_n 2, 1) := by decide +kernel
theorem qd_Z_learn_5 : decode qc_Z_learn 5 = .ok (.iadd, 1) := by decide +kernel
theorem qd_Z_learn_6 : decode qc_Z_learn 6 = .ok (.istore 6, 2) := by decide +kernel
theorem qd_Z_learn_8 : decode qc_Z_learn 8 = .ok (.iload_n 2, 1) := by decide +kernel
theorem qd_Z_learn_9 : decode qc_Z_learn 9 = .ok (.iload_n 1, 1) := by decide +kernel
theorem qd_Z_learn_10 : decode qc_Z_learn 10 = .ok (.if_icmp .ne 82, 3) := by decide +kernel
theorem qd_Z_learn_13 : decode qc_Z_learn 13 = .ok (.iload_n 3, 1) := by decide +kernel
theorem qd_Z_learn_14 : decode qc_Z_learn 14 = .ok (.iconst 1, 1) := by decide +kernel
theorem qd_Z_learn_15 : decode qc_Z_learn 15 = .ok (.if_icmp .ne 4, 3) := by decide +kernel
theorem qd_Z_learn_18 : decode qc_Z_learn 18 = .ok (.return_, 1) := by decide +kernel
theorem qd_Z_learn_19 : decode qc_Z_learn 19 = .ok (.iload 4, 2) := by decide +kernel
theorem qd_Z_learn_21 : decode qc_Z_learn 21 = .ok (.aload_n 0, 1) := by decide +kernel
theorem qd_Z_learn_22 : decode qc_Z_learn 22 = .ok (.getfield 32, 3) := by decide +kernel
theorem qd_Z_learn_25 : decode qc_Z_learn 25 = .ok (.iload 6, 2) := by decide +kernel
theorem qd_Z_learn_27 : decode qc_Z_learn 27 = .ok (.iaload, 1) := by decide +kernel
theorem qd_Z_learn_28 : decode qc_Z_learn 28 = .ok (.if_icmp .lt 49, 3) := by decide +kernel
theorem qd_Z_learn_31 : decode qc_Z_learn 31 = .ok (.aload_n 0, 1) := by decide +kernel
theorem qd_Z_learn_32 : decode qc_Z_learn 32 = .ok (.getfield 32, 3) := by decide +kernel
theorem qd_Z_learn_35 : decode qc_Z_learn 35 = .ok (.iload 6, 2) := by decide +kernel
theorem qd_Z_learn_37 : decode qc_Z_learn 37 = .ok (.iload 4, 2) := by decide +kernel
theorem qd_Z_learn_39 : decode qc_Z_learn 39 = .ok (.iconst 1, 1) := by decide +kernel
theorem qd_Z_learn_40 : decode qc_Z_learn 40 = .ok (.iadd, 1) := by decide +kernel
theorem qd_Z_learn_41 : decode qc_Z_learn 41 = .ok (.iastore, 1) := by decide +kernel
theorem qd_Z_learn_42 : decode qc_Z_learn 42 = .ok (.aload_n 0, 1) := by decide +kernel
theorem qd_Z_learn_43 : decode qc_Z_learn 43 = .ok (.getfield 35, 3) := by decide +kernel
theorem qd_Z_learn_46 : decode qc_Z_learn 46 = .ok (.iload 6, 2) := by decide +kernel
theorem qd_Z_learn_48 : decode qc_Z_learn 48 = .ok (.aload_n 0, 1) := by decide +kernel
theorem qd_Z_learn_49 : decode qc_Z_learn 49 = .ok (.getfield 112, 3) := by decide +kernel
theorem qd_Z_learn_52 : decode qc_Z_learn 52 = .ok (.iastore, 1) := by decide +kernel
theorem qd_Z_learn_53 : decode qc_Z_learn 53 = .ok (.aload_n 0, 1) := by decide +kernel
theorem qd_Z_learn_54 : decode qc_Z_learn 54 = .ok (.getfield 26, 3) := by decide +kernel
theorem qd_Z_learn_57 : decode qc_Z_learn 57 = .ok (.iload_n 1, 1) := by decide +kernel
theorem qd_Z_learn_58 : decode qc_Z_learn 58 = .ok (.dup2, 1) := by decide +kernel
theorem qd_Z_learn_59 : decode qc_Z_learn 59 = .ok (.iaload, 1) := by decide +kernel
theorem qd_Z_learn_60 : decode qc_Z_learn 60 = .ok (.aload_n 0, 1) := by decide +kernel
theorem qd_Z_learn_61 : decode qc_Z_learn 61 = .ok (.getfield 26, 3) := by decide +kernel
theorem qd_Z_learn_64 : decode qc_Z_learn 64 = .ok (.iload_n 1, 1) := by decide +kernel
theorem qd_Z_learn_65 : decode qc_Z_learn 65 = .ok (.iaload, 1) := by decide +kernel
theorem qd_Z_learn_66 : decode qc_Z_learn 66 = .ok (.iconst 4, 1) := by decide +kernel
theorem qd_Z_learn_67 : decode qc_Z_learn 67 = .ok (.if_icmp .ge 7, 3) := by decide +kernel
theorem qd_Z_learn_70 : decode qc_Z_learn 70 = .ok (.iconst 1, 1) := by decide +kernel
theorem qd_Z_learn_71 : decode qc_Z_learn 71 = .ok (.goto 4, 3) := by decide +kernel
theorem qd_Z_learn_74 : decode qc_Z_learn 74 = .ok (.iconst 0, 1) := by decide +kernel
theorem qd_Z_learn_75 : decode qc_Z_learn 75 = .ok (.iadd, 1) := by decide +kernel
theorem qd_Z_learn_76 : decode qc_Z_learn 76 = .ok (.iastore, 1) := by decide +kernel
theorem qd_Z_learn_77 : decode qc_Z_learn 77 = .ok (.aload_n 0, 1) := by decide +kernel
theorem qd_Z_learn_78 : decode qc_Z_learn 78 = .ok (.iload_n 1, 1) := by decide +kernel
theorem qd_Z_learn_79 : decode qc_Z_learn 79 = .ok (.iload_n 1, 1) := by decide +kernel
theorem qd_Z_learn_80 : decode qc_Z_learn 80 = .ok (.iconst 1, 1) := by decide +kernel
theorem qd_Z_learn_81 : decode qc_Z_learn 81 = .ok (.aload_n 0, 1) := by decide +kernel
theorem qd_Z_learn_82 : decode qc_Z_learn 82 = .ok (.getfield 32, 3) := by decide +kernel
theorem qd_Z_learn_85 : decode qc_Z_learn 85 = .ok (.iload 6, 2) := by decide +kernel
theorem qd_Z_learn_87 : decode qc_Z_learn 87 = .ok (.iaload, 1) := by decide +kernel
theorem qd_Z_learn_88 : decode qc_Z_learn 88 = .ok (.invokevirtual 115, 3) := by decide +kernel
theorem qd_Z_learn_91 : decode qc_Z_learn 91 = .ok (.return_, 1) := by decide +kernel
theorem qd_Z_learn_92 : decode qc_Z_learn 92 = .ok (.aload_n 0, 1) := by decide +kernel
theorem qd_Z_learn_93 : decode qc_Z_learn 93 = .ok (.getfield 29, 3) := by decide +kernel
theorem qd_Z_learn_96 : decode qc_Z_learn 96 = .ok (.iload 6, 2) := by decide +kernel
theorem qd_Z_learn_98 : decode qc_Z_learn 98 = .ok (.iaload, 1) := by decide +kernel
theorem qd_Z_learn_99 : decode qc_Z_learn 99 = .ok (.iload_n 3, 1) := by decide +kernel
theorem qd_Z_learn_100 : decode qc_Z_learn 100 = .ok (.if_icmp .ne 19, 3) := by decide +kernel
theorem qd_Z_learn_103 : decode qc_Z_learn 103 = .ok (.aload_n 0, 1) := by decide +kernel
theorem qd_Z_learn_104 : decode qc_Z_learn 104 = .ok (.getfield 32, 3) := by decide +kernel
theorem qd_Z_learn_107 : decode qc_Z_learn 107 = .ok (.iload 6, 2) := by decide +kernel
theorem qd_Z_learn_109 : decode qc_Z_learn 109 = .ok (.iaload, 1) := by decide +kernel
theorem qd_Z_learn_110 : decode qc_Z_learn 110 = .ok (.iload 4, 2) := by decide +kernel
theorem qd_Z_learn_112 : decode qc_Z_learn 112 = .ok (.if_icmp .ne 7, 3) := by decide +kernel
theorem qd_Z_learn_115 : decode qc_Z_learn 115 = .ok (.iconst 1, 1) := by decide +kernel
theorem qd_Z_learn_116 : decode qc_Z_learn 116 = .ok (.goto 4, 3) := by decide +kernel
theorem qd_Z_learn_119 : decode qc_Z_learn 119 = .ok (.iconst 0, 1) := by decide +kernel
theorem qd_Z_learn_120 : decode qc_Z_learn 120 = .ok (.istore 7, 2) := by decide +kernel
theorem qd_Z_learn_122 : decode qc_Z_learn 122 = .ok (.aload_n 0, 1) := by decide +kernel
theorem qd_Z_learn_123 : decode qc_Z_learn 123 = .ok (.getfield 29, 3) := by decide +kernel
theorem qd_Z_learn_126 : decode qc_Z_learn 126 = .ok (.iload 6, 2) := by decide +kernel
theorem qd_Z_learn_128 : decode qc_Z_learn 128 = .ok (.iaload, 1) := by decide +kernel
theorem qd_Z_learn_129 : decode qc_Z_learn 129 = .ok (.ifCond .eq 38, 3) := by decide +kernel
theorem qd_Z_learn_132 : decode qc_Z_learn 132 = .ok (.iload 4, 2) := by decide +kernel
theorem qd_Z_learn_134 : decode qc_Z_learn 134 = .ok (.aload_n 0, 1) := by decide +kernel
theorem qd_Z_learn_135 : decode qc_Z_learn 135 = .ok (.getfield 32, 3) := by decide +kernel
theorem qd_Z_learn_138 : decode qc_Z_learn 138 = .ok (.iload 6, 2) := by decide +kernel
theorem qd_Z_learn_140 : decode qc_Z_learn 140 = .ok (.iaload, 1) := by decide +kernel
theorem qd_Z_learn_141 : decode qc_Z_learn 141 = .ok (.if_icmp .gt 26, 3) := by decide +kernel
theorem qd_Z_learn_144 : decode qc_Z_learn 144 = .ok (.iload 4, 2) := by decide +kernel
theorem qd_Z_learn_146 : decode qc_Z_learn 146 = .ok (.aload_n 0, 1) := by decide +kernel
theorem qd_Z_learn_147 : decode qc_Z_learn 147 = .ok (.getfield 32, 3) := by decide +kernel
theorem qd_Z_learn_150 : decode qc_Z_learn 150 = .ok (.iload 6, 2) := by decide +kernel
theorem qd_Z_learn_152 : decode qc_Z_learn 152 = .ok (.iaload, 1) := by decide +kernel
theorem qd_Z_learn_153 : decode qc_Z_learn 153 = .ok (.if_icmp .ne 18, 3) := by decide +kernel
theorem qd_Z_learn_156 : decode qc_Z_learn 156 = .ok (.iload_n 3, 1) := by decide +kernel
theorem qd_Z_learn_157 : decode qc_Z_learn 157 = .ok (.aload_n 0, 1) := by decide +kernel
theorem qd_Z_learn_158 : decode qc_Z_learn 158 = .ok (.getfield 29, 3) := by decide +kernel
theorem qd_Z_learn_161 : decode qc_Z_learn 161 = .ok (.iload 6, 2) := by decide +kernel
theorem qd_Z_learn_163 : decode qc_Z_learn 163 = .ok (.iaload, 1) := by decide +kernel
theorem qd_Z_learn_164 : decode qc_Z_learn 164 = .ok (.if_icmp .le 7, 3) := by decide +kernel
theorem qd_Z_learn_167 : decode qc_Z_learn 167 = .ok (.iconst 1, 1) := by decide +kernel
theorem qd_Z_learn_168 : decode qc_Z_learn 168 = .ok (.goto 4, 3) := by decide +kernel
theorem qd_Z_learn_171 : decode qc_Z_learn 171 = .ok (.iconst 0, 1) := by decide +kernel
theorem qd_Z_learn_172 : decode qc_Z_learn 172 = .ok (.istore 8, 2) := by decide +kernel
theorem qd_Z_learn_174 : decode qc_Z_learn 174 = .ok (.iload 8, 2) := by decide +kernel
theorem qd_Z_learn_176 : decode qc_Z_learn 176 = .ok (.ifCond .eq 17, 3) := by decide +kernel
theorem qd_Z_learn_179 : decode qc_Z_learn 179 = .ok (.aload_n 0, 1) := by decide +kernel
theorem qd_Z_learn_180 : decode qc_Z_learn 180 = .ok (.iload_n 1, 1) := by decide +kernel
theorem qd_Z_learn_181 : decode qc_Z_learn 181 = .ok (.iload_n 2, 1) := by decide +kernel
theorem qd_Z_learn_182 : decode qc_Z_learn 182 = .ok (.iload_n 3, 1) := by decide +kernel
theorem qd_Z_learn_183 : decode qc_Z_learn 183 = .ok (.iload 4, 2) := by decide +kernel
theorem qd_Z_learn_185 : decode qc_Z_learn 185 = .ok (.iload 5, 2) := by decide +kernel
theorem qd_Z_learn_187 : decode qc_Z_learn 187 = .ok (.invokevirtual 119, 3) := by decide +kernel
theorem qd_Z_learn_190 : decode qc_Z_learn 190 = .ok (.goto 27, 3) := by decide +kernel
theorem qd_Z_learn_193 : decode qc_Z_learn 193 = .ok (.iload 7, 2) := by decide +kernel
theorem qd_Z_learn_195 : decode qc_Z_learn 195 = .ok (.ifCond .eq 22, 3) := by decide +kernel
theorem qd_Z_learn_198 : decode qc_Z_learn 198 = .ok (.iload_n 3, 1) := by decide +kernel
theorem qd_Z_learn_199 : decode qc_Z_learn 199 = .ok (.iconst 2, 1) := by decide +kernel
theorem qd_Z_learn_200 : decode qc_Z_learn 200 = .ok (.if_icmp .ne 17, 3) := by decide +kernel
theorem qd_Z_learn_203 : decode qc_Z_learn 203 = .ok (.aload_n 0, 1) := by decide +kernel
theorem qd_Z_learn_204 : decode qc_Z_learn 204 = .ok (.getfield 38, 3) := by decide +kernel
theorem qd_Z_learn_207 : decode qc_Z_learn 207 = .ok (.iload 6, 2) := by decide +kernel
theorem qd_Z_learn_209 : decode qc_Z_learn 209 = .ok (.dup2, 1) := by decide +kernel
theorem qd_Z_learn_210 : decode qc_Z_learn 210 = .ok (.iaload, 1) := by decide +kernel
theorem qd_Z_learn_211 : decode qc_Z_learn 211 = .ok (.iconst 1, 1) := by decide +kernel
theorem qd_Z_learn_212 : decode qc_Z_learn 212 = .ok (.iload 5, 2) := by decide +kernel
theorem qd_Z_learn_214 : decode qc_Z_learn 214 = .ok (.ishl, 1) := by decide +kernel
theorem qd_Z_learn_215 : decode qc_Z_learn 215 = .ok (.ior, 1) := by decide +kernel
theorem qd_Z_learn_216 : decode qc_Z_learn 216 = .ok (.iastore, 1) := by decide +kernel
theorem qd_Z_learn_217 : decode qc_Z_learn 217 = .ok (.return_, 1) := by decide +kernel
theorem qd_Z_acknowledged_0 : decode qc_Z_acknowledged 0 = .ok (.iload_n 1, 1) := by decide +kernel
theorem qd_Z_acknowledged_1 : decode qc_Z_acknowledged 1 = .ok (.iload_n 3, 1) := by decide +kernel
theorem qd_Z_acknowledged_2 : decode qc_Z_acknowledged 2 = .ok (.if_icmp .ne 43, 3) := by decide +kernel
theorem qd_Z_acknowledged_5 : decode qc_Z_acknowledged 5 = .ok (.aload_n 0, 1) := by decide +kernel
theorem qd_Z_acknowledged_6 : decode qc_Z_acknowledged 6 = .ok (.getfield 65, 3) := by decide +kernel
theorem qd_Z_acknowledged_9 : decode qc_Z_acknowledged 9 = .ok (.iload_n 1, 1) := by decide +kernel
theorem qd_Z_acknowledged_10 : decode qc_Z_acknowledged 10 = .ok (.aload_n 0, 1) := by decide +kernel
theorem qd_Z_acknowledged_11 : decode qc_Z_acknowledged 11 = .ok (.getfield 65, 3) := by decide +kernel
theorem qd_Z_acknowledged_14 : decode qc_Z_acknowledged 14 = .ok (.iload_n 1, 1) := by decide +kernel
theorem qd_Z_acknowledged_15 : decode qc_Z_acknowledged 15 = .ok (.baload, 1) := by decide +kernel
theorem qd_Z_acknowledged_16 : decode qc_Z_acknowledged 16 = .ok (.ifCond .ne 22, 3) := by decide +kernel
theorem qd_Z_acknowledged_19 : decode qc_Z_acknowledged 19 = .ok (.aload_n 0, 1) := by decide +kernel
theorem qd_Z_acknowledged_20 : decode qc_Z_acknowledged 20 = .ok (.getfield 56, 3) := by decide +kernel
theorem qd_Z_acknowledged_23 : decode qc_Z_acknowledged 23 = .ok (.iload_n 1, 1) := by decide +kernel
theorem qd_Z_acknowledged_24 : decode qc_Z_acknowledged 24 = .ok (.baload, 1) := by decide +kernel
theorem qd_Z_acknowledged_25 : decode qc_Z_acknowledged 25 = .ok (.ifCond .eq 17, 3) := by decide +kernel
theorem qd_Z_acknowledged_28 : decode qc_Z_acknowledged 28 = .ok (.aload_n 0, 1) := by decide +kernel
theorem qd_Z_acknowledged_29 : decode qc_Z_acknowledged 29 = .ok (.getfield 68, 3) := by decide +kernel
theorem qd_Z_acknowledged_32 : decode qc_Z_acknowledged 32 = .ok (.iload_n 1, 1) := by decide +kernel
theorem qd_Z_acknowledged_33 : decode qc_Z_acknowledged 33 = .ok (.iaload, 1) := by decide +kernel
theorem qd_Z_acknowledged_34 : decode qc_Z_acknowledged 34 = .ok (.iload_n 2, 1) := by decide +kernel
theorem qd_Z_acknowledged_35 : decode qc_Z_acknowledged 35 = .ok (.if_icmp .ne 7, 3) := by decide +kernel
theorem qd_Z_acknowledged_38 : decode qc_Z_acknowledged 38 = .ok (.iconst 1, 1) := by decide +kernel
theorem qd_Z_acknowledged_39 : decode qc_Z_acknowledged 39 = .ok (.goto 4, 3) := by decide +kernel
theorem qd_Z_acknowledged_42 : decode qc_Z_acknowledged 42 = .ok (.iconst 0, 1) := by decide +kernel
theorem qd_Z_acknowledged_43 : decode qc_Z_acknowledged 43 = .ok (.bastore, 1) := by decide +kernel
theorem qd_Z_acknowledged_44 : decode qc_Z_acknowledged 44 = .ok (.return_, 1) := by decide +kernel
theorem qd_Z_acknowledged_45 : decode qc_Z_acknowledged 45 = .ok (.aload_n 0, 1) := by decide +kernel
theorem qd_Z_acknowledged_46 : decode qc_Z_acknowledged 46 = .ok (.iload_n 1, 1) := by decide +kernel
theorem qd_Z_acknowledged_47 : decode qc_Z_acknowledged 47 = .ok (.iload_n 2, 1) := by decide +kernel
theorem qd_Z_acknowledged_48 : decode qc_Z_acknowledged 48 = .ok (.iload_n 3, 1) := by decide +kernel
theorem qd_Z_acknowledged_49 : decode qc_Z_acknowledged 49 = .ok (.iload 4, 2) := by decide +kernel
theorem qd_Z_acknowledged_51 : decode qc_Z_acknowledged 51 = .ok (.invokevirtual 133, 3) := by decide +kernel
theorem qd_Z_acknowledged_54 : decode qc_Z_acknowledged 54 = .ok (.istore 5, 2) := by decide +kernel
theorem qd_Z_acknowledged_56 : decode qc_Z_acknowledged 56 = .ok (.iload 5, 2) := by decide +kernel
theorem qd_Z_acknowledged_58 : decode qc_Z_acknowledged 58 = .ok (.ifCond .ge 4, 3) := by decide +kernel
theorem qd_Z_acknowledged_61 : decode qc_Z_acknowledged 61 = .ok (.return_, 1) := by decide +kernel
theorem qd_Z_acknowledged_62 : decode qc_Z_acknowledged 62 = .ok (.aload_n 0, 1) := by decide +kernel
theorem qd_Z_acknowledged_63 : decode qc_Z_acknowledged 63 = .ok (.iload_n 1, 1) := by decide +kernel
theorem qd_Z_acknowledged_64 : decode qc_Z_acknowledged 64 = .ok (.iload 5, 2) := by decide +kernel
theorem qd_Z_acknowledged_66 : decode qc_Z_acknowledged 66 = .ok (.invokevirtual 137, 3) := by decide +kernel
theorem qd_Z_acknowledged_69 : decode qc_Z_acknowledged 69 = .ok (.aload_n 0, 1) := by decide +kernel
theorem qd_Z_acknowledged_70 : decode qc_Z_acknowledged 70 = .ok (.iconst 2, 1) := by decide +kernel
theorem qd_Z_acknowledged_71 : decode qc_Z_acknowledged 71 = .ok (.iload_n 1, 1) := by decide +kernel
theorem qd_Z_acknowledged_72 : decode qc_Z_acknowledged 72 = .ok (.iload_n 3, 1) := by decide +kernel
theorem qd_Z_acknowledged_73 : decode qc_Z_acknowledged 73 = .ok (.iload_n 2, 1) := by decide +kernel
theorem qd_Z_acknowledged_74 : decode qc_Z_acknowledged 74 = .ok (.iload_n 3, 1) := by decide +kernel
theorem qd_Z_acknowledged_75 : decode qc_Z_acknowledged 75 = .ok (.iload 4, 2) := by decide +kernel
theorem qd_Z_acknowledged_77 : decode qc_Z_acknowledged 77 = .ok (.invokevirtual 123, 3) := by decide +kernel
theorem qd_Z_acknowledged_80 : decode qc_Z_acknowledged 80 = .ok (.return_, 1) := by decide +kernel
theorem qd_Z_relayOf_0 : decode qc_Z_relayOf 0 = .ok (.iconst (-1), 1) := by decide +kernel
theorem qd_Z_relayOf_1 : decode qc_Z_relayOf 1 = .ok (.istore 5, 2) := by decide +kernel
theorem qd_Z_relayOf_3 : decode qc_Z_relayOf 3 = .ok (.aload_n 0, 1) := by decide +kernel
theorem qd_Z_relayOf_4 : decode qc_Z_relayOf 4 = .ok (.getfield 50, 3) := by decide +kernel
theorem qd_Z_relayOf_7 : decode qc_Z_relayOf 7 = .ok (.iload_n 1, 1) := by decide +kernel
theorem qd_Z_relayOf_8 : decode qc_Z_relayOf 8 = .ok (.iaload, 1) := by decide +kernel
theorem qd_Z_relayOf_9 : decode qc_Z_relayOf 9 = .ok (.iconst 1, 1) := by decide +kernel
theorem qd_Z_relayOf_10 : decode qc_Z_relayOf 10 = .ok (.isub, 1) := by decide +kernel
theorem qd_Z_relayOf_11 : decode qc_Z_relayOf 11 = .ok (.istore 6, 2) := by decide +kernel
theorem qd_Z_relayOf_13 : decode qc_Z_relayOf 13 = .ok (.iload 6, 2) := by decide +kernel
theorem qd_Z_relayOf_15 : decode qc_Z_relayOf 15 = .ok (.ifCond .lt 67, 3) := by decide +kernel
theorem qd_Z_relayOf_18 : decode qc_Z_relayOf 18 = .ok (.bipush 16, 2) := by decide +kernel
theorem qd_Z_relayOf_20 : decode qc_Z_relayOf 20 = .ok (.iload_n 1, 1) := by decide +kernel
theorem qd_Z_relayOf_21 : decode qc_Z_relayOf 21 = .ok (.imul, 1) := by decide +kernel
theorem qd_Z_relayOf_22 : decode qc_Z_relayOf 22 = .ok (.iconst 4, 1) := by decide +kernel
theorem qd_Z_relayOf_23 : decode qc_Z_relayOf 23 = .ok (.iload 6, 2) := by decide +kernel
theorem qd_Z_relayOf_25 : decode qc_Z_relayOf 25 = .ok (.imul, 1) := by decide +kernel
theorem qd_Z_relayOf_26 : decode qc_Z_relayOf 26 = .ok (.iadd, 1) := by decide +kernel
theorem qd_Z_relayOf_27 : decode qc_Z_relayOf 27 = .ok (.istore 7, 2) := by decide +kernel
theorem qd_Z_relayOf_29 : decode qc_Z_relayOf 29 = .ok (.aload_n 0, 1) := by decide +kernel
theorem qd_Z_relayOf_30 : decode qc_Z_relayOf 30 = .ok (.getfield 53, 3) := by decide +kernel
theorem qd_Z_relayOf_33 : decode qc_Z_relayOf 33 = .ok (.iload 7, 2) := by decide +kernel
theorem qd_Z_relayOf_35 : decode qc_Z_relayOf 35 = .ok (.iaload, 1) := by decide +kernel
theorem qd_Z_relayOf_36 : decode qc_Z_relayOf 36 = .ok (.iload_n 2, 1) := by decide +kernel
theorem qd_Z_relayOf_37 : decode qc_Z_relayOf 37 = .ok (.if_icmp .ne 35, 3) := by decide +kernel
theorem qd_Z_relayOf_40 : decode qc_Z_relayOf 40 = .ok (.aload_n 0, 1) := by decide +kernel
theorem qd_Z_relayOf_41 : decode qc_Z_relayOf 41 = .ok (.getfield 53, 3) := by decide +kernel
theorem qd_Z_relayOf_44 : decode qc_Z_relayOf 44 = .ok (.iload 7, 2) := by decide +kernel
theorem qd_Z_relayOf_46 : decode qc_Z_relayOf 46 = .ok (.iconst 1, 1) := by decide +kernel
theorem qd_Z_relayOf_47 : decode qc_Z_relayOf 47 = .ok (.iadd, 1) := by decide +kernel
theorem qd_Z_relayOf_48 : decode qc_Z_relayOf 48 = .ok (.iaload, 1) := by decide +kernel
theorem qd_Z_relayOf_49 : decode qc_Z_relayOf 49 = .ok (.iload_n 3, 1) := by decide +kernel
theorem qd_Z_relayOf_50 : decode qc_Z_relayOf 50 = .ok (.if_icmp .ne 22, 3) := by decide +kernel
theorem qd_Z_relayOf_53 : decode qc_Z_relayOf 53 = .ok (.aload_n 0, 1) := by decide +kernel
theorem qd_Z_relayOf_54 : decode qc_Z_relayOf 54 = .ok (.getfield 53, 3) := by decide +kernel
theorem qd_Z_relayOf_57 : decode qc_Z_relayOf 57 = .ok (.iload 7, 2) := by decide +kernel
theorem qd_Z_relayOf_59 : decode qc_Z_relayOf 59 = .ok (.iconst 2, 1) := by decide +kernel
theorem qd_Z_relayOf_60 : decode qc_Z_relayOf 60 = .ok (.iadd, 1) := by decide +kernel
theorem qd_Z_relayOf_61 : decode qc_Z_relayOf 61 = .ok (.iaload, 1) := by decide +kernel
theorem qd_Z_relayOf_62 : decode qc_Z_relayOf 62 = .ok (.iload 4, 2) := by decide +kernel
theorem qd_Z_relayOf_64 : decode qc_Z_relayOf 64 = .ok (.if_icmp .ne 8, 3) := by decide +kernel
theorem qd_Z_relayOf_67 : decode qc_Z_relayOf 67 = .ok (.iload 6, 2) := by decide +kernel
theorem qd_Z_relayOf_69 : decode qc_Z_relayOf 69 = .ok (.goto 5, 3) := by decide +kernel
theorem qd_Z_relayOf_72 : decode qc_Z_relayOf 72 = .ok (.iload 5, 2) := by decide +kernel
theorem qd_Z_relayOf_74 : decode qc_Z_relayOf 74 = .ok (.istore 5, 2) := by decide +kernel
theorem qd_Z_relayOf_76 : decode qc_Z_relayOf 76 = .ok (.iinc 6 (-1), 3) := by decide +kernel
theorem qd_Z_relayOf_79 : decode qc_Z_relayOf 79 = .ok (.goto (-66), 3) := by decide +kernel
theorem qd_Z_relayOf_82 : decode qc_Z_relayOf 82 = .ok (.iload 5, 2) := by decide +kernel
theorem qd_Z_relayOf_84 : decode qc_Z_relayOf 84 = .ok (.ireturn, 1) := by decide +kernel
theorem qd_Z_removeRelay_0 : decode qc_Z_removeRelay 0 = .ok (.aload_n 0, 1) := by decide +kernel
theorem qd_Z_removeRelay_1 : decode qc_Z_removeRelay 1 = .ok (.getfield 50, 3) := by decide +kernel
theorem qd_Z_removeRelay_4 : decode qc_Z_removeRelay 4 = .ok (.iload_n 1, 1) := by decide +kernel
theorem qd_Z_removeRelay_5 : decode qc_Z_removeRelay 5 = .ok (.dup2, 1) := by decide +kernel
theorem qd_Z_removeRelay_6 : decode qc_Z_removeRelay 6 = .ok (.iaload, 1) := by decide +kernel
theorem qd_Z_removeRelay_7 : decode qc_Z_removeRelay 7 = .ok (.iconst 1, 1) := by decide +kernel
theorem qd_Z_removeRelay_8 : decode qc_Z_removeRelay 8 = .ok (.isub, 1) := by decide +kernel
theorem qd_Z_removeRelay_9 : decode qc_Z_removeRelay 9 = .ok (.iastore, 1) := by decide +kernel
theorem qd_Z_removeRelay_10 : decode qc_Z_removeRelay 10 = .ok (.bipush 16, 2) := by decide +kernel
theorem qd_Z_removeRelay_12 : decode qc_Z_removeRelay 12 = .ok (.iload_n 1, 1) := by decide +kernel
theorem qd_Z_removeRelay_13 : decode qc_Z_removeRelay 13 = .ok (.imul, 1) := by decide +kernel
theorem qd_Z_removeRelay_14 : decode qc_Z_removeRelay 14 = .ok (.iconst 4, 1) := by decide +kernel
theorem qd_Z_removeRelay_15 : decode qc_Z_removeRelay 15 = .ok (.iload_n 2, 1) := by decide +kernel
theorem qd_Z_removeRelay_16 : decode qc_Z_removeRelay 16 = .ok (.imul, 1) := by decide +kernel
theorem qd_Z_removeRelay_17 : decode qc_Z_removeRelay 17 = .ok (.iadd, 1) := by decide +kernel
theorem qd_Z_removeRelay_18 : decode qc_Z_removeRelay 18 = .ok (.istore_n 3, 1) := by decide +kernel
theorem qd_Z_removeRelay_19 : decode qc_Z_removeRelay 19 = .ok (.iload_n 3, 1) := by decide +kernel
theorem qd_Z_removeRelay_20 : decode qc_Z_removeRelay 20 = .ok (.bipush 16, 2) := by decide +kernel
theorem qd_Z_removeRelay_22 : decode qc_Z_removeRelay 22 = .ok (.iload_n 1, 1) := by decide +kernel
theorem qd_Z_removeRelay_23 : decode qc_Z_removeRelay 23 = .ok (.imul, 1) := by decide +kernel
theorem qd_Z_removeRelay_24 : decode qc_Z_removeRelay 24 = .ok (.iconst 4, 1) := by decide +kernel
theorem qd_Z_removeRelay_25 : decode qc_Z_removeRelay 25 = .ok (.aload_n 0, 1) := by decide +kernel
theorem qd_Z_removeRelay_26 : decode qc_Z_removeRelay 26 = .ok (.getfield 50, 3) := by decide +kernel
theorem qd_Z_removeRelay_29 : decode qc_Z_removeRelay 29 = .ok (.iload_n 1, 1) := by decide +kernel
theorem qd_Z_removeRelay_30 : decode qc_Z_removeRelay 30 = .ok (.iaload, 1) := by decide +kernel
theorem qd_Z_removeRelay_31 : decode qc_Z_removeRelay 31 = .ok (.imul, 1) := by decide +kernel
theorem qd_Z_removeRelay_32 : decode qc_Z_removeRelay 32 = .ok (.iadd, 1) := by decide +kernel
theorem qd_Z_removeRelay_33 : decode qc_Z_removeRelay 33 = .ok (.if_icmp .ge 23, 3) := by decide +kernel
theorem qd_Z_removeRelay_36 : decode qc_Z_removeRelay 36 = .ok (.aload_n 0, 1) := by decide +kernel
theorem qd_Z_removeRelay_37 : decode qc_Z_removeRelay 37 = .ok (.getfield 53, 3) := by decide +kernel
theorem qd_Z_removeRelay_40 : decode qc_Z_removeRelay 40 = .ok (.iload_n 3, 1) := by decide +kernel
theorem qd_Z_removeRelay_41 : decode qc_Z_removeRelay 41 = .ok (.aload_n 0, 1) := by decide +kernel
theorem qd_Z_removeRelay_42 : decode qc_Z_removeRelay 42 = .ok (.getfield 53, 3) := by decide +kernel
theorem qd_Z_removeRelay_45 : decode qc_Z_removeRelay 45 = .ok (.iload_n 3, 1) := by decide +kernel
theorem qd_Z_removeRelay_46 : decode qc_Z_removeRelay 46 = .ok (.iconst 4, 1) := by decide +kernel
theorem qd_Z_removeRelay_47 : decode qc_Z_removeRelay 47 = .ok (.iadd, 1) := by decide +kernel
theorem qd_Z_removeRelay_48 : decode qc_Z_removeRelay 48 = .ok (.iaload, 1) := by decide +kernel
theorem qd_Z_removeRelay_49 : decode qc_Z_removeRelay 49 = .ok (.iastore, 1) := by decide +kernel
theorem qd_Z_removeRelay_50 : decode qc_Z_removeRelay 50 = .ok (.iinc 3 1, 3) := by decide +kernel
theorem qd_Z_removeRelay_53 : decode qc_Z_removeRelay 53 = .ok (.goto (-34), 3) := by decide +kernel
theorem qd_Z_removeRelay_56 : decode qc_Z_removeRelay 56 = .ok (.return_, 1) := by decide +kernel
theorem qd_Z_help_0 : decode qc_Z_help 0 = .ok (.aload_n 0, 1) := by decide +kernel
theorem qd_Z_help_1 : decode qc_Z_help 1 = .ok (.getfield 50, 3) := by decide +kernel
theorem qd_Z_help_4 : decode qc_Z_help 4 = .ok (.iload_n 1, 1) := by decide +kernel
theorem qd_Z_help_5 : decode qc_Z_help 5 = .ok (.iaload, 1) := by decide +kernel
theorem qd_Z_help_6 : decode qc_Z_help 6 = .ok (.iconst 4, 1) := by decide +kernel
theorem qd_Z_help_7 : decode qc_Z_help 7 = .ok (.if_icmp .ne 4, 3) := by decide +kernel
theorem qd_Z_help_10 : decode qc_Z_help 10 = .ok (.return_, 1) := by decide +kernel
theorem qd_Z_help_11 : decode qc_Z_help 11 = .ok (.bipush 16, 2) := by decide +kernel
theorem qd_Z_help_13 : decode qc_Z_help 13 = .ok (.iload_n 1, 1) := by decide +kernel
theorem qd_Z_help_14 : decode qc_Z_help 14 = .ok (.imul, 1) := by decide +kernel
theorem qd_Z_help_15 : decode qc_Z_help 15 = .ok (.iconst 4, 1) := by decide +kernel
theorem qd_Z_help_16 : decode qc_Z_help 16 = .ok (.aload_n 0, 1) := by decide +kernel
theorem qd_Z_help_17 : decode qc_Z_help 17 = .ok (.getfield 50, 3) := by decide +kernel
theorem qd_Z_help_20 : decode qc_Z_help 20 = .ok (.iload_n 1, 1) := by decide +kernel
theorem qd_Z_help_21 : decode qc_Z_help 21 = .ok (.iaload, 1) := by decide +kernel
theorem qd_Z_help_22 : decode qc_Z_help 22 = .ok (.imul, 1) := by decide +kernel
theorem qd_Z_help_23 : decode qc_Z_help 23 = .ok (.iadd, 1) := by decide +kernel
theorem qd_Z_help_24 : decode qc_Z_help 24 = .ok (.istore 5, 2) := by decide +kernel
theorem qd_Z_help_26 : decode qc_Z_help 26 = .ok (.aload_n 0, 1) := by decide +kernel
theorem qd_Z_help_27 : decode qc_Z_help 27 = .ok (.getfield 53, 3) := by decide +kernel
theorem qd_Z_help_30 : decode qc_Z_help 30 = .ok (.iload 5, 2) := by decide +kernel
theorem qd_Z_help_32 : decode qc_Z_help 32 = .ok (.iload_n 2, 1) := by decide +kernel
theorem qd_Z_help_33 : decode qc_Z_help 33 = .ok (.iastore, 1) := by decide +kernel
theorem qd_Z_help_34 : decode qc_Z_help 34 = .ok (.aload_n 0, 1) := by decide +kernel
theorem qd_Z_help_35 : decode qc_Z_help 35 = .ok (.getfield 53, 3) := by decide +kernel
theorem qd_Z_help_38 : decode qc_Z_help 38 = .ok (.iload 5, 2) := by decide +kernel
theorem qd_Z_help_40 : decode qc_Z_help 40 = .ok (.iconst 1, 1) := by decide +kernel
theorem qd_Z_help_41 : decode qc_Z_help 41 = .ok (.iadd, 1) := by decide +kernel
theorem qd_Z_help_42 : decode qc_Z_help 42 = .ok (.iload_n 3, 1) := by decide +kernel
theorem qd_Z_help_43 : decode qc_Z_help 43 = .ok (.iastore, 1) := by decide +kernel
theorem qd_Z_help_44 : decode qc_Z_help 44 = .ok (.aload_n 0, 1) := by decide +kernel
theorem qd_Z_help_45 : decode qc_Z_help 45 = .ok (.getfield 53, 3) := by decide +kernel
theorem qd_Z_help_48 : decode qc_Z_help 48 = .ok (.iload 5, 2) := by decide +kernel
theorem qd_Z_help_50 : decode qc_Z_help 50 = .ok (.iconst 2, 1) := by decide +kernel
theorem qd_Z_help_51 : decode qc_Z_help 51 = .ok (.iadd, 1) := by decide +kernel
theorem qd_Z_help_52 : decode qc_Z_help 52 = .ok (.iload 4, 2) := by decide +kernel
theorem qd_Z_help_54 : decode qc_Z_help 54 = .ok (.iastore, 1) := by decide +kernel
theorem qd_Z_help_55 : decode qc_Z_help 55 = .ok (.aload_n 0, 1) := by decide +kernel
theorem qd_Z_help_56 : decode qc_Z_help 56 = .ok (.getfield 53, 3) := by decide +kernel
theorem qd_Z_help_59 : decode qc_Z_help 59 = .ok (.iload 5, 2) := by decide +kernel
theorem qd_Z_help_61 : decode qc_Z_help 61 = .ok (.iconst 3, 1) := by decide +kernel
theorem qd_Z_help_62 : decode qc_Z_help 62 = .ok (.iadd, 1) := by decide +kernel
theorem qd_Z_help_63 : decode qc_Z_help 63 = .ok (.iconst 0, 1) := by decide +kernel
theorem qd_Z_help_64 : decode qc_Z_help 64 = .ok (.iastore, 1) := by decide +kernel
theorem qd_Z_help_65 : decode qc_Z_help 65 = .ok (.aload_n 0, 1) := by decide +kernel
theorem qd_Z_help_66 : decode qc_Z_help 66 = .ok (.getfield 50, 3) := by decide +kernel
theorem qd_Z_help_69 : decode qc_Z_help 69 = .ok (.iload_n 1, 1) := by decide +kernel
theorem qd_Z_help_70 : decode qc_Z_help 70 = .ok (.dup2, 1) := by decide +kernel
theorem qd_Z_help_71 : decode qc_Z_help 71 = .ok (.iaload, 1) := by decide +kernel
theorem qd_Z_help_72 : decode qc_Z_help 72 = .ok (.iconst 1, 1) := by decide +kernel
theorem qd_Z_help_73 : decode qc_Z_help 73 = .ok (.iadd, 1) := by decide +kernel
theorem qd_Z_help_74 : decode qc_Z_help 74 = .ok (.iastore, 1) := by decide +kernel
theorem qd_Z_help_75 : decode qc_Z_help 75 = .ok (.aload_n 0, 1) := by decide +kernel
theorem qd_Z_help_76 : decode qc_Z_help 76 = .ok (.iconst 1, 1) := by decide +kernel
theorem qd_Z_help_77 : decode qc_Z_help 77 = .ok (.iload_n 1, 1) := by decide +kernel
theorem qd_Z_help_78 : decode qc_Z_help 78 = .ok (.iload 4, 2) := by decide +kernel
theorem qd_Z_help_80 : decode qc_Z_help 80 = .ok (.iload_n 2, 1) := by decide +kernel
theorem qd_Z_help_81 : decode qc_Z_help 81 = .ok (.iload_n 3, 1) := by decide +kernel
theorem qd_Z_help_82 : decode qc_Z_help 82 = .ok (.iload 4, 2) := by decide +kernel
theorem qd_Z_help_84 : decode qc_Z_help 84 = .ok (.invokevirtual 123, 3) := by decide +kernel
theorem qd_Z_help_87 : decode qc_Z_help 87 = .ok (.return_, 1) := by decide +kernel
theorem qd_Z_time_0 : decode qc_Z_time 0 = .ok (.aload_n 0, 1) := by decide +kernel
theorem qd_Z_time_1 : decode qc_Z_time 1 = .ok (.iload_n 1, 1) := by decide +kernel
theorem qd_Z_time_2 : decode qc_Z_time 2 = .ok (.invokevirtual 166, 3) := by decide +kernel
theorem qd_Z_time_5 : decode qc_Z_time 5 = .ok (.aload_n 0, 1) := by decide +kernel
theorem qd_Z_time_6 : decode qc_Z_time 6 = .ok (.iload_n 1, 1) := by decide +kernel
theorem qd_Z_time_7 : decode qc_Z_time 7 = .ok (.invokevirtual 169, 3) := by decide +kernel
theorem qd_Z_time_10 : decode qc_Z_time 10 = .ok (.aload_n 0, 1) := by decide +kernel
theorem qd_Z_time_11 : decode qc_Z_time 11 = .ok (.iload_n 1, 1) := by decide +kernel
theorem qd_Z_time_12 : decode qc_Z_time 12 = .ok (.invokevirtual 172, 3) := by decide +kernel
theorem qd_Z_time_15 : decode qc_Z_time 15 = .ok (.aload_n 0, 1) := by decide +kernel
theorem qd_Z_time_16 : decode qc_Z_time 16 = .ok (.getfield 112, 3) := by decide +kernel
theorem qd_Z_time_19 : decode qc_Z_time 19 = .ok (.aload_n 0, 1) := by decide +kernel
theorem qd_Z_time_20 : decode qc_Z_time 20 = .ok (.getfield 23, 3) := by decide +kernel
theorem qd_Z_time_23 : decode qc_Z_time 23 = .ok (.iload_n 1, 1) := by decide +kernel
theorem qd_Z_time_24 : decode qc_Z_time 24 = .ok (.iaload, 1) := by decide +kernel
theorem qd_Z_time_25 : decode qc_Z_time 25 = .ok (.isub, 1) := by decide +kernel
theorem qd_Z_time_26 : decode qc_Z_time 26 = .ok (.bipush 20, 2) := by decide +kernel
theorem qd_Z_time_28 : decode qc_Z_time 28 = .ok (.irem, 1) := by decide +kernel
theorem qd_Z_time_29 : decode qc_Z_time 29 = .ok (.ifCond .eq 4, 3) := by decide +kernel
theorem qd_Z_time_32 : decode qc_Z_time 32 = .ok (.return_, 1) := by decide +kernel
theorem qd_Z_time_33 : decode qc_Z_time 33 = .ok (.aload_n 0, 1) := by decide +kernel
theorem qd_Z_time_34 : decode qc_Z_time 34 = .ok (.iload_n 1, 1) := by decide +kernel
theorem qd_Z_time_35 : decode qc_Z_time 35 = .ok (.aload_n 0, 1) := by decide +kernel
theorem qd_Z_time_36 : decode qc_Z_time 36 = .ok (.getfield 83, 3) := by decide +kernel
theorem qd_Z_time_39 : decode qc_Z_time 39 = .ok (.iload_n 1, 1) := by decide +kernel
theorem qd_Z_time_40 : decode qc_Z_time 40 = .ok (.iaload, 1) := by decide +kernel
theorem qd_Z_time_41 : decode qc_Z_time 41 = .ok (.iconst (-1), 1) := by decide +kernel
theorem qd_Z_time_42 : decode qc_Z_time 42 = .ok (.iconst 0, 1) := by decide +kernel
theorem qd_Z_time_43 : decode qc_Z_time 43 = .ok (.invokevirtual 153, 3) := by decide +kernel
theorem qd_Z_time_46 : decode qc_Z_time 46 = .ok (.istore_n 2, 1) := by decide +kernel
theorem qd_Z_time_47 : decode qc_Z_time 47 = .ok (.iload_n 2, 1) := by decide +kernel
theorem qd_Z_time_48 : decode qc_Z_time 48 = .ok (.ifCond .ge 4, 3) := by decide +kernel
theorem qd_Z_time_51 : decode qc_Z_time 51 = .ok (.return_, 1) := by decide +kernel
theorem qd_Z_time_52 : decode qc_Z_time 52 = .ok (.aload_n 0, 1) := by decide +kernel
theorem qd_Z_time_53 : decode qc_Z_time 53 = .ok (.getfield 83, 3) := by decide +kernel
theorem qd_Z_time_56 : decode qc_Z_time 56 = .ok (.iload_n 1, 1) := by decide +kernel
theorem qd_Z_time_57 : decode qc_Z_time 57 = .ok (.iload_n 2, 1) := by decide +kernel
theorem qd_Z_time_58 : decode qc_Z_time 58 = .ok (.iastore, 1) := by decide +kernel
theorem qd_Z_time_59 : decode qc_Z_time 59 = .ok (.aload_n 0, 1) := by decide +kernel
theorem qd_Z_time_60 : decode qc_Z_time 60 = .ok (.bipush 6, 2) := by decide +kernel
theorem qd_Z_time_62 : decode qc_Z_time 62 = .ok (.iload_n 1, 1) := by decide +kernel
theorem qd_Z_time_63 : decode qc_Z_time 63 = .ok (.iload_n 2, 1) := by decide +kernel
theorem qd_Z_time_64 : decode qc_Z_time 64 = .ok (.iconst 0, 1) := by decide +kernel
theorem qd_Z_time_65 : decode qc_Z_time 65 = .ok (.iconst 0, 1) := by decide +kernel
theorem qd_Z_time_66 : decode qc_Z_time 66 = .ok (.iconst 0, 1) := by decide +kernel
theorem qd_Z_time_67 : decode qc_Z_time 67 = .ok (.invokevirtual 123, 3) := by decide +kernel
theorem qd_Z_time_70 : decode qc_Z_time 70 = .ok (.return_, 1) := by decide +kernel
theorem qd_Z_ageRelays_0 : decode qc_Z_ageRelays 0 = .ok (.iconst 0, 1) := by decide +kernel
theorem qd_Z_ageRelays_1 : decode qc_Z_ageRelays 1 = .ok (.istore_n 2, 1) := by decide +kernel
theorem qd_Z_ageRelays_2 : decode qc_Z_ageRelays 2 = .ok (.iload_n 2, 1) := by decide +kernel
theorem qd_Z_ageRelays_3 : decode qc_Z_ageRelays 3 = .ok (.aload_n 0, 1) := by decide +kernel
theorem qd_Z_ageRelays_4 : decode qc_Z_ageRelays 4 = .ok (.getfield 50, 3) := by decide +kernel
theorem qd_Z_ageRelays_7 : decode qc_Z_ageRelays 7 = .ok (.iload_n 1, 1) := by decide +kernel
theorem qd_Z_ageRelays_8 : decode qc_Z_ageRelays 8 = .ok (.iaload, 1) := by decide +kernel
theorem qd_Z_ageRelays_9 : decode qc_Z_ageRelays 9 = .ok (.if_icmp .ge 28, 3) := by decide +kernel
theorem qd_Z_ageRelays_12 : decode qc_Z_ageRelays 12 = .ok (.aload_n 0, 1) := by decide +kernel
theorem qd_Z_ageRelays_13 : decode qc_Z_ageRelays 13 = .ok (.getfield 53, 3) := by decide +kernel
theorem qd_Z_ageRelays_16 : decode qc_Z_ageRelays 16 = .ok (.bipush 16, 2) := by decide +kernel
theorem qd_Z_ageRelays_18 : decode qc_Z_ageRelays 18 = .ok (.iload_n 1, 1) := by decide +kernel
theorem qd_Z_ageRelays_19 : decode qc_Z_ageRelays 19 = .ok (.imul, 1) := by decide +kernel
theorem qd_Z_ageRelays_20 : decode qc_Z_ageRelays 20 = .ok (.iconst 4, 1) := by decide +kernel
theorem qd_Z_ageRelays_21 : decode qc_Z_ageRelays 21 = .ok (.iload_n 2, 1) := by decide +kernel
theorem qd_Z_ageRelays_22 : decode qc_Z_ageRelays 22 = .ok (.imul, 1) := by decide +kernel
theorem qd_Z_ageRelays_23 : decode qc_Z_ageRelays 23 = .ok (.iadd, 1) := by decide +kernel
theorem qd_Z_ageRelays_24 : decode qc_Z_ageRelays 24 = .ok (.iconst 3, 1) := by decide +kernel
theorem qd_Z_ageRelays_25 : decode qc_Z_ageRelays 25 = .ok (.iadd, 1) := by decide +kernel
theorem qd_Z_ageRelays_26 : decode qc_Z_ageRelays 26 = .ok (.dup2, 1) := by decide +kernel
theorem qd_Z_ageRelays_27 : decode qc_Z_ageRelays 27 = .ok (.iaload, 1) := by decide +kernel
theorem qd_Z_ageRelays_28 : decode qc_Z_ageRelays 28 = .ok (.iconst 1, 1) := by decide +kernel
theorem qd_Z_ageRelays_29 : decode qc_Z_ageRelays 29 = .ok (.iadd, 1) := by decide +kernel
theorem qd_Z_ageRelays_30 : decode qc_Z_ageRelays 30 = .ok (.iastore, 1) := by decide +kernel
theorem qd_Z_ageRelays_31 : decode qc_Z_ageRelays 31 = .ok (.iinc 2 1, 3) := by decide +kernel
theorem qd_Z_ageRelays_34 : decode qc_Z_ageRelays 34 = .ok (.goto (-32), 3) := by decide +kernel
theorem qd_Z_ageRelays_37 : decode qc_Z_ageRelays 37 = .ok (.aload_n 0, 1) := by decide +kernel
theorem qd_Z_ageRelays_38 : decode qc_Z_ageRelays 38 = .ok (.getfield 50, 3) := by decide +kernel
theorem qd_Z_ageRelays_41 : decode qc_Z_ageRelays 41 = .ok (.iload_n 1, 1) := by decide +kernel
theorem qd_Z_ageRelays_42 : decode qc_Z_ageRelays 42 = .ok (.iaload, 1) := by decide +kernel
theorem qd_Z_ageRelays_43 : decode qc_Z_ageRelays 43 = .ok (.ifCond .le 73, 3) := by decide +kernel
theorem qd_Z_ageRelays_46 : decode qc_Z_ageRelays 46 = .ok (.aload_n 0, 1) := by decide +kernel
theorem qd_Z_ageRelays_47 : decode qc_Z_ageRelays 47 = .ok (.getfield 53, 3) := by decide +kernel
theorem qd_Z_ageRelays_50 : decode qc_Z_ageRelays 50 = .ok (.bipush 16, 2) := by decide +kernel
theorem qd_Z_ageRelays_52 : decode qc_Z_ageRelays 52 = .ok (.iload_n 1, 1) := by decide +kernel
theorem qd_Z_ageRelays_53 : decode qc_Z_ageRelays 53 = .ok (.imul, 1) := by decide +kernel
theorem qd_Z_ageRelays_54 : decode qc_Z_ageRelays 54 = .ok (.iconst 3, 1) := by decide +kernel
theorem qd_Z_ageRelays_55 : decode qc_Z_ageRelays 55 = .ok (.iadd, 1) := by decide +kernel
theorem qd_Z_ageRelays_56 : decode qc_Z_ageRelays 56 = .ok (.iaload, 1) := by decide +kernel
theorem qd_Z_ageRelays_57 : decode qc_Z_ageRelays 57 = .ok (.iconst 3, 1) := by decide +kernel
theorem qd_Z_ageRelays_58 : decode qc_Z_ageRelays 58 = .ok (.if_icmp .lt 58, 3) := by decide +kernel
theorem qd_Z_ageRelays_61 : decode qc_Z_ageRelays 61 = .ok (.aload_n 0, 1) := by decide +kernel
theorem qd_Z_ageRelays_62 : decode qc_Z_ageRelays 62 = .ok (.getfield 53, 3) := by decide +kernel
theorem qd_Z_ageRelays_65 : decode qc_Z_ageRelays 65 = .ok (.bipush 16, 2) := by decide +kernel
theorem qd_Z_ageRelays_67 : decode qc_Z_ageRelays 67 = .ok (.iload_n 1, 1) := by decide +kernel
theorem qd_Z_ageRelays_68 : decode qc_Z_ageRelays 68 = .ok (.imul, 1) := by decide +kernel
theorem qd_Z_ageRelays_69 : decode qc_Z_ageRelays 69 = .ok (.iaload, 1) := by decide +kernel
theorem qd_Z_ageRelays_70 : decode qc_Z_ageRelays 70 = .ok (.istore_n 2, 1) := by decide +kernel
theorem qd_Z_ageRelays_71 : decode qc_Z_ageRelays 71 = .ok (.aload_n 0, 1) := by decide +kernel
theorem qd_Z_ageRelays_72 : decode qc_Z_ageRelays 72 = .ok (.getfield 53, 3) := by decide +kernel
theorem qd_Z_ageRelays_75 : decode qc_Z_ageRelays 75 = .ok (.bipush 16, 2) := by decide +kernel
theorem qd_Z_ageRelays_77 : decode qc_Z_ageRelays 77 = .ok (.iload_n 1, 1) := by decide +kernel
theorem qd_Z_ageRelays_78 : decode qc_Z_ageRelays 78 = .ok (.imul, 1) := by decide +kernel
theorem qd_Z_ageRelays_79 : decode qc_Z_ageRelays 79 = .ok (.iconst 1, 1) := by decide +kernel
theorem qd_Z_ageRelays_80 : decode qc_Z_ageRelays 80 = .ok (.iadd, 1) := by decide +kernel
theorem qd_Z_ageRelays_81 : decode qc_Z_ageRelays 81 = .ok (.iaload, 1) := by decide +kernel
theorem qd_Z_ageRelays_82 : decode qc_Z_ageRelays 82 = .ok (.istore_n 3, 1) := by decide +kernel
theorem qd_Z_ageRelays_83 : decode qc_Z_ageRelays 83 = .ok (.aload_n 0, 1) := by decide +kernel
theorem qd_Z_ageRelays_84 : decode qc_Z_ageRelays 84 = .ok (.getfield 53, 3) := by decide +kernel
theorem qd_Z_ageRelays_87 : decode qc_Z_ageRelays 87 = .ok (.bipush 16, 2) := by decide +kernel
theorem qd_Z_ageRelays_89 : decode qc_Z_ageRelays 89 = .ok (.iload_n 1, 1) := by decide +kernel
theorem qd_Z_ageRelays_90 : decode qc_Z_ageRelays 90 = .ok (.imul, 1) := by decide +kernel
theorem qd_Z_ageRelays_91 : decode qc_Z_ageRelays 91 = .ok (.iconst 2, 1) := by decide +kernel
theorem qd_Z_ageRelays_92 : decode qc_Z_ageRelays 92 = .ok (.iadd, 1) := by decide +kernel
theorem qd_Z_ageRelays_93 : decode qc_Z_ageRelays 93 = .ok (.iaload, 1) := by decide +kernel
theorem qd_Z_ageRelays_94 : decode qc_Z_ageRelays 94 = .ok (.istore 4, 2) := by decide +kernel
theorem qd_Z_ageRelays_96 : decode qc_Z_ageRelays 96 = .ok (.aload_n 0, 1) := by decide +kernel
theorem qd_Z_ageRelays_97 : decode qc_Z_ageRelays 97 = .ok (.iload_n 1, 1) := by decide +kernel
theorem qd_Z_ageRelays_98 : decode qc_Z_ageRelays 98 = .ok (.iconst 0, 1) := by decide +kernel
theorem qd_Z_ageRelays_99 : decode qc_Z_ageRelays 99 = .ok (.invokevirtual 137, 3) := by decide +kernel
theorem qd_Z_ageRelays_102 : decode qc_Z_ageRelays 102 = .ok (.aload_n 0, 1) := by decide +kernel
theorem qd_Z_ageRelays_103 : decode qc_Z_ageRelays 103 = .ok (.iconst 4, 1) := by decide +kernel
theorem qd_Z_ageRelays_104 : decode qc_Z_ageRelays 104 = .ok (.iload_n 1, 1) := by decide +kernel
theorem qd_Z_ageRelays_105 : decode qc_Z_ageRelays 105 = .ok (.iload_n 3, 1) := by decide +kernel
theorem qd_Z_ageRelays_106 : decode qc_Z_ageRelays 106 = .ok (.iload_n 2, 1) := by decide +kernel
theorem qd_Z_ageRelays_107 : decode qc_Z_ageRelays 107 = .ok (.iload_n 3, 1) := by decide +kernel
theorem qd_Z_ageRelays_108 : decode qc_Z_ageRelays 108 = .ok (.iload 4, 2) := by decide +kernel
theorem qd_Z_ageRelays_110 : decode qc_Z_ageRelays 110 = .ok (.invokevirtual 123, 3) := by decide +kernel
theorem qd_Z_ageRelays_113 : decode qc_Z_ageRelays 113 = .ok (.goto (-76), 3) := by decide +kernel
theorem qd_Z_ageRelays_116 : decode qc_Z_ageRelays 116 = .ok (.return_, 1) := by decide +kernel
theorem qd_Z_expire_0 : decode qc_Z_expire 0 = .ok (.iconst 0, 1) := by decide +kernel
theorem qd_Z_expire_1 : decode qc_Z_expire 1 = .ok (.istore_n 2, 1) := by decide +kernel
theorem qd_Z_expire_2 : decode qc_Z_expire 2 = .ok (.iload_n 2, 1) := by decide +kernel
theorem qd_Z_expire_3 : decode qc_Z_expire 3 = .ok (.aload_n 0, 1) := by decide +kernel
theorem qd_Z_expire_4 : decode qc_Z_expire 4 = .ok (.getfield 86, 3) := by decide +kernel
theorem qd_Z_expire_7 : decode qc_Z_expire 7 = .ok (.if_icmp .ge 92, 3) := by decide +kernel
theorem qd_Z_expire_10 : decode qc_Z_expire 10 = .ok (.bipush 8, 2) := by decide +kernel
theorem qd_Z_expire_12 : decode qc_Z_expire 12 = .ok (.iload_n 1, 1) := by decide +kernel
theorem qd_Z_expire_13 : decode qc_Z_expire 13 = .ok (.imul, 1) := by decide +kernel
theorem qd_Z_expire_14 : decode qc_Z_expire 14 = .ok (.iload_n 2, 1) := by decide +kernel
theorem qd_Z_expire_15 : decode qc_Z_expire 15 = .ok (.iadd, 1) := by decide +kernel
theorem qd_Z_expire_16 : decode qc_Z_expire 16 = .ok (.istore_n 3, 1) := by decide +kernel
theorem qd_Z_expire_17 : decode qc_Z_expire 17 = .ok (.aload_n 0, 1) := by decide +kernel
theorem qd_Z_expire_18 : decode qc_Z_expire 18 = .ok (.getfield 38, 3) := by decide +kernel
theorem qd_Z_expire_21 : decode qc_Z_expire 21 = .ok (.iload_n 3, 1) := by decide +kernel
theorem qd_Z_expire_22 : decode qc_Z_expire 22 = .ok (.iaload, 1) := by decide +kernel
theorem qd_Z_expire_23 : decode qc_Z_expire 23 = .ok (.invokestatic 150, 3) := by decide +kernel
theorem qd_Z_expire_26 : decode qc_Z_expire 26 = .ok (.istore 4, 2) := by decide +kernel
theorem qd_Z_expire_28 : decode qc_Z_expire 28 = .ok (.iload 4, 2) := by decide +kernel
theorem qd_Z_expire_30 : decode qc_Z_expire 30 = .ok (.iconst 3, 1) := by decide +kernel
theorem qd_Z_expire_31 : decode qc_Z_expire 31 = .ok (.if_icmp .le 7, 3) := by decide +kernel
theorem qd_Z_expire_34 : decode qc_Z_expire 34 = .ok (.iconst 3, 1) := by decide +kernel
theorem qd_Z_expire_35 : decode qc_Z_expire 35 = .ok (.goto 5, 3) := by decide +kernel
theorem qd_Z_expire_38 : decode qc_Z_expire 38 = .ok (.iload 4, 2) := by decide +kernel
theorem qd_Z_expire_40 : decode qc_Z_expire 40 = .ok (.istore 4, 2) := by decide +kernel
theorem qd_Z_expire_42 : decode qc_Z_expire 42 = .ok (.iload_n 2, 1) := by decide +kernel
theorem qd_Z_expire_43 : decode qc_Z_expire 43 = .ok (.iload_n 1, 1) := by decide +kernel
theorem qd_Z_expire_44 : decode qc_Z_expire 44 = .ok (.if_icmp .eq 49, 3) := by decide +kernel
theorem qd_Z_expire_47 : decode qc_Z_expire 47 = .ok (.aload_n 0, 1) := by decide +kernel
theorem qd_Z_expire_48 : decode qc_Z_expire 48 = .ok (.getfield 29, 3) := by decide +kernel
theorem qd_Z_expire_51 : decode qc_Z_expire 51 = .ok (.iload_n 3, 1) := by decide +kernel
theorem qd_Z_expire_52 : decode qc_Z_expire 52 = .ok (.iaload, 1) := by decide +kernel
theorem qd_Z_expire_53 : decode qc_Z_expire 53 = .ok (.iconst 2, 1) := by decide +kernel
theorem qd_Z_expire_54 : decode qc_Z_expire 54 = .ok (.if_icmp .ne 39, 3) := by decide +kernel
theorem qd_Z_expire_57 : decode qc_Z_expire 57 = .ok (.aload_n 0, 1) := by decide +kernel
theorem qd_Z_expire_58 : decode qc_Z_expire 58 = .ok (.getfield 112, 3) := by decide +kernel
theorem qd_Z_expire_61 : decode qc_Z_expire 61 = .ok (.aload_n 0, 1) := by decide +kernel
theorem qd_Z_expire_62 : decode qc_Z_expire 62 = .ok (.getfield 35, 3) := by decide +kernel
theorem qd_Z_expire_65 : decode qc_Z_expire 65 = .ok (.iload_n 3, 1) := by decide +kernel
theorem qd_Z_expire_66 : decode qc_Z_expire 66 = .ok (.iaload, 1) := by decide +kernel
theorem qd_Z_expire_67 : decode qc_Z_expire 67 = .ok (.isub, 1) := by decide +kernel
theorem qd_Z_expire_68 : decode qc_Z_expire 68 = .ok (.bipush 24, 2) := by decide +kernel
theorem qd_Z_expire_70 : decode qc_Z_expire 70 = .ok (.bipush 6, 2) := by decide +kernel
theorem qd_Z_expire_72 : decode qc_Z_expire 72 = .ok (.iload 4, 2) := by decide +kernel
theorem qd_Z_expire_74 : decode qc_Z_expire 74 = .ok (.imul, 1) := by decide +kernel
theorem qd_Z_expire_75 : decode qc_Z_expire 75 = .ok (.isub, 1) := by decide +kernel
theorem qd_Z_expire_76 : decode qc_Z_expire 76 = .ok (.if_icmp .lt 17, 3) := by decide +kernel
theorem qd_Z_expire_79 : decode qc_Z_expire 79 = .ok (.aload_n 0, 1) := by decide +kernel
theorem qd_Z_expire_80 : decode qc_Z_expire 80 = .ok (.iload_n 1, 1) := by decide +kernel
theorem qd_Z_expire_81 : decode qc_Z_expire 81 = .ok (.iload_n 2, 1) := by decide +kernel
theorem qd_Z_expire_82 : decode qc_Z_expire 82 = .ok (.iconst 3, 1) := by decide +kernel
theorem qd_Z_expire_83 : decode qc_Z_expire 83 = .ok (.aload_n 0, 1) := by decide +kernel
theorem qd_Z_expire_84 : decode qc_Z_expire 84 = .ok (.getfield 32, 3) := by decide +kernel
theorem qd_Z_expire_87 : decode qc_Z_expire 87 = .ok (.iload_n 3, 1) := by decide +kernel
theorem qd_Z_expire_88 : decode qc_Z_expire 88 = .ok (.iaload, 1) := by decide +kernel
theorem qd_Z_expire_89 : decode qc_Z_expire 89 = .ok (.iload_n 1, 1) := by decide +kernel
theorem qd_Z_expire_90 : decode qc_Z_expire 90 = .ok (.invokevirtual 119, 3) := by decide +kernel
theorem qd_Z_expire_93 : decode qc_Z_expire 93 = .ok (.iinc 2 1, 3) := by decide +kernel
theorem qd_Z_expire_96 : decode qc_Z_expire 96 = .ok (.goto (-94), 3) := by decide +kernel
theorem qd_Z_expire_99 : decode qc_Z_expire 99 = .ok (.return_, 1) := by decide +kernel
theorem qd_Z_count_0 : decode qc_Z_count 0 = .ok (.iconst 0, 1) := by decide +kernel
theorem qd_Z_count_1 : decode qc_Z_count 1 = .ok (.istore_n 1, 1) := by decide +kernel
theorem qd_Z_count_2 : decode qc_Z_count 2 = .ok (.iconst 0, 1) := by decide +kernel
theorem qd_Z_count_3 : decode qc_Z_count 3 = .ok (.istore_n 2, 1) := by decide +kernel
theorem qd_Z_count_4 : decode qc_Z_count 4 = .ok (.iload_n 2, 1) := by decide +kernel
theorem qd_Z_count_5 : decode qc_Z_count 5 = .ok (.bipush 8, 2) := by decide +kernel
theorem qd_Z_count_7 : decode qc_Z_count 7 = .ok (.if_icmp .ge 17, 3) := by decide +kernel
theorem qd_Z_count_10 : decode qc_Z_count 10 = .ok (.iload_n 1, 1) := by decide +kernel
theorem qd_Z_count_11 : decode qc_Z_count 11 = .ok (.iload_n 0, 1) := by decide +kernel
theorem qd_Z_count_12 : decode qc_Z_count 12 = .ok (.iload_n 2, 1) := by decide +kernel
theorem qd_Z_count_13 : decode qc_Z_count 13 = .ok (.ishr, 1) := by decide +kernel
theorem qd_Z_count_14 : decode qc_Z_count 14 = .ok (.iconst 1, 1) := by decide +kernel
theorem qd_Z_count_15 : decode qc_Z_count 15 = .ok (.iand, 1) := by decide +kernel
theorem qd_Z_count_16 : decode qc_Z_count 16 = .ok (.iadd, 1) := by decide +kernel
theorem qd_Z_count_17 : decode qc_Z_count 17 = .ok (.istore_n 1, 1) := by decide +kernel
theorem qd_Z_count_18 : decode qc_Z_count 18 = .ok (.iinc 2 1, 3) := by decide +kernel
theorem qd_Z_count_21 : decode qc_Z_count 21 = .ok (.goto (-17), 3) := by decide +kernel
theorem qd_Z_count_24 : decode qc_Z_count 24 = .ok (.iload_n 1, 1) := by decide +kernel
theorem qd_Z_count_25 : decode qc_Z_count 25 = .ok (.ireturn, 1) := by decide +kernel
theorem qd_Z_probe_0 : decode qc_Z_probe 0 = .ok (.aload_n 0, 1) := by decide +kernel
theorem qd_Z_probe_1 : decode qc_Z_probe 1 = .ok (.getfield 56, 3) := by decide +kernel
theorem qd_Z_probe_4 : decode qc_Z_probe 4 = .ok (.iload_n 1, 1) := by decide +kernel
theorem qd_Z_probe_5 : decode qc_Z_probe 5 = .ok (.baload, 1) := by decide +kernel
theorem qd_Z_probe_6 : decode qc_Z_probe 6 = .ok (.ifCond .ne 28, 3) := by decide +kernel
theorem qd_Z_probe_9 : decode qc_Z_probe 9 = .ok (.aload_n 0, 1) := by decide +kernel
theorem qd_Z_probe_10 : decode qc_Z_probe 10 = .ok (.getfield 71, 3) := by decide +kernel
theorem qd_Z_probe_13 : decode qc_Z_probe 13 = .ok (.iload_n 1, 1) := by decide +kernel
theorem qd_Z_probe_14 : decode qc_Z_probe 14 = .ok (.dup2, 1) := by decide +kernel
theorem qd_Z_probe_15 : decode qc_Z_probe 15 = .ok (.iaload, 1) := by decide +kernel
theorem qd_Z_probe_16 : decode qc_Z_probe 16 = .ok (.iconst 1, 1) := by decide +kernel
theorem qd_Z_probe_17 : decode qc_Z_probe 17 = .ok (.isub, 1) := by decide +kernel
theorem qd_Z_probe_18 : decode qc_Z_probe 18 = .ok (.iastore, 1) := by decide +kernel
theorem qd_Z_probe_19 : decode qc_Z_probe 19 = .ok (.aload_n 0, 1) := by decide +kernel
theorem qd_Z_probe_20 : decode qc_Z_probe 20 = .ok (.getfield 71, 3) := by decide +kernel
theorem qd_Z_probe_23 : decode qc_Z_probe 23 = .ok (.iload_n 1, 1) := by decide +kernel
theorem qd_Z_probe_24 : decode qc_Z_probe 24 = .ok (.iaload, 1) := by decide +kernel
theorem qd_Z_probe_25 : decode qc_Z_probe 25 = .ok (.ifCond .ne 8, 3) := by decide +kernel
theorem qd_Z_probe_28 : decode qc_Z_probe 28 = .ok (.aload_n 0, 1) := by decide +kernel
theorem qd_Z_probe_29 : decode qc_Z_probe 29 = .ok (.iload_n 1, 1) := by decide +kernel
theorem qd_Z_probe_30 : decode qc_Z_probe 30 = .ok (.invokevirtual 157, 3) := by decide +kernel
theorem qd_Z_probe_33 : decode qc_Z_probe 33 = .ok (.return_, 1) := by decide +kernel
theorem qd_Z_probe_34 : decode qc_Z_probe 34 = .ok (.aload_n 0, 1) := by decide +kernel
theorem qd_Z_probe_35 : decode qc_Z_probe 35 = .ok (.getfield 62, 3) := by decide +kernel
theorem qd_Z_probe_38 : decode qc_Z_probe 38 = .ok (.iload_n 1, 1) := by decide +kernel
theorem qd_Z_probe_39 : decode qc_Z_probe 39 = .ok (.dup2, 1) := by decide +kernel
theorem qd_Z_probe_40 : decode qc_Z_probe 40 = .ok (.iaload, 1) := by decide +kernel
theorem qd_Z_probe_41 : decode qc_Z_probe 41 = .ok (.iconst 1, 1) := by decide +kernel
theorem qd_Z_probe_42 : decode qc_Z_probe 42 = .ok (.iadd, 1) := by decide +kernel
theorem qd_Z_probe_43 : decode qc_Z_probe 43 = .ok (.iastore, 1) := by decide +kernel
theorem qd_Z_probe_44 : decode qc_Z_probe 44 = .ok (.aload_n 0, 1) := by decide +kernel
theorem qd_Z_probe_45 : decode qc_Z_probe 45 = .ok (.getfield 62, 3) := by decide +kernel
theorem qd_Z_probe_48 : decode qc_Z_probe 48 = .ok (.iload_n 1, 1) := by decide +kernel
theorem qd_Z_probe_49 : decode qc_Z_probe 49 = .ok (.iaload, 1) := by decide +kernel
theorem qd_Z_probe_50 : decode qc_Z_probe 50 = .ok (.iconst 3, 1) := by decide +kernel
theorem qd_Z_probe_51 : decode qc_Z_probe 51 = .ok (.if_icmp .ne 17, 3) := by decide +kernel
theorem qd_Z_probe_54 : decode qc_Z_probe 54 = .ok (.aload_n 0, 1) := by decide +kernel
theorem qd_Z_probe_55 : decode qc_Z_probe 55 = .ok (.getfield 65, 3) := by decide +kernel
theorem qd_Z_probe_58 : decode qc_Z_probe 58 = .ok (.iload_n 1, 1) := by decide +kernel
theorem qd_Z_probe_59 : decode qc_Z_probe 59 = .ok (.baload, 1) := by decide +kernel
theorem qd_Z_probe_60 : decode qc_Z_probe 60 = .ok (.ifCond .ne 8, 3) := by decide +kernel
theorem qd_Z_probe_63 : decode qc_Z_probe 63 = .ok (.aload_n 0, 1) := by decide +kernel
theorem qd_Z_probe_64 : decode qc_Z_probe 64 = .ok (.iload_n 1, 1) := by decide +kernel
theorem qd_Z_probe_65 : decode qc_Z_probe 65 = .ok (.invokevirtual 160, 3) := by decide +kernel
theorem qd_Z_probe_68 : decode qc_Z_probe 68 = .ok (.aload_n 0, 1) := by decide +kernel
theorem qd_Z_probe_69 : decode qc_Z_probe 69 = .ok (.getfield 62, 3) := by decide +kernel
theorem qd_Z_probe_72 : decode qc_Z_probe 72 = .ok (.iload_n 1, 1) := by decide +kernel
theorem qd_Z_probe_73 : decode qc_Z_probe 73 = .ok (.iaload, 1) := by decide +kernel
theorem qd_Z_probe_74 : decode qc_Z_probe 74 = .ok (.bipush 8, 2) := by decide +kernel
theorem qd_Z_probe_76 : decode qc_Z_probe 76 = .ok (.if_icmp .ne 8, 3) := by decide +kernel
theorem qd_Z_probe_79 : decode qc_Z_probe 79 = .ok (.aload_n 0, 1) := by decide +kernel
theorem qd_Z_probe_80 : decode qc_Z_probe 80 = .ok (.iload_n 1, 1) := by decide +kernel
theorem qd_Z_probe_81 : decode qc_Z_probe 81 = .ok (.invokevirtual 163, 3) := by decide +kernel
theorem qd_Z_probe_84 : decode qc_Z_probe 84 = .ok (.return_, 1) := by decide +kernel
theorem qd_Z_begin_0 : decode qc_Z_begin 0 = .ok (.aload_n 0, 1) := by decide +kernel
theorem qd_Z_begin_1 : decode qc_Z_begin 1 = .ok (.iload_n 1, 1) := by decide +kernel
theorem qd_Z_begin_2 : decode qc_Z_begin 2 = .ok (.aload_n 0, 1) := by decide +kernel
theorem qd_Z_begin_3 : decode qc_Z_begin 3 = .ok (.getfield 80, 3) := by decide +kernel
theorem qd_Z_begin_6 : decode qc_Z_begin 6 = .ok (.iload_n 1, 1) := by decide +kernel
theorem qd_Z_begin_7 : decode qc_Z_begin 7 = .ok (.iaload, 1) := by decide +kernel
theorem qd_Z_begin_8 : decode qc_Z_begin 8 = .ok (.iconst (-1), 1) := by decide +kernel
theorem qd_Z_begin_9 : decode qc_Z_begin 9 = .ok (.iconst 1, 1) := by decide +kernel
theorem qd_Z_begin_10 : decode qc_Z_begin 10 = .ok (.invokevirtual 153, 3) := by decide +kernel
theorem qd_Z_begin_13 : decode qc_Z_begin 13 = .ok (.istore_n 2, 1) := by decide +kernel
theorem qd_Z_begin_14 : decode qc_Z_begin 14 = .ok (.iload_n 2, 1) := by decide +kernel
theorem qd_Z_begin_15 : decode qc_Z_begin 15 = .ok (.ifCond .ge 11, 3) := by decide +kernel
theorem qd_Z_begin_18 : decode qc_Z_begin 18 = .ok (.aload_n 0, 1) := by decide +kernel
theorem qd_Z_begin_19 : decode qc_Z_begin 19 = .ok (.getfield 71, 3) := by decide +kernel
theorem qd_Z_begin_22 : decode qc_Z_begin 22 = .ok (.iload_n 1, 1) := by decide +kernel
theorem qd_Z_begin_23 : decode qc_Z_begin 23 = .ok (.iconst 3, 1) := by decide +kernel
theorem qd_Z_begin_24 : decode qc_Z_begin 24 = .ok (.iastore, 1) := by decide +kernel
theorem qd_Z_begin_25 : decode qc_Z_begin 25 = .ok (.return_, 1) := by decide +kernel
theorem qd_Z_begin_26 : decode qc_Z_begin 26 = .ok (.aload_n 0, 1) := by decide +kernel
theorem qd_Z_begin_27 : decode qc_Z_begin 27 = .ok (.getfield 56, 3) := by decide +kernel
theorem qd_Z_begin_30 : decode qc_Z_begin 30 = .ok (.iload_n 1, 1) := by decide +kernel
theorem qd_Z_begin_31 : decode qc_Z_begin 31 = .ok (.iconst 1, 1) := by decide +kernel
theorem qd_Z_begin_32 : decode qc_Z_begin 32 = .ok (.bastore, 1) := by decide +kernel
theorem qd_Z_begin_33 : decode qc_Z_begin 33 = .ok (.aload_n 0, 1) := by decide +kernel
theorem qd_Z_begin_34 : decode qc_Z_begin 34 = .ok (.getfield 80, 3) := by decide +kernel
theorem qd_Z_begin_37 : decode qc_Z_begin 37 = .ok (.iload_n 1, 1) := by decide +kernel
theorem qd_Z_begin_38 : decode qc_Z_begin 38 = .ok (.iload_n 2, 1) := by decide +kernel
theorem qd_Z_begin_39 : decode qc_Z_begin 39 = .ok (.iastore, 1) := by decide +kernel
theorem qd_Z_begin_40 : decode qc_Z_begin 40 = .ok (.aload_n 0, 1) := by decide +kernel
theorem qd_Z_begin_41 : decode qc_Z_begin 41 = .ok (.getfield 59, 3) := by decide +kernel
theorem qd_Z_begin_44 : decode qc_Z_begin 44 = .ok (.iload_n 1, 1) := by decide +kernel
theorem qd_Z_begin_45 : decode qc_Z_begin 45 = .ok (.iload_n 2, 1) := by decide +kernel
theorem qd_Z_begin_46 : decode qc_Z_begin 46 = .ok (.iastore, 1) := by decide +kernel
theorem qd_Z_begin_47 : decode qc_Z_begin 47 = .ok (.aload_n 0, 1) := by decide +kernel
theorem qd_Z_begin_48 : decode qc_Z_begin 48 = .ok (.getfield 62, 3) := by decide +kernel
theorem qd_Z_begin_51 : decode qc_Z_begin 51 = .ok (.iload_n 1, 1) := by decide +kernel
theorem qd_Z_begin_52 : decode qc_Z_begin 52 = .ok (.iconst 0, 1) := by decide +kernel
theorem qd_Z_begin_53 : decode qc_Z_begin 53 = .ok (.iastore, 1) := by decide +kernel
theorem qd_Z_begin_54 : decode qc_Z_begin 54 = .ok (.aload_n 0, 1) := by decide +kernel
theorem qd_Z_begin_55 : decode qc_Z_begin 55 = .ok (.getfield 65, 3) := by decide +kernel
theorem qd_Z_begin_58 : decode qc_Z_begin 58 = .ok (.iload_n 1, 1) := by decide +kernel
theorem qd_Z_begin_59 : decode qc_Z_begin 59 = .ok (.iconst 0, 1) := by decide +kernel
theorem qd_Z_begin_60 : decode qc_Z_begin 60 = .ok (.bastore, 1) := by decide +kernel
theorem qd_Z_begin_61 : decode qc_Z_begin 61 = .ok (.aload_n 0, 1) := by decide +kernel
theorem qd_Z_begin_62 : decode qc_Z_begin 62 = .ok (.getfield 74, 3) := by decide +kernel
theorem qd_Z_begin_65 : decode qc_Z_begin 65 = .ok (.iload_n 1, 1) := by decide +kernel
theorem qd_Z_begin_66 : decode qc_Z_begin 66 = .ok (.iconst 0, 1) := by decide +kernel
theorem qd_Z_begin_67 : decode qc_Z_begin 67 = .ok (.iastore, 1) := by decide +kernel
theorem qd_Z_begin_68 : decode qc_Z_begin 68 = .ok (.aload_n 0, 1) := by decide +kernel
theorem qd_Z_begin_69 : decode qc_Z_begin 69 = .ok (.getfield 77, 3) := by decide +kernel
theorem qd_Z_begin_72 : decode qc_Z_begin 72 = .ok (.iload_n 1, 1) := by decide +kernel
theorem qd_Z_begin_73 : decode qc_Z_begin 73 = .ok (.iconst 0, 1) := by decide +kernel
theorem qd_Z_begin_74 : decode qc_Z_begin 74 = .ok (.iastore, 1) := by decide +kernel
theorem qd_Z_begin_75 : decode qc_Z_begin 75 = .ok (.aload_n 0, 1) := by decide +kernel
theorem qd_Z_begin_76 : decode qc_Z_begin 76 = .ok (.getfield 68, 3) := by decide +kernel
theorem qd_Z_begin_79 : decode qc_Z_begin 79 = .ok (.iload_n 1, 1) := by decide +kernel
theorem qd_Z_begin_80 : decode qc_Z_begin 80 = .ok (.dup2, 1) := by decide +kernel
theorem qd_Z_begin_81 : decode qc_Z_begin 81 = .ok (.iaload, 1) := by decide +kernel
theorem qd_Z_begin_82 : decode qc_Z_begin 82 = .ok (.iconst 1, 1) := by decide +kernel
theorem qd_Z_begin_83 : decode qc_Z_begin 83 = .ok (.iadd, 1) := by decide +kernel
theorem qd_Z_begin_84 : decode qc_Z_begin 84 = .ok (.iastore, 1) := by decide +kernel
theorem qd_Z_begin_85 : decode qc_Z_begin 85 = .ok (.aload_n 0, 1) := by decide +kernel
theorem qd_Z_begin_86 : decode qc_Z_begin 86 = .ok (.iconst 1, 1) := by decide +kernel
theorem qd_Z_begin_87 : decode qc_Z_begin 87 = .ok (.iload_n 1, 1) := by decide +kernel
theorem qd_Z_begin_88 : decode qc_Z_begin 88 = .ok (.iload_n 2, 1) := by decide +kernel
theorem qd_Z_begin_89 : decode qc_Z_begin 89 = .ok (.aload_n 0, 1) := by decide +kernel
theorem qd_Z_begin_90 : decode qc_Z_begin 90 = .ok (.getfield 68, 3) := by decide +kernel
theorem qd_Z_begin_93 : decode qc_Z_begin 93 = .ok (.iload_n 1, 1) := by decide +kernel
theorem qd_Z_begin_94 : decode qc_Z_begin 94 = .ok (.iaload, 1) := by decide +kernel
theorem qd_Z_begin_95 : decode qc_Z_begin 95 = .ok (.iload_n 1, 1) := by decide +kernel
theorem qd_Z_begin_96 : decode qc_Z_begin 96 = .ok (.iload_n 2, 1) := by decide +kernel
theorem qd_Z_begin_97 : decode qc_Z_begin 97 = .ok (.invokevirtual 123, 3) := by decide +kernel
theorem qd_Z_begin_100 : decode qc_Z_begin 100 = .ok (.return_, 1) := by decide +kernel
theorem qd_Z_nextOf_0 : decode qc_Z_nextOf 0 = .ok (.iconst 1, 1) := by decide +kernel
theorem qd_Z_nextOf_1 : decode qc_Z_nextOf 1 = .ok (.istore 5, 2) := by decide +kernel
theorem qd_Z_nextOf_3 : decode qc_Z_nextOf 3 = .ok (.iload 5, 2) := by decide +kernel
theorem qd_Z_nextOf_5 : decode qc_Z_nextOf 5 = .ok (.aload_n 0, 1) := by decide +kernel
theorem qd_Z_nextOf_6 : decode qc_Z_nextOf 6 = .ok (.getfield 86, 3) := by decide +kernel
theorem qd_Z_nextOf_9 : decode qc_Z_nextOf 9 = .ok (.if_icmp .gt 66, 3) := by decide +kernel
theorem qd_Z_nextOf_12 : decode qc_Z_nextOf 12 = .ok (.iload_n 2, 1) := by decide +kernel
theorem qd_Z_nextOf_13 : decode qc_Z_nextOf 13 = .ok (.iload 5, 2) := by decide +kernel
theorem qd_Z_nextOf_15 : decode qc_Z_nextOf 15 = .ok (.iadd, 1) := by decide +kernel
theorem qd_Z_nextOf_16 : decode qc_Z_nextOf 16 = .ok (.aload_n 0, 1) := by decide +kernel
theorem qd_Z_nextOf_17 : decode qc_Z_nextOf 17 = .ok (.getfield 86, 3) := by decide +kernel
theorem qd_Z_nextOf_20 : decode qc_Z_nextOf 20 = .ok (.irem, 1) := by decide +kernel
theorem qd_Z_nextOf_21 : decode qc_Z_nextOf 21 = .ok (.istore 6, 2) := by decide +kernel
theorem qd_Z_nextOf_23 : decode qc_Z_nextOf 23 = .ok (.aload_n 0, 1) := by decide +kernel
theorem qd_Z_nextOf_24 : decode qc_Z_nextOf 24 = .ok (.getfield 29, 3) := by decide +kernel
theorem qd_Z_nextOf_27 : decode qc_Z_nextOf 27 = .ok (.bipush 8, 2) := by decide +kernel
theorem qd_Z_nextOf_29 : decode qc_Z_nextOf 29 = .ok (.iload_n 1, 1) := by decide +kernel
theorem qd_Z_nextOf_30 : decode qc_Z_nextOf 30 = .ok (.imul, 1) := by decide +kernel
theorem qd_Z_nextOf_31 : decode qc_Z_nextOf 31 = .ok (.iload 6, 2) := by decide +kernel
theorem qd_Z_nextOf_33 : decode qc_Z_nextOf 33 = .ok (.iadd, 1) := by decide +kernel
theorem qd_Z_nextOf_34 : decode qc_Z_nextOf 34 = .ok (.iaload, 1) := by decide +kernel
theorem qd_Z_nextOf_35 : decode qc_Z_nextOf 35 = .ok (.istore 7, 2) := by decide +kernel
theorem qd_Z_nextOf_37 : decode qc_Z_nextOf 37 = .ok (.iload 6, 2) := by decide +kernel
theorem qd_Z_nextOf_39 : decode qc_Z_nextOf 39 = .ok (.iload_n 1, 1) := by decide +kernel
theorem qd_Z_nextOf_40 : decode qc_Z_nextOf 40 = .ok (.if_icmp .eq 29, 3) := by decide +kernel
theorem qd_Z_nextOf_43 : decode qc_Z_nextOf 43 = .ok (.iload 6, 2) := by decide +kernel
theorem qd_Z_nextOf_45 : decode qc_Z_nextOf 45 = .ok (.iload_n 3, 1) := by decide +kernel
theorem qd_Z_nextOf_46 : decode qc_Z_nextOf 46 = .ok (.if_icmp .eq 23, 3) := by decide +kernel
theorem qd_Z_nextOf_49 : decode qc_Z_nextOf 49 = .ok (.iload 7, 2) := by decide +kernel
theorem qd_Z_nextOf_51 : decode qc_Z_nextOf 51 = .ok (.iconst 1, 1) := by decide +kernel
theorem qd_Z_nextOf_52 : decode qc_Z_nextOf 52 = .ok (.if_icmp .eq 14, 3) := by decide +kernel
theorem qd_Z_nextOf_55 : decode qc_Z_nextOf 55 = .ok (.iload 4, 2) := by decide +kernel
theorem qd_Z_nextOf_57 : decode qc_Z_nextOf 57 = .ok (.ifCond .eq 12, 3) := by decide +kernel
theorem qd_Z_nextOf_60 : decode qc_Z_nextOf 60 = .ok (.iload 7, 2) := by decide +kernel
theorem qd_Z_nextOf_62 : decode qc_Z_nextOf 62 = .ok (.iconst 2, 1) := by decide +kernel
theorem qd_Z_nextOf_63 : decode qc_Z_nextOf 63 = .ok (.if_icmp .ne 6, 3) := by decide +kernel
theorem qd_Z_nextOf_66 : decode qc_Z_nextOf 66 = .ok (.iload 6, 2) := by decide +kernel
theorem qd_Z_nextOf_68 : decode qc_Z_nextOf 68 = .ok (.ireturn, 1) := by decide +kernel
theorem qd_Z_nextOf_69 : decode qc_Z_nextOf 69 = .ok (.iinc 5 1, 3) := by decide +kernel
theorem qd_Z_nextOf_72 : decode qc_Z_nextOf 72 = .ok (.goto (-69), 3) := by decide +kernel
theorem qd_Z_nextOf_75 : decode qc_Z_nextOf 75 = .ok (.iconst (-1), 1) := by decide +kernel
theorem qd_Z_nextOf_76 : decode qc_Z_nextOf 76 = .ok (.ireturn, 1) := by decide +kernel
theorem qd_Z_askOthers_0 : decode qc_Z_askOthers 0 = .ok (.aload_n 0, 1) := by decide +kernel
theorem qd_Z_askOthers_1 : decode qc_Z_askOthers 1 = .ok (.iload_n 1, 1) := by decide +kernel
theorem qd_Z_askOthers_2 : decode qc_Z_askOthers 2 = .ok (.aload_n 0, 1) := by decide +kernel
theorem qd_Z_askOthers_3 : decode qc_Z_askOthers 3 = .ok (.getfield 59, 3) := by decide +kernel
theorem qd_Z_askOthers_6 : decode qc_Z_askOthers 6 = .ok (.iload_n 1, 1) := by decide +kernel
theorem qd_Z_askOthers_7 : decode qc_Z_askOthers 7 = .ok (.iaload, 1) := by decide +kernel
theorem qd_Z_askOthers_8 : decode qc_Z_askOthers 8 = .ok (.aload_n 0, 1) := by decide +kernel
theorem qd_Z_askOthers_9 : decode qc_Z_askOthers 9 = .ok (.getfield 59, 3) := by decide +kernel
theorem qd_Z_askOthers_12 : decode qc_Z_askOthers 12 = .ok (.iload_n 1, 1) := by decide +kernel
theorem qd_Z_askOthers_13 : decode qc_Z_askOthers 13 = .ok (.iaload, 1) := by decide +kernel
theorem qd_Z_askOthers_14 : decode qc_Z_askOthers 14 = .ok (.iconst 0, 1) := by decide +kernel
theorem qd_Z_askOthers_15 : decode qc_Z_askOthers 15 = .ok (.invokevirtual 153, 3) := by decide +kernel
theorem qd_Z_askOthers_18 : decode qc_Z_askOthers 18 = .ok (.istore_n 2, 1) := by decide +kernel
theorem qd_Z_askOthers_19 : decode qc_Z_askOthers 19 = .ok (.iload_n 2, 1) := by decide +kernel
theorem qd_Z_askOthers_20 : decode qc_Z_askOthers 20 = .ok (.ifCond .ge 4, 3) := by decide +kernel
theorem qd_Z_askOthers_23 : decode qc_Z_askOthers 23 = .ok (.return_, 1) := by decide +kernel
theorem qd_Z_askOthers_24 : decode qc_Z_askOthers 24 = .ok (.aload_n 0, 1) := by decide +kernel
theorem qd_Z_askOthers_25 : decode qc_Z_askOthers 25 = .ok (.iload_n 1, 1) := by decide +kernel
theorem qd_Z_askOthers_26 : decode qc_Z_askOthers 26 = .ok (.iload_n 2, 1) := by decide +kernel
theorem qd_Z_askOthers_27 : decode qc_Z_askOthers 27 = .ok (.aload_n 0, 1) := by decide +kernel
theorem qd_Z_askOthers_28 : decode qc_Z_askOthers 28 = .ok (.getfield 59, 3) := by decide +kernel
theorem qd_Z_askOthers_31 : decode qc_Z_askOthers 31 = .ok (.iload_n 1, 1) := by decide +kernel
theorem qd_Z_askOthers_32 : decode qc_Z_askOthers 32 = .ok (.iaload, 1) := by decide +kernel
theorem qd_Z_askOthers_33 : decode qc_Z_askOthers 33 = .ok (.iconst 0, 1) := by decide +kernel
theorem qd_Z_askOthers_34 : decode qc_Z_askOthers 34 = .ok (.invokevirtual 153, 3) := by decide +kernel
theorem qd_Z_askOthers_37 : decode qc_Z_askOthers 37 = .ok (.istore_n 3, 1) := by decide +kernel
theorem qd_Z_askOthers_38 : decode qc_Z_askOthers 38 = .ok (.aload_n 0, 1) := by decide +kernel
theorem qd_Z_askOthers_39 : decode qc_Z_askOthers 39 = .ok (.getfield 74, 3) := by decide +kernel
theorem qd_Z_askOthers_42 : decode qc_Z_askOthers 42 = .ok (.iload_n 1, 1) := by decide +kernel
theorem qd_Z_askOthers_43 : decode qc_Z_askOthers 43 = .ok (.iload_n 3, 1) := by decide +kernel
theorem qd_Z_askOthers_44 : decode qc_Z_askOthers 44 = .ok (.iload_n 2, 1) := by decide +kernel
theorem qd_Z_askOthers_45 : decode qc_Z_askOthers 45 = .ok (.if_icmp .ne 7, 3) := by decide +kernel
theorem qd_Z_askOthers_48 : decode qc_Z_askOthers 48 = .ok (.iconst 1, 1) := by decide +kernel
theorem qd_Z_askOthers_49 : decode qc_Z_askOthers 49 = .ok (.goto 4, 3) := by decide +kernel
theorem qd_Z_askOthers_52 : decode qc_Z_askOthers 52 = .ok (.iconst 2, 1) := by decide +kernel
theorem qd_Z_askOthers_53 : decode qc_Z_askOthers 53 = .ok (.iastore, 1) := by decide +kernel
theorem qd_Z_askOthers_54 : decode qc_Z_askOthers 54 = .ok (.aload_n 0, 1) := by decide +kernel
theorem qd_Z_askOthers_55 : decode qc_Z_askOthers 55 = .ok (.iconst 3, 1) := by decide +kernel
theorem qd_Z_askOthers_56 : decode qc_Z_askOthers 56 = .ok (.iload_n 1, 1) := by decide +kernel
theorem qd_Z_askOthers_57 : decode qc_Z_askOthers 57 = .ok (.iload_n 2, 1) := by decide +kernel
theorem qd_Z_askOthers_58 : decode qc_Z_askOthers 58 = .ok (.aload_n 0, 1) := by decide +kernel
theorem qd_Z_askOthers_59 : decode qc_Z_askOthers 59 = .ok (.getfield 68, 3) := by decide +kernel
theorem qd_Z_askOthers_62 : decode qc_Z_askOthers 62 = .ok (.iload_n 1, 1) := by decide +kernel
theorem qd_Z_askOthers_63 : decode qc_Z_askOthers 63 = .ok (.iaload, 1) := by decide +kernel
theorem qd_Z_askOthers_64 : decode qc_Z_askOthers 64 = .ok (.iload_n 1, 1) := by decide +kernel
theorem qd_Z_askOthers_65 : decode qc_Z_askOthers 65 = .ok (.aload_n 0, 1) := by decide +kernel
theorem qd_Z_askOthers_66 : decode qc_Z_askOthers 66 = .ok (.getfield 59, 3) := by decide +kernel
theorem qd_Z_askOthers_69 : decode qc_Z_askOthers 69 = .ok (.iload_n 1, 1) := by decide +kernel
theorem qd_Z_askOthers_70 : decode qc_Z_askOthers 70 = .ok (.iaload, 1) := by decide +kernel
theorem qd_Z_askOthers_71 : decode qc_Z_askOthers 71 = .ok (.invokevirtual 123, 3) := by decide +kernel
theorem qd_Z_askOthers_74 : decode qc_Z_askOthers 74 = .ok (.iload_n 3, 1) := by decide +kernel
theorem qd_Z_askOthers_75 : decode qc_Z_askOthers 75 = .ok (.iload_n 2, 1) := by decide +kernel
theorem qd_Z_askOthers_76 : decode qc_Z_askOthers 76 = .ok (.if_icmp .eq 23, 3) := by decide +kernel
theorem qd_Z_askOthers_79 : decode qc_Z_askOthers 79 = .ok (.aload_n 0, 1) := by decide +kernel
theorem qd_Z_askOthers_80 : decode qc_Z_askOthers 80 = .ok (.iconst 3, 1) := by decide +kernel
theorem qd_Z_askOthers_81 : decode qc_Z_askOthers 81 = .ok (.iload_n 1, 1) := by decide +kernel
theorem qd_Z_askOthers_82 : decode qc_Z_askOthers 82 = .ok (.iload_n 3, 1) := by decide +kernel
theorem qd_Z_askOthers_83 : decode qc_Z_askOthers 83 = .ok (.aload_n 0, 1) := by decide +kernel
theorem qd_Z_askOthers_84 : decode qc_Z_askOthers 84 = .ok (.getfield 68, 3) := by decide +kernel
theorem qd_Z_askOthers_87 : decode qc_Z_askOthers 87 = .ok (.iload_n 1, 1) := by decide +kernel
theorem qd_Z_askOthers_88 : decode qc_Z_askOthers 88 = .ok (.iaload, 1) := by decide +kernel
theorem qd_Z_askOthers_89 : decode qc_Z_askOthers 89 = .ok (.iload_n 1, 1) := by decide +kernel
theorem qd_Z_askOthers_90 : decode qc_Z_askOthers 90 = .ok (.aload_n 0, 1) := by decide +kernel
theorem qd_Z_askOthers_91 : decode qc_Z_askOthers 91 = .ok (.getfield 59, 3) := by decide +kernel
theorem qd_Z_askOthers_94 : decode qc_Z_askOthers 94 = .ok (.iload_n 1, 1) := by decide +kernel
theorem qd_Z_askOthers_95 : decode qc_Z_askOthers 95 = .ok (.iaload, 1) := by decide +kernel
theorem qd_Z_askOthers_96 : decode qc_Z_askOthers 96 = .ok (.invokevirtual 123, 3) := by decide +kernel
theorem qd_Z_askOthers_99 : decode qc_Z_askOthers 99 = .ok (.return_, 1) := by decide +kernel
theorem qd_Z_end_0 : decode qc_Z_end 0 = .ok (.aload_n 0, 1) := by decide +kernel
theorem qd_Z_end_1 : decode qc_Z_end 1 = .ok (.getfield 59, 3) := by decide +kernel
theorem qd_Z_end_4 : decode qc_Z_end 4 = .ok (.iload_n 1, 1) := by decide +kernel
theorem qd_Z_end_5 : decode qc_Z_end 5 = .ok (.iaload, 1) := by decide +kernel
theorem qd_Z_end_6 : decode qc_Z_end 6 = .ok (.istore_n 2, 1) := by decide +kernel
theorem qd_Z_end_7 : decode qc_Z_end 7 = .ok (.aload_n 0, 1) := by decide +kernel
theorem qd_Z_end_8 : decode qc_Z_end 8 = .ok (.getfield 74, 3) := by decide +kernel
theorem qd_Z_end_11 : decode qc_Z_end 11 = .ok (.iload_n 1, 1) := by decide +kernel
theorem qd_Z_end_12 : decode qc_Z_end 12 = .ok (.iaload, 1) := by decide +kernel
theorem qd_Z_end_13 : decode qc_Z_end 13 = .ok (.ifCond .ne 7, 3) := by decide +kernel
theorem qd_Z_end_16 : decode qc_Z_end 16 = .ok (.iconst 1, 1) := by decide +kernel
theorem qd_Z_end_17 : decode qc_Z_end 17 = .ok (.goto 35, 3) := by decide +kernel
theorem qd_Z_end_20 : decode qc_Z_end 20 = .ok (.aload_n 0, 1) := by decide +kernel
theorem qd_Z_end_21 : decode qc_Z_end 21 = .ok (.getfield 74, 3) := by decide +kernel
theorem qd_Z_end_24 : decode qc_Z_end 24 = .ok (.iload_n 1, 1) := by decide +kernel
theorem qd_Z_end_25 : decode qc_Z_end 25 = .ok (.iaload, 1) := by decide +kernel
theorem qd_Z_end_26 : decode qc_Z_end 26 = .ok (.aload_n 0, 1) := by decide +kernel
theorem qd_Z_end_27 : decode qc_Z_end 27 = .ok (.getfield 77, 3) := by decide +kernel
theorem qd_Z_end_30 : decode qc_Z_end 30 = .ok (.iload_n 1, 1) := by decide +kernel
theorem qd_Z_end_31 : decode qc_Z_end 31 = .ok (.iaload, 1) := by decide +kernel
theorem qd_Z_end_32 : decode qc_Z_end 32 = .ok (.if_icmp .le 19, 3) := by decide +kernel
theorem qd_Z_end_35 : decode qc_Z_end 35 = .ok (.aload_n 0, 1) := by decide +kernel
theorem qd_Z_end_36 : decode qc_Z_end 36 = .ok (.getfield 74, 3) := by decide +kernel
theorem qd_Z_end_39 : decode qc_Z_end 39 = .ok (.iload_n 1, 1) := by decide +kernel
theorem qd_Z_end_40 : decode qc_Z_end 40 = .ok (.iaload, 1) := by decide +kernel
theorem qd_Z_end_41 : decode qc_Z_end 41 = .ok (.aload_n 0, 1) := by decide +kernel
theorem qd_Z_end_42 : decode qc_Z_end 42 = .ok (.getfield 77, 3) := by decide +kernel
theorem qd_Z_end_45 : decode qc_Z_end 45 = .ok (.iload_n 1, 1) := by decide +kernel
theorem qd_Z_end_46 : decode qc_Z_end 46 = .ok (.iaload, 1) := by decide +kernel
theorem qd_Z_end_47 : decode qc_Z_end 47 = .ok (.isub, 1) := by decide +kernel
theorem qd_Z_end_48 : decode qc_Z_end 48 = .ok (.goto 4, 3) := by decide +kernel
theorem qd_Z_end_51 : decode qc_Z_end 51 = .ok (.iconst 0, 1) := by decide +kernel
theorem qd_Z_end_52 : decode qc_Z_end 52 = .ok (.istore_n 3, 1) := by decide +kernel
theorem qd_Z_end_53 : decode qc_Z_end 53 = .ok (.aload_n 0, 1) := by decide +kernel
theorem qd_Z_end_54 : decode qc_Z_end 54 = .ok (.getfield 65, 3) := by decide +kernel
theorem qd_Z_end_57 : decode qc_Z_end 57 = .ok (.iload_n 1, 1) := by decide +kernel
theorem qd_Z_end_58 : decode qc_Z_end 58 = .ok (.baload, 1) := by decide +kernel
theorem qd_Z_end_59 : decode qc_Z_end 59 = .ok (.ifCond .eq 14, 3) := by decide +kernel
theorem qd_Z_end_62 : decode qc_Z_end 62 = .ok (.aload_n 0, 1) := by decide +kernel
theorem qd_Z_end_63 : decode qc_Z_end 63 = .ok (.getfield 26, 3) := by decide +kernel
theorem qd_Z_end_66 : decode qc_Z_end 66 = .ok (.iload_n 1, 1) := by decide +kernel
theorem qd_Z_end_67 : decode qc_Z_end 67 = .ok (.iaload, 1) := by decide +kernel
theorem qd_Z_end_68 : decode qc_Z_end 68 = .ok (.iconst 1, 1) := by decide +kernel
theorem qd_Z_end_69 : decode qc_Z_end 69 = .ok (.isub, 1) := by decide +kernel
theorem qd_Z_end_70 : decode qc_Z_end 70 = .ok (.goto 11, 3) := by decide +kernel
theorem qd_Z_end_73 : decode qc_Z_end 73 = .ok (.aload_n 0, 1) := by decide +kernel
theorem qd_Z_end_74 : decode qc_Z_end 74 = .ok (.getfield 26, 3) := by decide +kernel
theorem qd_Z_end_77 : decode qc_Z_end 77 = .ok (.iload_n 1, 1) := by decide +kernel
theorem qd_Z_end_78 : decode qc_Z_end 78 = .ok (.iaload, 1) := by decide +kernel
theorem qd_Z_end_79 : decode qc_Z_end 79 = .ok (.iload_n 3, 1) := by decide +kernel
theorem qd_Z_end_80 : decode qc_Z_end 80 = .ok (.iadd, 1) := by decide +kernel
theorem qd_Z_end_81 : decode qc_Z_end 81 = .ok (.istore 4, 2) := by decide +kernel
theorem qd_Z_end_83 : decode qc_Z_end 83 = .ok (.aload_n 0, 1) := by decide +kernel
theorem qd_Z_end_84 : decode qc_Z_end 84 = .ok (.getfield 26, 3) := by decide +kernel
theorem qd_Z_end_87 : decode qc_Z_end 87 = .ok (.iload_n 1, 1) := by decide +kernel
theorem qd_Z_end_88 : decode qc_Z_end 88 = .ok (.iload 4, 2) := by decide +kernel
theorem qd_Z_end_90 : decode qc_Z_end 90 = .ok (.ifCond .ge 7, 3) := by decide +kernel
theorem qd_Z_end_93 : decode qc_Z_end 93 = .ok (.iconst 0, 1) := by decide +kernel
theorem qd_Z_end_94 : decode qc_Z_end 94 = .ok (.goto 15, 3) := by decide +kernel
theorem qd_Z_end_97 : decode qc_Z_end 97 = .ok (.iload 4, 2) := by decide +kernel
theorem qd_Z_end_99 : decode qc_Z_end 99 = .ok (.iconst 4, 1) := by decide +kernel
theorem qd_Z_end_100 : decode qc_Z_end 100 = .ok (.if_icmp .le 7, 3) := by decide +kernel
theorem qd_Z_end_103 : decode qc_Z_end 103 = .ok (.iconst 4, 1) := by decide +kernel
theorem qd_Z_end_104 : decode qc_Z_end 104 = .ok (.goto 5, 3) := by decide +kernel
theorem qd_Z_end_107 : decode qc_Z_end 107 = .ok (.iload 4, 2) := by decide +kernel
theorem qd_Z_end_109 : decode qc_Z_end 109 = .ok (.iastore, 1) := by decide +kernel
theorem qd_Z_end_110 : decode qc_Z_end 110 = .ok (.aload_n 0, 1) := by decide +kernel
theorem qd_Z_end_111 : decode qc_Z_end 111 = .ok (.getfield 65, 3) := by decide +kernel
theorem qd_Z_end_114 : decode qc_Z_end 114 = .ok (.iload_n 1, 1) := by decide +kernel
theorem qd_Z_end_115 : decode qc_Z_end 115 = .ok (.baload, 1) := by decide +kernel
theorem qd_Z_end_116 : decode qc_Z_end 116 = .ok (.ifCond .ne 37, 3) := by decide +kernel
theorem qd_Z_end_119 : decode qc_Z_end 119 = .ok (.aload_n 0, 1) := by decide +kernel
theorem qd_Z_end_120 : decode qc_Z_end 120 = .ok (.getfield 29, 3) := by decide +kernel
theorem qd_Z_end_123 : decode qc_Z_end 123 = .ok (.bipush 8, 2) := by decide +kernel
theorem qd_Z_end_125 : decode qc_Z_end 125 = .ok (.iload_n 1, 1) := by decide +kernel
theorem qd_Z_end_126 : decode qc_Z_end 126 = .ok (.imul, 1) := by decide +kernel
theorem qd_Z_end_127 : decode qc_Z_end 127 = .ok (.iload_n 2, 1) := by decide +kernel
theorem qd_Z_end_128 : decode qc_Z_end 128 = .ok (.iadd, 1) := by decide +kernel
theorem qd_Z_end_129 : decode qc_Z_end 129 = .ok (.iaload, 1) := by decide +kernel
theorem qd_Z_end_130 : decode qc_Z_end 130 = .ok (.iconst 1, 1) := by decide +kernel
theorem qd_Z_end_131 : decode qc_Z_end 131 = .ok (.if_icmp .ne 22, 3) := by decide +kernel
theorem qd_Z_end_134 : decode qc_Z_end 134 = .ok (.aload_n 0, 1) := by decide +kernel
theorem qd_Z_end_135 : decode qc_Z_end 135 = .ok (.iload_n 1, 1) := by decide +kernel
theorem qd_Z_end_136 : decode qc_Z_end 136 = .ok (.iload_n 2, 1) := by decide +kernel
theorem qd_Z_end_137 : decode qc_Z_end 137 = .ok (.iconst 2, 1) := by decide +kernel
theorem qd_Z_end_138 : decode qc_Z_end 138 = .ok (.aload_n 0, 1) := by decide +kernel
theorem qd_Z_end_139 : decode qc_Z_end 139 = .ok (.getfield 32, 3) := by decide +kernel
theorem qd_Z_end_142 : decode qc_Z_end 142 = .ok (.bipush 8, 2) := by decide +kernel
theorem qd_Z_end_144 : decode qc_Z_end 144 = .ok (.iload_n 1, 1) := by decide +kernel
theorem qd_Z_end_145 : decode qc_Z_end 145 = .ok (.imul, 1) := by decide +kernel
theorem qd_Z_end_146 : decode qc_Z_end 146 = .ok (.iload_n 2, 1) := by decide +kernel
theorem qd_Z_end_147 : decode qc_Z_end 147 = .ok (.iadd, 1) := by decide +kernel
theorem qd_Z_end_148 : decode qc_Z_end 148 = .ok (.iaload, 1) := by decide +kernel
theorem qd_Z_end_149 : decode qc_Z_end 149 = .ok (.iload_n 1, 1) := by decide +kernel
theorem qd_Z_end_150 : decode qc_Z_end 150 = .ok (.invokevirtual 119, 3) := by decide +kernel
theorem qd_Z_end_153 : decode qc_Z_end 153 = .ok (.aload_n 0, 1) := by decide +kernel
theorem qd_Z_end_154 : decode qc_Z_end 154 = .ok (.getfield 56, 3) := by decide +kernel
theorem qd_Z_end_157 : decode qc_Z_end 157 = .ok (.iload_n 1, 1) := by decide +kernel
theorem qd_Z_end_158 : decode qc_Z_end 158 = .ok (.iconst 0, 1) := by decide +kernel
theorem qd_Z_end_159 : decode qc_Z_end 159 = .ok (.bastore, 1) := by decide +kernel
theorem qd_Z_end_160 : decode qc_Z_end 160 = .ok (.aload_n 0, 1) := by decide +kernel
theorem qd_Z_end_161 : decode qc_Z_end 161 = .ok (.getfield 71, 3) := by decide +kernel
theorem qd_Z_end_164 : decode qc_Z_end 164 = .ok (.iload_n 1, 1) := by decide +kernel
theorem qd_Z_end_165 : decode qc_Z_end 165 = .ok (.iconst 1, 1) := by decide +kernel
theorem qd_Z_end_166 : decode qc_Z_end 166 = .ok (.aload_n 0, 1) := by decide +kernel
theorem qd_Z_end_167 : decode qc_Z_end 167 = .ok (.getfield 26, 3) := by decide +kernel
theorem qd_Z_end_170 : decode qc_Z_end 170 = .ok (.iload_n 1, 1) := by decide +kernel
theorem qd_Z_end_171 : decode qc_Z_end 171 = .ok (.iaload, 1) := by decide +kernel
theorem qd_Z_end_172 : decode qc_Z_end 172 = .ok (.iadd, 1) := by decide +kernel
theorem qd_Z_end_173 : decode qc_Z_end 173 = .ok (.iastore, 1) := by decide +kernel
theorem qd_Z_end_174 : decode qc_Z_end 174 = .ok (.return_, 1) := by decide +kernel
theorem qd_Z_now_0 : decode qc_Z_now 0 = .ok (.aload_n 0, 1) := by decide +kernel
theorem qd_Z_now_1 : decode qc_Z_now 1 = .ok (.getfield 112, 3) := by decide +kernel
theorem qd_Z_now_4 : decode qc_Z_now 4 = .ok (.ireturn, 1) := by decide +kernel
theorem qd_Z_flight_0 : decode qc_Z_flight 0 = .ok (.aload_n 0, 1) := by decide +kernel
theorem qd_Z_flight_1 : decode qc_Z_flight 1 = .ok (.getfield 109, 3) := by decide +kernel
theorem qd_Z_flight_4 : decode qc_Z_flight 4 = .ok (.ireturn, 1) := by decide +kernel
theorem qd_Z_message_0 : decode qc_Z_message 0 = .ok (.iload_n 1, 1) := by decide +kernel
theorem qd_Z_message_1 : decode qc_Z_message 1 = .ok (.ifCond .lt 36, 3) := by decide +kernel
theorem qd_Z_message_4 : decode qc_Z_message 4 = .ok (.iload_n 1, 1) := by decide +kernel
theorem qd_Z_message_5 : decode qc_Z_message 5 = .ok (.aload_n 0, 1) := by decide +kernel
theorem qd_Z_message_6 : decode qc_Z_message 6 = .ok (.getfield 109, 3) := by decide +kernel
theorem qd_Z_message_9 : decode qc_Z_message 9 = .ok (.if_icmp .ge 28, 3) := by decide +kernel
theorem qd_Z_message_12 : decode qc_Z_message 12 = .ok (.iload_n 2, 1) := by decide +kernel
theorem qd_Z_message_13 : decode qc_Z_message 13 = .ok (.ifCond .lt 24, 3) := by decide +kernel
theorem qd_Z_message_16 : decode qc_Z_message 16 = .ok (.iload_n 2, 1) := by decide +kernel
theorem qd_Z_message_17 : decode qc_Z_message 17 = .ok (.bipush 7, 2) := by decide +kernel
theorem qd_Z_message_19 : decode qc_Z_message 19 = .ok (.iconst 3, 1) := by decide +kernel
theorem qd_Z_message_20 : decode qc_Z_message 20 = .ok (.aload_n 0, 1) := by decide +kernel
theorem qd_Z_message_21 : decode qc_Z_message 21 = .ok (.getfield 7, 3) := by decide +kernel
theorem qd_Z_message_24 : decode qc_Z_message 24 = .ok (.bipush 32, 2) := by decide +kernel
theorem qd_Z_message_26 : decode qc_Z_message 26 = .ok (.iload_n 1, 1) := by decide +kernel
theorem qd_Z_message_27 : decode qc_Z_message 27 = .ok (.imul, 1) := by decide +kernel
theorem qd_Z_message_28 : decode qc_Z_message 28 = .ok (.bipush 6, 2) := by decide +kernel
theorem qd_Z_message_30 : decode qc_Z_message 30 = .ok (.iadd, 1) := by decide +kernel
theorem qd_Z_message_31 : decode qc_Z_message 31 = .ok (.iaload, 1) := by decide +kernel
theorem qd_Z_message_32 : decode qc_Z_message 32 = .ok (.imul, 1) := by decide +kernel
theorem qd_Z_message_33 : decode qc_Z_message 33 = .ok (.iadd, 1) := by decide +kernel
theorem qd_Z_message_34 : decode qc_Z_message 34 = .ok (.if_icmp .lt 7, 3) := by decide +kernel
theorem qd_Z_message_37 : decode qc_Z_message 37 = .ok (.iconst 0, 1) := by decide +kernel
theorem qd_Z_message_38 : decode qc_Z_message 38 = .ok (.goto 14, 3) := by decide +kernel
theorem qd_Z_message_41 : decode qc_Z_message 41 = .ok (.aload_n 0, 1) := by decide +kernel
theorem qd_Z_message_42 : decode qc_Z_message 42 = .ok (.getfield 7, 3) := by decide +kernel
theorem qd_Z_message_45 : decode qc_Z_message 45 = .ok (.bipush 32, 2) := by decide +kernel
theorem qd_Z_message_47 : decode qc_Z_message 47 = .ok (.iload_n 1, 1) := by decide +kernel
theorem qd_Z_message_48 : decode qc_Z_message 48 = .ok (.imul, 1) := by decide +kernel
theorem qd_Z_message_49 : decode qc_Z_message 49 = .ok (.iload_n 2, 1) := by decide +kernel
theorem qd_Z_message_50 : decode qc_Z_message 50 = .ok (.iadd, 1) := by decide +kernel
theorem qd_Z_message_51 : decode qc_Z_message 51 = .ok (.iaload, 1) := by decide +kernel
theorem qd_Z_message_52 : decode qc_Z_message 52 = .ok (.ireturn, 1) := by decide +kernel
theorem qd_Z_view_0 : decode qc_Z_view 0 = .ok (.aload_n 0, 1) := by decide +kernel
theorem qd_Z_view_1 : decode qc_Z_view 1 = .ok (.iload_n 1, 1) := by decide +kernel
theorem qd_Z_view_2 : decode qc_Z_view 2 = .ok (.invokevirtual 127, 3) := by decide +kernel
theorem qd_Z_view_5 : decode qc_Z_view 5 = .ok (.ifCond .ne 5, 3) := by decide +kernel
theorem qd_Z_view_8 : decode qc_Z_view 8 = .ok (.iconst (-1), 1) := by decide +kernel
theorem qd_Z_view_9 : decode qc_Z_view 9 = .ok (.ireturn, 1) := by decide +kernel
theorem qd_Z_view_10 : decode qc_Z_view 10 = .ok (.bipush 8, 2) := by decide +kernel
theorem qd_Z_view_12 : decode qc_Z_view 12 = .ok (.iload_n 1, 1) := by decide +kernel
theorem qd_Z_view_13 : decode qc_Z_view 13 = .ok (.imul, 1) := by decide +kernel
theorem qd_Z_view_14 : decode qc_Z_view 14 = .ok (.iload_n 2, 1) := by decide +kernel
theorem qd_Z_view_15 : decode qc_Z_view 15 = .ok (.iadd, 1) := by decide +kernel
theorem qd_Z_view_16 : decode qc_Z_view 16 = .ok (.istore 4, 2) := by decide +kernel
theorem qd_Z_view_18 : decode qc_Z_view 18 = .ok (.aload_n 0, 1) := by decide +kernel
theorem qd_Z_view_19 : decode qc_Z_view 19 = .ok (.iload_n 2, 1) := by decide +kernel
theorem qd_Z_view_20 : decode qc_Z_view 20 = .ok (.invokevirtual 90, 3) := by decide +kernel
theorem qd_Z_view_23 : decode qc_Z_view 23 = .ok (.ifCond .eq 13, 3) := by decide +kernel
theorem qd_Z_view_26 : decode qc_Z_view 26 = .ok (.aload_n 0, 1) := by decide +kernel
theorem qd_Z_view_27 : decode qc_Z_view 27 = .ok (.getfield 29, 3) := by decide +kernel
theorem qd_Z_view_30 : decode qc_Z_view 30 = .ok (.iload 4, 2) := by decide +kernel
theorem qd_Z_view_32 : decode qc_Z_view 32 = .ok (.iaload, 1) := by decide +kernel
theorem qd_Z_view_33 : decode qc_Z_view 33 = .ok (.ifCond .ne 5, 3) := by decide +kernel
theorem qd_Z_view_36 : decode qc_Z_view 36 = .ok (.iconst 0, 1) := by decide +kernel
theorem qd_Z_view_37 : decode qc_Z_view 37 = .ok (.ireturn, 1) := by decide +kernel
theorem qd_Z_view_38 : decode qc_Z_view 38 = .ok (.iload_n 3, 1) := by decide +kernel
theorem qd_Z_view_39 : decode qc_Z_view 39 = .ok (.ifCond .ne 13, 3) := by decide +kernel
theorem qd_Z_view_42 : decode qc_Z_view 42 = .ok (.aload_n 0, 1) := by decide +kernel
theorem qd_Z_view_43 : decode qc_Z_view 43 = .ok (.getfield 29, 3) := by decide +kernel
theorem qd_Z_view_46 : decode qc_Z_view 46 = .ok (.iload 4, 2) := by decide +kernel
theorem qd_Z_view_48 : decode qc_Z_view 48 = .ok (.iaload, 1) := by decide +kernel
theorem qd_Z_view_49 : decode qc_Z_view 49 = .ok (.goto 52, 3) := by decide +kernel
theorem qd_Z_view_52 : decode qc_Z_view 52 = .ok (.iload_n 3, 1) := by decide +kernel
theorem qd_Z_view_53 : decode qc_Z_view 53 = .ok (.iconst 1, 1) := by decide +kernel
theorem qd_Z_view_54 : decode qc_Z_view 54 = .ok (.if_icmp .ne 13, 3) := by decide +kernel
theorem qd_Z_view_57 : decode qc_Z_view 57 = .ok (.aload_n 0, 1) := by decide +kernel
theorem qd_Z_view_58 : decode qc_Z_view 58 = .ok (.getfield 32, 3) := by decide +kernel
theorem qd_Z_view_61 : decode qc_Z_view 61 = .ok (.iload 4, 2) := by decide +kernel
theorem qd_Z_view_63 : decode qc_Z_view 63 = .ok (.iaload, 1) := by decide +kernel
theorem qd_Z_view_64 : decode qc_Z_view 64 = .ok (.goto 37, 3) := by decide +kernel
theorem qd_Z_view_67 : decode qc_Z_view 67 = .ok (.iload_n 3, 1) := by decide +kernel
theorem qd_Z_view_68 : decode qc_Z_view 68 = .ok (.iconst 2, 1) := by decide +kernel
theorem qd_Z_view_69 : decode qc_Z_view 69 = .ok (.if_icmp .ne 13, 3) := by decide +kernel
theorem qd_Z_view_72 : decode qc_Z_view 72 = .ok (.aload_n 0, 1) := by decide +kernel
theorem qd_Z_view_73 : decode qc_Z_view 73 = .ok (.getfield 35, 3) := by decide +kernel
theorem qd_Z_view_76 : decode qc_Z_view 76 = .ok (.iload 4, 2) := by decide +kernel
theorem qd_Z_view_78 : decode qc_Z_view 78 = .ok (.iaload, 1) := by decide +kernel
theorem qd_Z_view_79 : decode qc_Z_view 79 = .ok (.goto 22, 3) := by decide +kernel
theorem qd_Z_view_82 : decode qc_Z_view 82 = .ok (.iload_n 3, 1) := by decide +kernel
theorem qd_Z_view_83 : decode qc_Z_view 83 = .ok (.iconst 3, 1) := by decide +kernel
theorem qd_Z_view_84 : decode qc_Z_view 84 = .ok (.if_icmp .ne 16, 3) := by decide +kernel
theorem qd_Z_view_87 : decode qc_Z_view 87 = .ok (.aload_n 0, 1) := by decide +kernel
theorem qd_Z_view_88 : decode qc_Z_view 88 = .ok (.getfield 38, 3) := by decide +kernel
theorem qd_Z_view_91 : decode qc_Z_view 91 = .ok (.iload 4, 2) := by decide +kernel
theorem qd_Z_view_93 : decode qc_Z_view 93 = .ok (.iaload, 1) := by decide +kernel
theorem qd_Z_view_94 : decode qc_Z_view 94 = .ok (.invokestatic 150, 3) := by decide +kernel
theorem qd_Z_view_97 : decode qc_Z_view 97 = .ok (.goto 4, 3) := by decide +kernel
theorem qd_Z_view_100 : decode qc_Z_view 100 = .ok (.iconst 0, 1) := by decide +kernel
theorem qd_Z_view_101 : decode qc_Z_view 101 = .ok (.ireturn, 1) := by decide +kernel
theorem qd_Z_node_0 : decode qc_Z_node 0 = .ok (.aload_n 0, 1) := by decide +kernel
theorem qd_Z_node_1 : decode qc_Z_node 1 = .ok (.iload_n 1, 1) := by decide +kernel
theorem qd_Z_node_2 : decode qc_Z_node 2 = .ok (.invokevirtual 90, 3) := by decide +kernel
theorem qd_Z_node_5 : decode qc_Z_node 5 = .ok (.ifCond .eq 13, 3) := by decide +kernel
theorem qd_Z_node_8 : decode qc_Z_node 8 = .ok (.iload_n 2, 1) := by decide +kernel
theorem qd_Z_node_9 : decode qc_Z_node 9 = .ok (.ifCond .lt 9, 3) := by decide +kernel
theorem qd_Z_node_12 : decode qc_Z_node 12 = .ok (.iload_n 2, 1) := by decide +kernel
theorem qd_Z_node_13 : decode qc_Z_node 13 = .ok (.bipush 9, 2) := by decide +kernel
theorem qd_Z_node_15 : decode qc_Z_node 15 = .ok (.if_icmp .le 5, 3) := by decide +kernel
theorem qd_Z_node_18 : decode qc_Z_node 18 = .ok (.iconst (-1), 1) := by decide +kernel
theorem qd_Z_node_19 : decode qc_Z_node 19 = .ok (.ireturn, 1) := by decide +kernel
theorem qd_Z_node_20 : decode qc_Z_node 20 = .ok (.aload_n 0, 1) := by decide +kernel
theorem qd_Z_node_21 : decode qc_Z_node 21 = .ok (.getfield 20, 3) := by decide +kernel
theorem qd_Z_node_24 : decode qc_Z_node 24 = .ok (.iload_n 1, 1) := by decide +kernel
theorem qd_Z_node_25 : decode qc_Z_node 25 = .ok (.baload, 1) := by decide +kernel
theorem qd_Z_node_26 : decode qc_Z_node 26 = .ok (.ifCond .ne 5, 3) := by decide +kernel
theorem qd_Z_node_29 : decode qc_Z_node 29 = .ok (.iconst 0, 1) := by decide +kernel
theorem qd_Z_node_30 : decode qc_Z_node 30 = .ok (.ireturn, 1) := by decide +kernel
theorem qd_Z_node_31 : decode qc_Z_node 31 = .ok (.iload_n 2, 1) := by decide +kernel
theorem qd_Z_node_32 : decode qc_Z_node 32 = .ok (.tableswitch 155 0 8 #[52, 54, 64, 71, 91, 111, 135, 142, 149], 52) := by decide +kernel
theorem qd_Z_node_84 : decode qc_Z_node 84 = .ok (.iconst 1, 1) := by decide +kernel
theorem qd_Z_node_85 : decode qc_Z_node 85 = .ok (.ireturn, 1) := by decide +kernel
theorem qd_Z_node_86 : decode qc_Z_node 86 = .ok (.aload_n 0, 1) := by decide +kernel
theorem qd_Z_node_87 : decode qc_Z_node 87 = .ok (.getfield 32, 3) := by decide +kernel
theorem qd_Z_node_90 : decode qc_Z_node 90 = .ok (.bipush 9, 2) := by decide +kernel
theorem qd_Z_node_92 : decode qc_Z_node 92 = .ok (.iload_n 1, 1) := by decide +kernel
theorem qd_Z_node_93 : decode qc_Z_node 93 = .ok (.imul, 1) := by decide +kernel
theorem qd_Z_node_94 : decode qc_Z_node 94 = .ok (.iaload, 1) := by decide +kernel
theorem qd_Z_node_95 : decode qc_Z_node 95 = .ok (.ireturn, 1) := by decide +kernel
theorem qd_Z_node_96 : decode qc_Z_node 96 = .ok (.aload_n 0, 1) := by decide +kernel
theorem qd_Z_node_97 : decode qc_Z_node 97 = .ok (.getfield 26, 3) := by decide +kernel
theorem qd_Z_node_100 : decode qc_Z_node 100 = .ok (.iload_n 1, 1) := by decide +kernel
theorem qd_Z_node_101 : decode qc_Z_node 101 = .ok (.iaload, 1) := by decide +kernel
theorem qd_Z_node_102 : decode qc_Z_node 102 = .ok (.ireturn, 1) := by decide +kernel
theorem qd_Z_node_103 : decode qc_Z_node 103 = .ok (.aload_n 0, 1) := by decide +kernel
theorem qd_Z_node_104 : decode qc_Z_node 104 = .ok (.getfield 56, 3) := by decide +kernel
theorem qd_Z_node_107 : decode qc_Z_node 107 = .ok (.iload_n 1, 1) := by decide +kernel
theorem qd_Z_node_108 : decode qc_Z_node 108 = .ok (.baload, 1) := by decide +kernel
theorem qd_Z_node_109 : decode qc_Z_node 109 = .ok (.ifCond .eq 12, 3) := by decide +kernel
theorem qd_Z_node_112 : decode qc_Z_node 112 = .ok (.aload_n 0, 1) := by decide +kernel
theorem qd_Z_node_113 : decode qc_Z_node 113 = .ok (.getfield 59, 3) := by decide +kernel
theorem qd_Z_node_116 : decode qc_Z_node 116 = .ok (.iload_n 1, 1) := by decide +kernel
theorem qd_Z_node_117 : decode qc_Z_node 117 = .ok (.iaload, 1) := by decide +kernel
theorem qd_Z_node_118 : decode qc_Z_node 118 = .ok (.goto 4, 3) := by decide +kernel
theorem qd_Z_node_121 : decode qc_Z_node 121 = .ok (.iconst (-1), 1) := by decide +kernel
theorem qd_Z_node_122 : decode qc_Z_node 122 = .ok (.ireturn, 1) := by decide +kernel
theorem qd_Z_node_123 : decode qc_Z_node 123 = .ok (.aload_n 0, 1) := by decide +kernel
theorem qd_Z_node_124 : decode qc_Z_node 124 = .ok (.getfield 56, 3) := by decide +kernel
theorem qd_Z_node_127 : decode qc_Z_node 127 = .ok (.iload_n 1, 1) := by decide +kernel
theorem qd_Z_node_128 : decode qc_Z_node 128 = .ok (.baload, 1) := by decide +kernel
theorem qd_Z_node_129 : decode qc_Z_node 129 = .ok (.ifCond .eq 12, 3) := by decide +kernel
theorem qd_Z_node_132 : decode qc_Z_node 132 = .ok (.aload_n 0, 1) := by decide +kernel
theorem qd_Z_node_133 : decode qc_Z_node 133 = .ok (.getfield 62, 3) := by decide +kernel
theorem qd_Z_node_136 : decode qc_Z_node 136 = .ok (.iload_n 1, 1) := by decide +kernel
theorem qd_Z_node_137 : decode qc_Z_node 137 = .ok (.iaload, 1) := by decide +kernel
theorem qd_Z_node_138 : decode qc_Z_node 138 = .ok (.goto 4, 3) := by decide +kernel
theorem qd_Z_node_141 : decode qc_Z_node 141 = .ok (.iconst 0, 1) := by decide +kernel
theorem qd_Z_node_142 : decode qc_Z_node 142 = .ok (.ireturn, 1) := by decide +kernel
theorem qd_Z_node_143 : decode qc_Z_node 143 = .ok (.aload_n 0, 1) := by decide +kernel
theorem qd_Z_node_144 : decode qc_Z_node 144 = .ok (.getfield 56, 3) := by decide +kernel
theorem qd_Z_node_147 : decode qc_Z_node 147 = .ok (.iload_n 1, 1) := by decide +kernel
theorem qd_Z_node_148 : decode qc_Z_node 148 = .ok (.baload, 1) := by decide +kernel
theorem qd_Z_node_149 : decode qc_Z_node 149 = .ok (.ifCond .eq 16, 3) := by decide +kernel
theorem qd_Z_node_152 : decode qc_Z_node 152 = .ok (.aload_n 0, 1) := by decide +kernel
theorem qd_Z_node_153 : decode qc_Z_node 153 = .ok (.getfield 65, 3) := by decide +kernel
theorem qd_Z_node_156 : decode qc_Z_node 156 = .ok (.iload_n 1, 1) := by decide +kernel
theorem qd_Z_node_157 : decode qc_Z_node 157 = .ok (.baload, 1) := by decide +kernel
theorem qd_Z_node_158 : decode qc_Z_node 158 = .ok (.ifCond .eq 7, 3) := by decide +kernel
theorem qd_Z_node_161 : decode qc_Z_node 161 = .ok (.iconst 1, 1) := by decide +kernel
theorem qd_Z_node_162 : decode qc_Z_node 162 = .ok (.goto 4, 3) := by decide +kernel
theorem qd_Z_node_165 : decode qc_Z_node 165 = .ok (.iconst 0, 1) := by decide +kernel
theorem qd_Z_node_166 : decode qc_Z_node 166 = .ok (.ireturn, 1) := by decide +kernel
theorem qd_Z_node_167 : decode qc_Z_node 167 = .ok (.aload_n 0, 1) := by decide +kernel
theorem qd_Z_node_168 : decode qc_Z_node 168 = .ok (.getfield 68, 3) := by decide +kernel
theorem qd_Z_node_171 : decode qc_Z_node 171 = .ok (.iload_n 1, 1) := by decide +kernel
theorem qd_Z_node_172 : decode qc_Z_node 172 = .ok (.iaload, 1) := by decide +kernel
theorem qd_Z_node_173 : decode qc_Z_node 173 = .ok (.ireturn, 1) := by decide +kernel
theorem qd_Z_node_174 : decode qc_Z_node 174 = .ok (.aload_n 0, 1) := by decide +kernel
theorem qd_Z_node_175 : decode qc_Z_node 175 = .ok (.getfield 71, 3) := by decide +kernel
theorem qd_Z_node_178 : decode qc_Z_node 178 = .ok (.iload_n 1, 1) := by decide +kernel
theorem qd_Z_node_179 : decode qc_Z_node 179 = .ok (.iaload, 1) := by decide +kernel
theorem qd_Z_node_180 : decode qc_Z_node 180 = .ok (.ireturn, 1) := by decide +kernel
theorem qd_Z_node_181 : decode qc_Z_node 181 = .ok (.aload_n 0, 1) := by decide +kernel
theorem qd_Z_node_182 : decode qc_Z_node 182 = .ok (.iload_n 1, 1) := by decide +kernel
theorem qd_Z_node_183 : decode qc_Z_node 183 = .ok (.invokevirtual 182, 3) := by decide +kernel
theorem qd_Z_node_186 : decode qc_Z_node 186 = .ok (.ireturn, 1) := by decide +kernel
theorem qd_Z_node_187 : decode qc_Z_node 187 = .ok (.aload_n 0, 1) := by decide +kernel
theorem qd_Z_node_188 : decode qc_Z_node 188 = .ok (.getfield 50, 3) := by decide +kernel
theorem qd_Z_node_191 : decode qc_Z_node 191 = .ok (.iload_n 1, 1) := by decide +kernel
theorem qd_Z_node_192 : decode qc_Z_node 192 = .ok (.iaload, 1) := by decide +kernel
theorem qd_Z_node_193 : decode qc_Z_node 193 = .ok (.ireturn, 1) := by decide +kernel
theorem qd_Z_newsOf_0 : decode qc_Z_newsOf 0 = .ok (.iconst 0, 1) := by decide +kernel
theorem qd_Z_newsOf_1 : decode qc_Z_newsOf 1 = .ok (.istore_n 2, 1) := by decide +kernel
theorem qd_Z_newsOf_2 : decode qc_Z_newsOf 2 = .ok (.iconst 0, 1) := by decide +kernel
theorem qd_Z_newsOf_3 : decode qc_Z_newsOf 3 = .ok (.istore_n 3, 1) := by decide +kernel
theorem qd_Z_newsOf_4 : decode qc_Z_newsOf 4 = .ok (.iload_n 3, 1) := by decide +kernel
theorem qd_Z_newsOf_5 : decode qc_Z_newsOf 5 = .ok (.aload_n 0, 1) := by decide +kernel
theorem qd_Z_newsOf_6 : decode qc_Z_newsOf 6 = .ok (.getfield 86, 3) := by decide +kernel
theorem qd_Z_newsOf_9 : decode qc_Z_newsOf 9 = .ok (.if_icmp .ge 31, 3) := by decide +kernel
theorem qd_Z_newsOf_12 : decode qc_Z_newsOf 12 = .ok (.iload_n 2, 1) := by decide +kernel
theorem qd_Z_newsOf_13 : decode qc_Z_newsOf 13 = .ok (.aload_n 0, 1) := by decide +kernel
theorem qd_Z_newsOf_14 : decode qc_Z_newsOf 14 = .ok (.getfield 41, 3) := by decide +kernel
theorem qd_Z_newsOf_17 : decode qc_Z_newsOf 17 = .ok (.bipush 8, 2) := by decide +kernel
theorem qd_Z_newsOf_19 : decode qc_Z_newsOf 19 = .ok (.iload_n 1, 1) := by decide +kernel
theorem qd_Z_newsOf_20 : decode qc_Z_newsOf 20 = .ok (.imul, 1) := by decide +kernel
theorem qd_Z_newsOf_21 : decode qc_Z_newsOf 21 = .ok (.iload_n 3, 1) := by decide +kernel
theorem qd_Z_newsOf_22 : decode qc_Z_newsOf 22 = .ok (.iadd, 1) := by decide +kernel
theorem qd_Z_newsOf_23 : decode qc_Z_newsOf 23 = .ok (.iaload, 1) := by decide +kernel
theorem qd_Z_newsOf_24 : decode qc_Z_newsOf 24 = .ok (.ifCond .le 7, 3) := by decide +kernel
theorem qd_Z_newsOf_27 : decode qc_Z_newsOf 27 = .ok (.iconst 1, 1) := by decide +kernel
theorem qd_Z_newsOf_28 : decode qc_Z_newsOf 28 = .ok (.goto 4, 3) := by decide +kernel
theorem qd_Z_newsOf_31 : decode qc_Z_newsOf 31 = .ok (.iconst 0, 1) := by decide +kernel
theorem qd_Z_newsOf_32 : decode qc_Z_newsOf 32 = .ok (.iadd, 1) := by decide +kernel
theorem qd_Z_newsOf_33 : decode qc_Z_newsOf 33 = .ok (.istore_n 2, 1) := by decide +kernel
theorem qd_Z_newsOf_34 : decode qc_Z_newsOf 34 = .ok (.iinc 3 1, 3) := by decide +kernel
theorem qd_Z_newsOf_37 : decode qc_Z_newsOf 37 = .ok (.goto (-33), 3) := by decide +kernel
theorem qd_Z_newsOf_40 : decode qc_Z_newsOf 40 = .ok (.iload_n 2, 1) := by decide +kernel
theorem qd_Z_newsOf_41 : decode qc_Z_newsOf 41 = .ok (.ireturn, 1) := by decide +kernel
theorem qd_Z_queued_0 : decode qc_Z_queued 0 = .ok (.aload_n 0, 1) := by decide +kernel
theorem qd_Z_queued_1 : decode qc_Z_queued 1 = .ok (.iload_n 1, 1) := by decide +kernel
theorem qd_Z_queued_2 : decode qc_Z_queued 2 = .ok (.invokevirtual 127, 3) := by decide +kernel
theorem qd_Z_queued_5 : decode qc_Z_queued 5 = .ok (.ifCond .eq 25, 3) := by decide +kernel
theorem qd_Z_queued_8 : decode qc_Z_queued 8 = .ok (.aload_n 0, 1) := by decide +kernel
theorem qd_Z_queued_9 : decode qc_Z_queued 9 = .ok (.iload_n 2, 1) := by decide +kernel
theorem qd_Z_queued_10 : decode qc_Z_queued 10 = .ok (.invokevirtual 90, 3) := by decide +kernel
theorem qd_Z_queued_13 : decode qc_Z_queued 13 = .ok (.ifCond .eq 17, 3) := by decide +kernel
theorem qd_Z_queued_16 : decode qc_Z_queued 16 = .ok (.aload_n 0, 1) := by decide +kernel
theorem qd_Z_queued_17 : decode qc_Z_queued 17 = .ok (.getfield 41, 3) := by decide +kernel
theorem qd_Z_queued_20 : decode qc_Z_queued 20 = .ok (.bipush 8, 2) := by decide +kernel
theorem qd_Z_queued_22 : decode qc_Z_queued 22 = .ok (.iload_n 1, 1) := by decide +kernel
theorem qd_Z_queued_23 : decode qc_Z_queued 23 = .ok (.imul, 1) := by decide +kernel
theorem qd_Z_queued_24 : decode qc_Z_queued 24 = .ok (.iload_n 2, 1) := by decide +kernel
theorem qd_Z_queued_25 : decode qc_Z_queued 25 = .ok (.iadd, 1) := by decide +kernel
theorem qd_Z_queued_26 : decode qc_Z_queued 26 = .ok (.iaload, 1) := by decide +kernel
theorem qd_Z_queued_27 : decode qc_Z_queued 27 = .ok (.goto 4, 3) := by decide +kernel
theorem qd_Z_queued_30 : decode qc_Z_queued 30 = .ok (.iconst 0, 1) := by decide +kernel
theorem qd_Z_queued_31 : decode qc_Z_queued 31 = .ok (.ireturn, 1) := by decide +kernel
theorem qd_Z_agreed_0 : decode qc_Z_agreed 0 = .ok (.iconst 1, 1) := by decide +kernel
theorem qd_Z_agreed_1 : decode qc_Z_agreed 1 = .ok (.istore_n 1, 1) := by decide +kernel
theorem qd_Z_agreed_2 : decode qc_Z_agreed 2 = .ok (.iconst 0, 1) := by decide +kernel
theorem qd_Z_agreed_3 : decode qc_Z_agreed 3 = .ok (.istore_n 2, 1) := by decide +kernel
theorem qd_Z_agreed_4 : decode qc_Z_agreed 4 = .ok (.iload_n 2, 1) := by decide +kernel
theorem qd_Z_agreed_5 : decode qc_Z_agreed 5 = .ok (.aload_n 0, 1) := by decide +kernel
theorem qd_Z_agreed_6 : decode qc_Z_agreed 6 = .ok (.getfield 86, 3) := by decide +kernel
theorem qd_Z_agreed_9 : decode qc_Z_agreed 9 = .ok (.if_icmp .ge 109, 3) := by decide +kernel
theorem qd_Z_agreed_12 : decode qc_Z_agreed 12 = .ok (.iconst 0, 1) := by decide +kernel
theorem qd_Z_agreed_13 : decode qc_Z_agreed 13 = .ok (.istore_n 3, 1) := by decide +kernel
theorem qd_Z_agreed_14 : decode qc_Z_agreed 14 = .ok (.iload_n 3, 1) := by decide +kernel
theorem qd_Z_agreed_15 : decode qc_Z_agreed 15 = .ok (.aload_n 0, 1) := by decide +kernel
theorem qd_Z_agreed_16 : decode qc_Z_agreed 16 = .ok (.getfield 86, 3) := by decide +kernel
theorem qd_Z_agreed_19 : decode qc_Z_agreed 19 = .ok (.if_icmp .ge 93, 3) := by decide +kernel
theorem qd_Z_agreed_22 : decode qc_Z_agreed 22 = .ok (.aload_n 0, 1) := by decide +kernel
theorem qd_Z_agreed_23 : decode qc_Z_agreed 23 = .ok (.getfield 20, 3) := by decide +kernel
theorem qd_Z_agreed_26 : decode qc_Z_agreed 26 = .ok (.iload_n 2, 1) := by decide +kernel
theorem qd_Z_agreed_27 : decode qc_Z_agreed 27 = .ok (.baload, 1) := by decide +kernel
theorem qd_Z_agreed_28 : decode qc_Z_agreed 28 = .ok (.ifCond .eq 84, 3) := by decide +kernel
theorem qd_Z_agreed_31 : decode qc_Z_agreed 31 = .ok (.aload_n 0, 1) := by decide +kernel
theorem qd_Z_agreed_32 : decode qc_Z_agreed 32 = .ok (.getfield 29, 3) := by decide +kernel
theorem qd_Z_agreed_35 : decode qc_Z_agreed 35 = .ok (.bipush 8, 2) := by decide +kernel
theorem qd_Z_agreed_37 : decode qc_Z_agreed 37 = .ok (.iload_n 2, 1) := by decide +kernel
theorem qd_Z_agreed_38 : decode qc_Z_agreed 38 = .ok (.imul, 1) := by decide +kernel
theorem qd_Z_agreed_39 : decode qc_Z_agreed 39 = .ok (.iload_n 3, 1) := by decide +kernel
theorem qd_Z_agreed_40 : decode qc_Z_agreed 40 = .ok (.iadd, 1) := by decide +kernel
theorem qd_Z_agreed_41 : decode qc_Z_agreed 41 = .ok (.iaload, 1) := by decide +kernel
theorem qd_Z_agreed_42 : decode qc_Z_agreed 42 = .ok (.istore 4, 2) := by decide +kernel
theorem qd_Z_agreed_44 : decode qc_Z_agreed 44 = .ok (.iload_n 1, 1) := by decide +kernel
theorem qd_Z_agreed_45 : decode qc_Z_agreed 45 = .ok (.ifCond .eq 59, 3) := by decide +kernel
theorem qd_Z_agreed_48 : decode qc_Z_agreed 48 = .ok (.aload_n 0, 1) := by decide +kernel
theorem qd_Z_agreed_49 : decode qc_Z_agreed 49 = .ok (.getfield 20, 3) := by decide +kernel
theorem qd_Z_agreed_52 : decode qc_Z_agreed 52 = .ok (.iload_n 3, 1) := by decide +kernel
theorem qd_Z_agreed_53 : decode qc_Z_agreed 53 = .ok (.baload, 1) := by decide +kernel
theorem qd_Z_agreed_54 : decode qc_Z_agreed 54 = .ok (.ifCond .eq 35, 3) := by decide +kernel
theorem qd_Z_agreed_57 : decode qc_Z_agreed 57 = .ok (.iload 4, 2) := by decide +kernel
theorem qd_Z_agreed_59 : decode qc_Z_agreed 59 = .ok (.iconst 1, 1) := by decide +kernel
theorem qd_Z_agreed_60 : decode qc_Z_agreed 60 = .ok (.if_icmp .ne 44, 3) := by decide +kernel
theorem qd_Z_agreed_63 : decode qc_Z_agreed 63 = .ok (.aload_n 0, 1) := by decide +kernel
theorem qd_Z_agreed_64 : decode qc_Z_agreed 64 = .ok (.getfield 32, 3) := by decide +kernel
theorem qd_Z_agreed_67 : decode qc_Z_agreed 67 = .ok (.bipush 8, 2) := by decide +kernel
theorem qd_Z_agreed_69 : decode qc_Z_agreed 69 = .ok (.iload_n 2, 1) := by decide +kernel
theorem qd_Z_agreed_70 : decode qc_Z_agreed 70 = .ok (.imul, 1) := by decide +kernel
theorem qd_Z_agreed_71 : decode qc_Z_agreed 71 = .ok (.iload_n 3, 1) := by decide +kernel
theorem qd_Z_agreed_72 : decode qc_Z_agreed 72 = .ok (.iadd, 1) := by decide +kernel
theorem qd_Z_agreed_73 : decode qc_Z_agreed 73 = .ok (.iaload, 1) := by decide +kernel
theorem qd_Z_agreed_74 : decode qc_Z_agreed 74 = .ok (.aload_n 0, 1) := by decide +kernel
theorem qd_Z_agreed_75 : decode qc_Z_agreed 75 = .ok (.getfield 32, 3) := by decide +kernel
theorem qd_Z_agreed_78 : decode qc_Z_agreed 78 = .ok (.bipush 9, 2) := by decide +kernel
theorem qd_Z_agreed_80 : decode qc_Z_agreed 80 = .ok (.iload_n 3, 1) := by decide +kernel
theorem qd_Z_agreed_81 : decode qc_Z_agreed 81 = .ok (.imul, 1) := by decide +kernel
theorem qd_Z_agreed_82 : decode qc_Z_agreed 82 = .ok (.iaload, 1) := by decide +kernel
theorem qd_Z_agreed_83 : decode qc_Z_agreed 83 = .ok (.if_icmp .ne 21, 3) := by decide +kernel
theorem qd_Z_agreed_86 : decode qc_Z_agreed 86 = .ok (.goto 14, 3) := by decide +kernel
theorem qd_Z_agreed_89 : decode qc_Z_agreed 89 = .ok (.iload 4, 2) := by decide +kernel
theorem qd_Z_agreed_91 : decode qc_Z_agreed 91 = .ok (.ifCond .eq 9, 3) := by decide +kernel
theorem qd_Z_agreed_94 : decode qc_Z_agreed 94 = .ok (.iload 4, 2) := by decide +kernel
theorem qd_Z_agreed_96 : decode qc_Z_agreed 96 = .ok (.iconst 3, 1) := by decide +kernel
theorem qd_Z_agreed_97 : decode qc_Z_agreed 97 = .ok (.if_icmp .ne 7, 3) := by decide +kernel
theorem qd_Z_agreed_100 : decode qc_Z_agreed 100 = .ok (.iconst 1, 1) := by decide +kernel
theorem qd_Z_agreed_101 : decode qc_Z_agreed 101 = .ok (.goto 4, 3) := by decide +kernel
theorem qd_Z_agreed_104 : decode qc_Z_agreed 104 = .ok (.iconst 0, 1) := by decide +kernel
theorem qd_Z_agreed_105 : decode qc_Z_agreed 105 = .ok (.istore_n 1, 1) := by decide +kernel
theorem qd_Z_agreed_106 : decode qc_Z_agreed 106 = .ok (.iinc 3 1, 3) := by decide +kernel
theorem qd_Z_agreed_109 : decode qc_Z_agreed 109 = .ok (.goto (-95), 3) := by decide +kernel
theorem qd_Z_agreed_112 : decode qc_Z_agreed 112 = .ok (.iinc 2 1, 3) := by decide +kernel
theorem qd_Z_agreed_115 : decode qc_Z_agreed 115 = .ok (.goto (-111), 3) := by decide +kernel
theorem qd_Z_agreed_118 : decode qc_Z_agreed 118 = .ok (.iload_n 1, 1) := by decide +kernel
theorem qd_Z_agreed_119 : decode qc_Z_agreed 119 = .ok (.ireturn, 1) := by decide +kernel
theorem qd_L_cell_0 : decode qc_L_cell 0 = .ok (.iload_n 1, 1) := by decide +kernel
theorem qd_L_cell_1 : decode qc_L_cell 1 = .ok (.aload_n 0, 1) := by decide +kernel
theorem qd_L_cell_2 : decode qc_L_cell 2 = .ok (.arraylength, 1) := by decide +kernel
theorem qd_L_cell_3 : decode qc_L_cell 3 = .ok (.if_icmp .ge 9, 3) := by decide +kernel
theorem qd_L_cell_6 : decode qc_L_cell 6 = .ok (.aload_n 0, 1) := by decide +kernel
theorem qd_L_cell_7 : decode qc_L_cell 7 = .ok (.iload_n 1, 1) := by decide +kernel
theorem qd_L_cell_8 : decode qc_L_cell 8 = .ok (.iaload, 1) := by decide +kernel
theorem qd_L_cell_9 : decode qc_L_cell 9 = .ok (.goto 4, 3) := by decide +kernel
theorem qd_L_cell_12 : decode qc_L_cell 12 = .ok (.iconst 0, 1) := by decide +kernel
theorem qd_L_cell_13 : decode qc_L_cell 13 = .ok (.ireturn, 1) := by decide +kernel
theorem qd_L_law_0 : decode code 0 = .ok (.new 7, 3) := by decide +kernel
theorem qd_L_law_3 : decode code 3 = .ok (.dup, 1) := by decide +kernel
theorem qd_L_law_4 : decode code 4 = .ok (.aload_n 0, 1) := by decide +kernel
theorem qd_L_law_5 : decode code 5 = .ok (.iconst 0, 1) := by decide +kernel
theorem qd_L_law_6 : decode code 6 = .ok (.invokestatic 9, 3) := by decide +kernel
theorem qd_L_law_9 : decode code 9 = .ok (.invokespecial 15, 3) := by decide +kernel
theorem qd_L_law_12 : decode code 12 = .ok (.astore_n 1, 1) := by decide +kernel
theorem qd_L_law_13 : decode code 13 = .ok (.new 18, 3) := by decide +kernel
theorem qd_L_law_16 : decode code 16 = .ok (.dup, 1) := by decide +kernel
theorem qd_L_law_17 : decode code 17 = .ok (.aload_n 0, 1) := by decide +kernel
theorem qd_L_law_18 : decode code 18 = .ok (.iconst 0, 1) := by decide +kernel
theorem qd_L_law_19 : decode code 19 = .ok (.invokestatic 9, 3) := by decide +kernel
theorem qd_L_law_22 : decode code 22 = .ok (.invokespecial 20, 3) := by decide +kernel
theorem qd_L_law_25 : decode code 25 = .ok (.astore_n 2, 1) := by decide +kernel
theorem qd_L_law_26 : decode code 26 = .ok (.iconst 1, 1) := by decide +kernel
theorem qd_L_law_27 : decode code 27 = .ok (.istore_n 3, 1) := by decide +kernel
theorem qd_L_law_28 : decode code 28 = .ok (.iload_n 3, 1) := by decide +kernel
theorem qd_L_law_29 : decode code 29 = .ok (.aload_n 0, 1) := by decide +kernel
theorem qd_L_law_30 : decode code 30 = .ok (.arraylength, 1) := by decide +kernel
theorem qd_L_law_31 : decode code 31 = .ok (.iconst 4, 1) := by decide +kernel
theorem qd_L_law_32 : decode code 32 = .ok (.isub, 1) := by decide +kernel
theorem qd_L_law_33 : decode code 33 = .ok (.if_icmp .gt 473, 3) := by decide +kernel
theorem qd_L_law_36 : decode code 36 = .ok (.aload_n 0, 1) := by decide +kernel
theorem qd_L_law_37 : decode code 37 = .ok (.iload_n 3, 1) := by decide +kernel
theorem qd_L_law_38 : decode code 38 = .ok (.iaload, 1) := by decide +kernel
theorem qd_L_law_39 : decode code 39 = .ok (.bipush 15, 2) := by decide +kernel
theorem qd_L_law_41 : decode code 41 = .ok (.iand, 1) := by decide +kernel
theorem qd_L_law_42 : decode code 42 = .ok (.tableswitch 458 0 13 #[70, 103, 126, 149, 208, 231, 254, 277, 290, 303, 336, 379, 412, 445], 70) := by decide +kernel
theorem qd_L_law_112 : decode code 112 = .ok (.aload_n 1, 1) := by decide +kernel
theorem qd_L_law_113 : decode code 113 = .ok (.aload_n 0, 1) := by decide +kernel
theorem qd_L_law_114 : decode code 114 = .ok (.iload_n 3, 1) := by decide +kernel
theorem qd_L_law_115 : decode code 115 = .ok (.iconst 1, 1) := by decide +kernel
theorem qd_L_law_116 : decode code 116 = .ok (.iadd, 1) := by decide +kernel
theorem qd_L_law_117 : decode code 117 = .ok (.iaload, 1) := by decide +kernel
theorem qd_L_law_118 : decode code 118 = .ok (.aload_n 0, 1) := by decide +kernel
theorem qd_L_law_119 : decode code 119 = .ok (.iload_n 3, 1) := by decide +kernel
theorem qd_L_law_120 : decode code 120 = .ok (.iconst 2, 1) := by decide +kernel
theorem qd_L_law_121 : decode code 121 = .ok (.iadd, 1) := by decide +kernel
theorem qd_L_law_122 : decode code 122 = .ok (.iaload, 1) := by decide +kernel
theorem qd_L_law_123 : decode code 123 = .ok (.invokevirtual 21, 3) := by decide +kernel
theorem qd_L_law_126 : decode code 126 = .ok (.aload_n 2, 1) := by decide +kernel
theorem qd_L_law_127 : decode code 127 = .ok (.aload_n 0, 1) := by decide +kernel
theorem qd_L_law_128 : decode code 128 = .ok (.iload_n 3, 1) := by decide +kernel
theorem qd_L_law_129 : decode code 129 = .ok (.iconst 1, 1) := by decide +kernel
theorem qd_L_law_130 : decode code 130 = .ok (.iadd, 1) := by decide +kernel
theorem qd_L_law_131 : decode code 131 = .ok (.iaload, 1) := by decide +kernel
theorem qd_L_law_132 : decode code 132 = .ok (.aload_n 0, 1) := by decide +kernel
theorem qd_L_law_133 : decode code 133 = .ok (.iload_n 3, 1) := by decide +kernel
theorem qd_L_law_134 : decode code 134 = .ok (.iconst 2, 1) := by decide +kernel
theorem qd_L_law_135 : decode code 135 = .ok (.iadd, 1) := by decide +kernel
theorem qd_L_law_136 : decode code 136 = .ok (.iaload, 1) := by decide +kernel
theorem qd_L_law_137 : decode code 137 = .ok (.invokevirtual 25, 3) := by decide +kernel
theorem qd_L_law_140 : decode code 140 = .ok (.if_icmp .eq 360, 3) := by decide +kernel
theorem qd_L_law_143 : decode code 143 = .ok (.iconst 0, 1) := by decide +kernel
theorem qd_L_law_144 : decode code 144 = .ok (.ireturn, 1) := by decide +kernel
theorem qd_L_law_145 : decode code 145 = .ok (.aload_n 1, 1) := by decide +kernel
theorem qd_L_law_146 : decode code 146 = .ok (.aload_n 0, 1) := by decide +kernel
theorem qd_L_law_147 : decode code 147 = .ok (.iload_n 3, 1) := by decide +kernel
theorem qd_L_law_148 : decode code 148 = .ok (.iconst 1, 1) := by decide +kernel
theorem qd_L_law_149 : decode code 149 = .ok (.iadd, 1) := by decide +kernel
theorem qd_L_law_150 : decode code 150 = .ok (.iaload, 1) := by decide +kernel
theorem qd_L_law_151 : decode code 151 = .ok (.invokevirtual 26, 3) := by decide +kernel
theorem qd_L_law_154 : decode code 154 = .ok (.aload_n 2, 1) := by decide +kernel
theorem qd_L_law_155 : decode code 155 = .ok (.aload_n 0, 1) := by decide +kernel
theorem qd_L_law_156 : decode code 156 = .ok (.iload_n 3, 1) := by decide +kernel
theorem qd_L_law_157 : decode code 157 = .ok (.iconst 1, 1) := by decide +kernel
theorem qd_L_law_158 : decode code 158 = .ok (.iadd, 1) := by decide +kernel
theorem qd_L_law_159 : decode code 159 = .ok (.iaload, 1) := by decide +kernel
theorem qd_L_law_160 : decode code 160 = .ok (.invokevirtual 30, 3) := by decide +kernel
theorem qd_L_law_163 : decode code 163 = .ok (.if_icmp .eq 337, 3) := by decide +kernel
theorem qd_L_law_166 : decode code 166 = .ok (.iconst 0, 1) := by decide +kernel
theorem qd_L_law_167 : decode code 167 = .ok (.ireturn, 1) := by decide +kernel
theorem qd_L_law_168 : decode code 168 = .ok (.aload_n 1, 1) := by decide +kernel
theorem qd_L_law_169 : decode code 169 = .ok (.aload_n 0, 1) := by decide +kernel
theorem qd_L_law_170 : decode code 170 = .ok (.iload_n 3, 1) := by decide +kernel
theorem qd_L_law_171 : decode code 171 = .ok (.iconst 1, 1) := by decide +kernel
theorem qd_L_law_172 : decode code 172 = .ok (.iadd, 1) := by decide +kernel
theorem qd_L_law_173 : decode code 173 = .ok (.iaload, 1) := by decide +kernel
theorem qd_L_law_174 : decode code 174 = .ok (.invokevirtual 31, 3) := by decide +kernel
theorem qd_L_law_177 : decode code 177 = .ok (.aload_n 2, 1) := by decide +kernel
theorem qd_L_law_178 : decode code 178 = .ok (.aload_n 0, 1) := by decide +kernel
theorem qd_L_law_179 : decode code 179 = .ok (.iload_n 3, 1) := by decide +kernel
theorem qd_L_law_180 : decode code 180 = .ok (.iconst 1, 1) := by decide +kernel
theorem qd_L_law_181 : decode code 181 = .ok (.iadd, 1) := by decide +kernel
theorem qd_L_law_182 : decode code 182 = .ok (.iaload, 1) := by decide +kernel
theorem qd_L_law_183 : decode code 183 = .ok (.invokevirtual 34, 3) := by decide +kernel
theorem qd_L_law_186 : decode code 186 = .ok (.if_icmp .eq 314, 3) := by decide +kernel
theorem qd_L_law_189 : decode code 189 = .ok (.iconst 0, 1) := by decide +kernel
theorem qd_L_law_190 : decode code 190 = .ok (.ireturn, 1) := by decide +kernel
theorem qd_L_law_191 : decode code 191 = .ok (.aload_n 1, 1) := by decide +kernel
theorem qd_L_law_192 : decode code 192 = .ok (.aload_n 0, 1) := by decide +kernel
theorem qd_L_law_193 : decode code 193 = .ok (.iload_n 3, 1) := by decide +kernel
theorem qd_L_law_194 : decode code 194 = .ok (.iconst 1, 1) := by decide +kernel
theorem qd_L_law_195 : decode code 195 = .ok (.iadd, 1) := by decide +kernel
theorem qd_L_law_196 : decode code 196 = .ok (.iaload, 1) := by decide +kernel
theorem qd_L_law_197 : decode code 197 = .ok (.aload_n 0, 1) := by decide +kernel
theorem qd_L_law_198 : decode code 198 = .ok (.iload_n 3, 1) := by decide +kernel
theorem qd_L_law_199 : decode code 199 = .ok (.iconst 2, 1) := by decide +kernel
theorem qd_L_law_200 : decode code 200 = .ok (.iadd, 1) := by decide +kernel
theorem qd_L_law_201 : decode code 201 = .ok (.iaload, 1) := by decide +kernel
theorem qd_L_law_202 : decode code 202 = .ok (.aload_n 0, 1) := by decide +kernel
theorem qd_L_law_203 : decode code 203 = .ok (.iload_n 3, 1) := by decide +kernel
theorem qd_L_law_204 : decode code 204 = .ok (.iconst 3, 1) := by decide +kernel
theorem qd_L_law_205 : decode code 205 = .ok (.iadd, 1) := by decide +kernel
theorem qd_L_law_206 : decode code 206 = .ok (.iaload, 1) := by decide +kernel
theorem qd_L_law_207 : decode code 207 = .ok (.ifCond .eq 7, 3) := by decide +kernel
theorem qd_L_law_210 : decode code 210 = .ok (.iconst 1, 1) := by decide +kernel
theorem qd_L_law_211 : decode code 211 = .ok (.goto 4, 3) := by decide +kernel
theorem qd_L_law_214 : decode code 214 = .ok (.iconst 0, 1) := by decide +kernel
theorem qd_L_law_215 : decode code 215 = .ok (.invokevirtual 35, 3) := by decide +kernel
theorem qd_L_law_218 : decode code 218 = .ok (.aload_n 2, 1) := by decide +kernel
theorem qd_L_law_219 : decode code 219 = .ok (.aload_n 0, 1) := by decide +kernel
theorem qd_L_law_220 : decode code 220 = .ok (.iload_n 3, 1) := by decide +kernel
theorem qd_L_law_221 : decode code 221 = .ok (.iconst 1, 1) := by decide +kernel
theorem qd_L_law_222 : decode code 222 = .ok (.iadd, 1) := by decide +kernel
theorem qd_L_law_223 : decode code 223 = .ok (.iaload, 1) := by decide +kernel
theorem qd_L_law_224 : decode code 224 = .ok (.aload_n 0, 1) := by decide +kernel
theorem qd_L_law_225 : decode code 225 = .ok (.iload_n 3, 1) := by decide +kernel
theorem qd_L_law_226 : decode code 226 = .ok (.iconst 2, 1) := by decide +kernel
theorem qd_L_law_227 : decode code 227 = .ok (.iadd, 1) := by decide +kernel
theorem qd_L_law_228 : decode code 228 = .ok (.iaload, 1) := by decide +kernel
theorem qd_L_law_229 : decode code 229 = .ok (.aload_n 0, 1) := by decide +kernel
theorem qd_L_law_230 : decode code 230 = .ok (.iload_n 3, 1) := by decide +kernel
theorem qd_L_law_231 : decode code 231 = .ok (.iconst 3, 1) := by decide +kernel
theorem qd_L_law_232 : decode code 232 = .ok (.iadd, 1) := by decide +kernel
theorem qd_L_law_233 : decode code 233 = .ok (.iaload, 1) := by decide +kernel
theorem qd_L_law_234 : decode code 234 = .ok (.ifCond .eq 7, 3) := by decide +kernel
theorem qd_L_law_237 : decode code 237 = .ok (.iconst 1, 1) := by decide +kernel
theorem qd_L_law_238 : decode code 238 = .ok (.goto 4, 3) := by decide +kernel
theorem qd_L_law_241 : decode code 241 = .ok (.iconst 0, 1) := by decide +kernel
theorem qd_L_law_242 : decode code 242 = .ok (.invokevirtual 39, 3) := by decide +kernel
theorem qd_L_law_245 : decode code 245 = .ok (.if_icmp .eq 255, 3) := by decide +kernel
theorem qd_L_law_248 : decode code 248 = .ok (.iconst 0, 1) := by decide +kernel
theorem qd_L_law_249 : decode code 249 = .ok (.ireturn, 1) := by decide +kernel
theorem qd_L_law_250 : decode code 250 = .ok (.aload_n 1, 1) := by decide +kernel
theorem qd_L_law_251 : decode code 251 = .ok (.aload_n 0, 1) := by decide +kernel
theorem qd_L_law_252 : decode code 252 = .ok (.iload_n 3, 1) := by decide +kernel
theorem qd_L_law_253 : decode code 253 = .ok (.iconst 1, 1) := by decide +kernel
theorem qd_L_law_254 : decode code 254 = .ok (.iadd, 1) := by decide +kernel
theorem qd_L_law_255 : decode code 255 = .ok (.iaload, 1) := by decide +kernel
theorem qd_L_law_256 : decode code 256 = .ok (.invokevirtual 40, 3) := by decide +kernel
theorem qd_L_law_259 : decode code 259 = .ok (.aload_n 2, 1) := by decide +kernel
theorem qd_L_law_260 : decode code 260 = .ok (.aload_n 0, 1) := by decide +kernel
theorem qd_L_law_261 : decode code 261 = .ok (.iload_n 3, 1) := by decide +kernel
theorem qd_L_law_262 : decode code 262 = .ok (.iconst 1, 1) := by decide +kernel
theorem qd_L_law_263 : decode code 263 = .ok (.iadd, 1) := by decide +kernel
theorem qd_L_law_264 : decode code 264 = .ok (.iaload, 1) := by decide +kernel
theorem qd_L_law_265 : decode code 265 = .ok (.invokevirtual 43, 3) := by decide +kernel
theorem qd_L_law_268 : decode code 268 = .ok (.if_icmp .eq 232, 3) := by decide +kernel
theorem qd_L_law_271 : decode code 271 = .ok (.iconst 0, 1) := by decide +kernel
theorem qd_L_law_272 : decode code 272 = .ok (.ireturn, 1) := by decide +kernel
theorem qd_L_law_273 : decode code 273 = .ok (.aload_n 1, 1) := by decide +kernel
theorem qd_L_law_274 : decode code 274 = .ok (.aload_n 0, 1) := by decide +kernel
theorem qd_L_law_275 : decode code 275 = .ok (.iload_n 3, 1) := by decide +kernel
theorem qd_L_law_276 : decode code 276 = .ok (.iconst 1, 1) := by decide +kernel
theorem qd_L_law_277 : decode code 277 = .ok (.iadd, 1) := by decide +kernel
theorem qd_L_law_278 : decode code 278 = .ok (.iaload, 1) := by decide +kernel
theorem qd_L_law_279 : decode code 279 = .ok (.invokevirtual 44, 3) := by decide +kernel
theorem qd_L_law_282 : decode code 282 = .ok (.aload_n 2, 1) := by decide +kernel
theorem qd_L_law_283 : decode code 283 = .ok (.aload_n 0, 1) := by decide +kernel
theorem qd_L_law_284 : decode code 284 = .ok (.iload_n 3, 1) := by decide +kernel
theorem qd_L_law_285 : decode code 285 = .ok (.iconst 1, 1) := by decide +kernel
theorem qd_L_law_286 : decode code 286 = .ok (.iadd, 1) := by decide +kernel
theorem qd_L_law_287 : decode code 287 = .ok (.iaload, 1) := by decide +kernel
theorem qd_L_law_288 : decode code 288 = .ok (.invokevirtual 47, 3) := by decide +kernel
theorem qd_L_law_291 : decode code 291 = .ok (.if_icmp .eq 209, 3) := by decide +kernel
theorem qd_L_law_294 : decode code 294 = .ok (.iconst 0, 1) := by decide +kernel
theorem qd_L_law_295 : decode code 295 = .ok (.ireturn, 1) := by decide +kernel
theorem qd_L_law_296 : decode code 296 = .ok (.aload_n 1, 1) := by decide +kernel
theorem qd_L_law_297 : decode code 297 = .ok (.aload_n 0, 1) := by decide +kernel
theorem qd_L_law_298 : decode code 298 = .ok (.iload_n 3, 1) := by decide +kernel
theorem qd_L_law_299 : decode code 299 = .ok (.iconst 1, 1) := by decide +kernel
theorem qd_L_law_300 : decode code 300 = .ok (.iadd, 1) := by decide +kernel
theorem qd_L_law_301 : decode code 301 = .ok (.iaload, 1) := by decide +kernel
theorem qd_L_law_302 : decode code 302 = .ok (.invokevirtual 48, 3) := by decide +kernel
theorem qd_L_law_305 : decode code 305 = .ok (.aload_n 2, 1) := by decide +kernel
theorem qd_L_law_306 : decode code 306 = .ok (.aload_n 0, 1) := by decide +kernel
theorem qd_L_law_307 : decode code 307 = .ok (.iload_n 3, 1) := by decide +kernel
theorem qd_L_law_308 : decode code 308 = .ok (.iconst 1, 1) := by decide +kernel
theorem qd_L_law_309 : decode code 309 = .ok (.iadd, 1) := by decide +kernel
theorem qd_L_law_310 : decode code 310 = .ok (.iaload, 1) := by decide +kernel
theorem qd_L_law_311 : decode code 311 = .ok (.invokevirtual 52, 3) := by decide +kernel
theorem qd_L_law_314 : decode code 314 = .ok (.if_icmp .eq 186, 3) := by decide +kernel
theorem qd_L_law_317 : decode code 317 = .ok (.iconst 0, 1) := by decide +kernel
theorem qd_L_law_318 : decode code 318 = .ok (.ireturn, 1) := by decide +kernel
theorem qd_L_law_319 : decode code 319 = .ok (.aload_n 1, 1) := by decide +kernel
theorem qd_L_law_320 : decode code 320 = .ok (.invokevirtual 53, 3) := by decide +kernel
theorem qd_L_law_323 : decode code 323 = .ok (.aload_n 2, 1) := by decide +kernel
theorem qd_L_law_324 : decode code 324 = .ok (.invokevirtual 57, 3) := by decide +kernel
theorem qd_L_law_327 : decode code 327 = .ok (.if_icmp .eq 173, 3) := by decide +kernel
theorem qd_L_law_330 : decode code 330 = .ok (.iconst 0, 1) := by decide +kernel
theorem qd_L_law_331 : decode code 331 = .ok (.ireturn, 1) := by decide +kernel
theorem qd_L_law_332 : decode code 332 = .ok (.aload_n 1, 1) := by decide +kernel
theorem qd_L_law_333 : decode code 333 = .ok (.invokevirtual 58, 3) := by decide +kernel
theorem qd_L_law_336 : decode code 336 = .ok (.aload_n 2, 1) := by decide +kernel
theorem qd_L_law_337 : decode code 337 = .ok (.invokevirtual 61, 3) := by decide +kernel
theorem qd_L_law_340 : decode code 340 = .ok (.if_icmp .eq 160, 3) := by decide +kernel
theorem qd_L_law_343 : decode code 343 = .ok (.iconst 0, 1) := by decide +kernel
theorem qd_L_law_344 : decode code 344 = .ok (.ireturn, 1) := by decide +kernel
theorem qd_L_law_345 : decode code 345 = .ok (.aload_n 1, 1) := by decide +kernel
theorem qd_L_law_346 : decode code 346 = .ok (.aload_n 0, 1) := by decide +kernel
theorem qd_L_law_347 : decode code 347 = .ok (.iload_n 3, 1) := by decide +kernel
theorem qd_L_law_348 : decode code 348 = .ok (.iconst 1, 1) := by decide +kernel
theorem qd_L_law_349 : decode code 349 = .ok (.iadd, 1) := by decide +kernel
theorem qd_L_law_350 : decode code 350 = .ok (.iaload, 1) := by decide +kernel
theorem qd_L_law_351 : decode code 351 = .ok (.aload_n 0, 1) := by decide +kernel
theorem qd_L_law_352 : decode code 352 = .ok (.iload_n 3, 1) := by decide +kernel
theorem qd_L_law_353 : decode code 353 = .ok (.iconst 2, 1) := by decide +kernel
theorem qd_L_law_354 : decode code 354 = .ok (.iadd, 1) := by decide +kernel
theorem qd_L_law_355 : decode code 355 = .ok (.iaload, 1) := by decide +kernel
theorem qd_L_law_356 : decode code 356 = .ok (.invokevirtual 62, 3) := by decide +kernel
theorem qd_L_law_359 : decode code 359 = .ok (.aload_n 2, 1) := by decide +kernel
theorem qd_L_law_360 : decode code 360 = .ok (.aload_n 0, 1) := by decide +kernel
theorem qd_L_law_361 : decode code 361 = .ok (.iload_n 3, 1) := by decide +kernel
theorem qd_L_law_362 : decode code 362 = .ok (.iconst 1, 1) := by decide +kernel
theorem qd_L_law_363 : decode code 363 = .ok (.iadd, 1) := by decide +kernel
theorem qd_L_law_364 : decode code 364 = .ok (.iaload, 1) := by decide +kernel
theorem qd_L_law_365 : decode code 365 = .ok (.aload_n 0, 1) := by decide +kernel
theorem qd_L_law_366 : decode code 366 = .ok (.iload_n 3, 1) := by decide +kernel
theorem qd_L_law_367 : decode code 367 = .ok (.iconst 2, 1) := by decide +kernel
theorem qd_L_law_368 : decode code 368 = .ok (.iadd, 1) := by decide +kernel
theorem qd_L_law_369 : decode code 369 = .ok (.iaload, 1) := by decide +kernel
theorem qd_L_law_370 : decode code 370 = .ok (.invokevirtual 66, 3) := by decide +kernel
theorem qd_L_law_373 : decode code 373 = .ok (.if_icmp .eq 127, 3) := by decide +kernel
theorem qd_L_law_376 : decode code 376 = .ok (.iconst 0, 1) := by decide +kernel
theorem qd_L_law_377 : decode code 377 = .ok (.ireturn, 1) := by decide +kernel
theorem qd_L_law_378 : decode code 378 = .ok (.aload_n 1, 1) := by decide +kernel
theorem qd_L_law_379 : decode code 379 = .ok (.aload_n 0, 1) := by decide +kernel
theorem qd_L_law_380 : decode code 380 = .ok (.iload_n 3, 1) := by decide +kernel
theorem qd_L_law_381 : decode code 381 = .ok (.iconst 1, 1) := by decide +kernel
theorem qd_L_law_382 : decode code 382 = .ok (.iadd, 1) := by decide +kernel
theorem qd_L_law_383 : decode code 383 = .ok (.iaload, 1) := by decide +kernel
theorem qd_L_law_384 : decode code 384 = .ok (.aload_n 0, 1) := by decide +kernel
theorem qd_L_law_385 : decode code 385 = .ok (.iload_n 3, 1) := by decide +kernel
theorem qd_L_law_386 : decode code 386 = .ok (.iconst 2, 1) := by decide +kernel
theorem qd_L_law_387 : decode code 387 = .ok (.iadd, 1) := by decide +kernel
theorem qd_L_law_388 : decode code 388 = .ok (.iaload, 1) := by decide +kernel
theorem qd_L_law_389 : decode code 389 = .ok (.aload_n 0, 1) := by decide +kernel
theorem qd_L_law_390 : decode code 390 = .ok (.iload_n 3, 1) := by decide +kernel
theorem qd_L_law_391 : decode code 391 = .ok (.iconst 3, 1) := by decide +kernel
theorem qd_L_law_392 : decode code 392 = .ok (.iadd, 1) := by decide +kernel
theorem qd_L_law_393 : decode code 393 = .ok (.iaload, 1) := by decide +kernel
theorem qd_L_law_394 : decode code 394 = .ok (.invokevirtual 67, 3) := by decide +kernel
theorem qd_L_law_397 : decode code 397 = .ok (.aload_n 2, 1) := by decide +kernel
theorem qd_L_law_398 : decode code 398 = .ok (.aload_n 0, 1) := by decide +kernel
theorem qd_L_law_399 : decode code 399 = .ok (.iload_n 3, 1) := by decide +kernel
theorem qd_L_law_400 : decode code 400 = .ok (.iconst 1, 1) := by decide +kernel
theorem qd_L_law_401 : decode code 401 = .ok (.iadd, 1) := by decide +kernel
theorem qd_L_law_402 : decode code 402 = .ok (.iaload, 1) := by decide +kernel
theorem qd_L_law_403 : decode code 403 = .ok (.aload_n 0, 1) := by decide +kernel
theorem qd_L_law_404 : decode code 404 = .ok (.iload_n 3, 1) := by decide +kernel
theorem qd_L_law_405 : decode code 405 = .ok (.iconst 2, 1) := by decide +kernel
theorem qd_L_law_406 : decode code 406 = .ok (.iadd, 1) := by decide +kernel
theorem qd_L_law_407 : decode code 407 = .ok (.iaload, 1) := by decide +kernel
theorem qd_L_law_408 : decode code 408 = .ok (.aload_n 0, 1) := by decide +kernel
theorem qd_L_law_409 : decode code 409 = .ok (.iload_n 3, 1) := by decide +kernel
theorem qd_L_law_410 : decode code 410 = .ok (.iconst 3, 1) := by decide +kernel
theorem qd_L_law_411 : decode code 411 = .ok (.iadd, 1) := by decide +kernel
theorem qd_L_law_412 : decode code 412 = .ok (.iaload, 1) := by decide +kernel
theorem qd_L_law_413 : decode code 413 = .ok (.invokevirtual 71, 3) := by decide +kernel
theorem qd_L_law_416 : decode code 416 = .ok (.if_icmp .eq 84, 3) := by decide +kernel
theorem qd_L_law_419 : decode code 419 = .ok (.iconst 0, 1) := by decide +kernel
theorem qd_L_law_420 : decode code 420 = .ok (.ireturn, 1) := by decide +kernel
theorem qd_L_law_421 : decode code 421 = .ok (.aload_n 1, 1) := by decide +kernel
theorem qd_L_law_422 : decode code 422 = .ok (.aload_n 0, 1) := by decide +kernel
theorem qd_L_law_423 : decode code 423 = .ok (.iload_n 3, 1) := by decide +kernel
theorem qd_L_law_424 : decode code 424 = .ok (.iconst 1, 1) := by decide +kernel
theorem qd_L_law_425 : decode code 425 = .ok (.iadd, 1) := by decide +kernel
theorem qd_L_law_426 : decode code 426 = .ok (.iaload, 1) := by decide +kernel
theorem qd_L_law_427 : decode code 427 = .ok (.aload_n 0, 1) := by decide +kernel
theorem qd_L_law_428 : decode code 428 = .ok (.iload_n 3, 1) := by decide +kernel
theorem qd_L_law_429 : decode code 429 = .ok (.iconst 2, 1) := by decide +kernel
theorem qd_L_law_430 : decode code 430 = .ok (.iadd, 1) := by decide +kernel
theorem qd_L_law_431 : decode code 431 = .ok (.iaload, 1) := by decide +kernel
theorem qd_L_law_432 : decode code 432 = .ok (.invokevirtual 72, 3) := by decide +kernel
theorem qd_L_law_435 : decode code 435 = .ok (.aload_n 2, 1) := by decide +kernel
theorem qd_L_law_436 : decode code 436 = .ok (.aload_n 0, 1) := by decide +kernel
theorem qd_L_law_437 : decode code 437 = .ok (.iload_n 3, 1) := by decide +kernel
theorem qd_L_law_438 : decode code 438 = .ok (.iconst 1, 1) := by decide +kernel
theorem qd_L_law_439 : decode code 439 = .ok (.iadd, 1) := by decide +kernel
theorem qd_L_law_440 : decode code 440 = .ok (.iaload, 1) := by decide +kernel
theorem qd_L_law_441 : decode code 441 = .ok (.aload_n 0, 1) := by decide +kernel
theorem qd_L_law_442 : decode code 442 = .ok (.iload_n 3, 1) := by decide +kernel
theorem qd_L_law_443 : decode code 443 = .ok (.iconst 2, 1) := by decide +kernel
theorem qd_L_law_444 : decode code 444 = .ok (.iadd, 1) := by decide +kernel
theorem qd_L_law_445 : decode code 445 = .ok (.iaload, 1) := by decide +kernel
theorem qd_L_law_446 : decode code 446 = .ok (.invokevirtual 75, 3) := by decide +kernel
theorem qd_L_law_449 : decode code 449 = .ok (.if_icmp .eq 51, 3) := by decide +kernel
theorem qd_L_law_452 : decode code 452 = .ok (.iconst 0, 1) := by decide +kernel
theorem qd_L_law_453 : decode code 453 = .ok (.ireturn, 1) := by decide +kernel
theorem qd_L_law_454 : decode code 454 = .ok (.aload_n 1, 1) := by decide +kernel
theorem qd_L_law_455 : decode code 455 = .ok (.aload_n 0, 1) := by decide +kernel
theorem qd_L_law_456 : decode code 456 = .ok (.iload_n 3, 1) := by decide +kernel
theorem qd_L_law_457 : decode code 457 = .ok (.iconst 1, 1) := by decide +kernel
theorem qd_L_law_458 : decode code 458 = .ok (.iadd, 1) := by decide +kernel
theorem qd_L_law_459 : decode code 459 = .ok (.iaload, 1) := by decide +kernel
theorem qd_L_law_460 : decode code 460 = .ok (.aload_n 0, 1) := by decide +kernel
theorem qd_L_law_461 : decode code 461 = .ok (.iload_n 3, 1) := by decide +kernel
theorem qd_L_law_462 : decode code 462 = .ok (.iconst 2, 1) := by decide +kernel
theorem qd_L_law_463 : decode code 463 = .ok (.iadd, 1) := by decide +kernel
theorem qd_L_law_464 : decode code 464 = .ok (.iaload, 1) := by decide +kernel
theorem qd_L_law_465 : decode code 465 = .ok (.invokevirtual 76, 3) := by decide +kernel
theorem qd_L_law_468 : decode code 468 = .ok (.aload_n 2, 1) := by decide +kernel
theorem qd_L_law_469 : decode code 469 = .ok (.aload_n 0, 1) := by decide +kernel
theorem qd_L_law_470 : decode code 470 = .ok (.iload_n 3, 1) := by decide +kernel
theorem qd_L_law_471 : decode code 471 = .ok (.iconst 1, 1) := by decide +kernel
theorem qd_L_law_472 : decode code 472 = .ok (.iadd, 1) := by decide +kernel
theorem qd_L_law_473 : decode code 473 = .ok (.iaload, 1) := by decide +kernel
theorem qd_L_law_474 : decode code 474 = .ok (.aload_n 0, 1) := by decide +kernel
theorem qd_L_law_475 : decode code 475 = .ok (.iload_n 3, 1) := by decide +kernel
theorem qd_L_law_476 : decode code 476 = .ok (.iconst 2, 1) := by decide +kernel
theorem qd_L_law_477 : decode code 477 = .ok (.iadd, 1) := by decide +kernel
theorem qd_L_law_478 : decode code 478 = .ok (.iaload, 1) := by decide +kernel
theorem qd_L_law_479 : decode code 479 = .ok (.invokevirtual 79, 3) := by decide +kernel
theorem qd_L_law_482 : decode code 482 = .ok (.if_icmp .eq 18, 3) := by decide +kernel
theorem qd_L_law_485 : decode code 485 = .ok (.iconst 0, 1) := by decide +kernel
theorem qd_L_law_486 : decode code 486 = .ok (.ireturn, 1) := by decide +kernel
theorem qd_L_law_487 : decode code 487 = .ok (.aload_n 1, 1) := by decide +kernel
theorem qd_L_law_488 : decode code 488 = .ok (.invokevirtual 80, 3) := by decide +kernel
theorem qd_L_law_491 : decode code 491 = .ok (.aload_n 2, 1) := by decide +kernel
theorem qd_L_law_492 : decode code 492 = .ok (.invokevirtual 84, 3) := by decide +kernel
theorem qd_L_law_495 : decode code 495 = .ok (.if_icmp .eq 5, 3) := by decide +kernel
theorem qd_L_law_498 : decode code 498 = .ok (.iconst 0, 1) := by decide +kernel
theorem qd_L_law_499 : decode code 499 = .ok (.ireturn, 1) := by decide +kernel
theorem qd_L_law_500 : decode code 500 = .ok (.iinc 3 4, 3) := by decide +kernel
theorem qd_L_law_503 : decode code 503 = .ok (.goto (-475), 3) := by decide +kernel
theorem qd_L_law_506 : decode code 506 = .ok (.iconst 1, 1) := by decide +kernel
theorem qd_L_law_507 : decode code 507 = .ok (.ireturn, 1) := by decide +kernel
