theorem d_M_init_0 : decode c_M_init 0 = .ok (.aload_n 0, 1) := by decide +kernel
theorem d_M_init_1 : decode c_M_init 1 = .ok (.invokespecial 1, 3) := by decide +kernel
theorem d_M_init_4 : decode c_M_init 4 = .ok (.aload_n 0, 1) := by decide +kernel
theorem d_M_init_5 : decode c_M_init 5 = .ok (.bipush 16, 2) := by decide +kernel
theorem d_M_init_7 : decode c_M_init 7 = .ok (.newarray .int, 2) := by decide +kernel
theorem d_M_init_9 : decode c_M_init 9 = .ok (.putfield 7, 3) := by decide +kernel
theorem d_M_init_12 : decode c_M_init 12 = .ok (.aload_n 0, 1) := by decide +kernel
theorem d_M_init_13 : decode c_M_init 13 = .ok (.iconst 3, 1) := by decide +kernel
theorem d_M_init_14 : decode c_M_init 14 = .ok (.newarray .int, 2) := by decide +kernel
theorem d_M_init_16 : decode c_M_init 16 = .ok (.putfield 13, 3) := by decide +kernel
theorem d_M_init_19 : decode c_M_init 19 = .ok (.aload_n 0, 1) := by decide +kernel
theorem d_M_init_20 : decode c_M_init 20 = .ok (.bipush 8, 2) := by decide +kernel
theorem d_M_init_22 : decode c_M_init 22 = .ok (.newarray .int, 2) := by decide +kernel
theorem d_M_init_24 : decode c_M_init 24 = .ok (.putfield 16, 3) := by decide +kernel
theorem d_M_init_27 : decode c_M_init 27 = .ok (.aload_n 0, 1) := by decide +kernel
theorem d_M_init_28 : decode c_M_init 28 = .ok (.bipush 16, 2) := by decide +kernel
theorem d_M_init_30 : decode c_M_init 30 = .ok (.newarray .int, 2) := by decide +kernel
theorem d_M_init_32 : decode c_M_init 32 = .ok (.putfield 19, 3) := by decide +kernel
theorem d_M_init_35 : decode c_M_init 35 = .ok (.aload_n 0, 1) := by decide +kernel
theorem d_M_init_36 : decode c_M_init 36 = .ok (.iconst 3, 1) := by decide +kernel
theorem d_M_init_37 : decode c_M_init 37 = .ok (.newarray .int, 2) := by decide +kernel
theorem d_M_init_39 : decode c_M_init 39 = .ok (.putfield 22, 3) := by decide +kernel
theorem d_M_init_42 : decode c_M_init 42 = .ok (.aload_n 0, 1) := by decide +kernel
theorem d_M_init_43 : decode c_M_init 43 = .ok (.bipush 8, 2) := by decide +kernel
theorem d_M_init_45 : decode c_M_init 45 = .ok (.newarray .int, 2) := by decide +kernel
theorem d_M_init_47 : decode c_M_init 47 = .ok (.putfield 25, 3) := by decide +kernel
theorem d_M_init_50 : decode c_M_init 50 = .ok (.aload_n 0, 1) := by decide +kernel
theorem d_M_init_51 : decode c_M_init 51 = .ok (.bipush 123, 2) := by decide +kernel
theorem d_M_init_53 : decode c_M_init 53 = .ok (.newarray .int, 2) := by decide +kernel
theorem d_M_init_55 : decode c_M_init 55 = .ok (.putfield 28, 3) := by decide +kernel
theorem d_M_init_58 : decode c_M_init 58 = .ok (.aload_n 0, 1) := by decide +kernel
theorem d_M_init_59 : decode c_M_init 59 = .ok (.sipush 984, 3) := by decide +kernel
theorem d_M_init_62 : decode c_M_init 62 = .ok (.newarray .int, 2) := by decide +kernel
theorem d_M_init_64 : decode c_M_init 64 = .ok (.putfield 31, 3) := by decide +kernel
theorem d_M_init_67 : decode c_M_init 67 = .ok (.aload_n 0, 1) := by decide +kernel
theorem d_M_init_68 : decode c_M_init 68 = .ok (.bipush 41, 2) := by decide +kernel
theorem d_M_init_70 : decode c_M_init 70 = .ok (.newarray .int, 2) := by decide +kernel
theorem d_M_init_72 : decode c_M_init 72 = .ok (.putfield 34, 3) := by decide +kernel
theorem d_M_init_75 : decode c_M_init 75 = .ok (.aload_n 0, 1) := by decide +kernel
theorem d_M_init_76 : decode c_M_init 76 = .ok (.bipush 41, 2) := by decide +kernel
theorem d_M_init_78 : decode c_M_init 78 = .ok (.newarray .int, 2) := by decide +kernel
theorem d_M_init_80 : decode c_M_init 80 = .ok (.putfield 37, 3) := by decide +kernel
theorem d_M_init_83 : decode c_M_init 83 = .ok (.aload_n 0, 1) := by decide +kernel
theorem d_M_init_84 : decode c_M_init 84 = .ok (.bipush 41, 2) := by decide +kernel
theorem d_M_init_86 : decode c_M_init 86 = .ok (.newarray .int, 2) := by decide +kernel
theorem d_M_init_88 : decode c_M_init 88 = .ok (.putfield 40, 3) := by decide +kernel
theorem d_M_init_91 : decode c_M_init 91 = .ok (.aload_n 0, 1) := by decide +kernel
theorem d_M_init_92 : decode c_M_init 92 = .ok (.bipush 40, 2) := by decide +kernel
theorem d_M_init_94 : decode c_M_init 94 = .ok (.newarray .int, 2) := by decide +kernel
theorem d_M_init_96 : decode c_M_init 96 = .ok (.putfield 43, 3) := by decide +kernel
theorem d_M_init_99 : decode c_M_init 99 = .ok (.aload_n 0, 1) := by decide +kernel
theorem d_M_init_100 : decode c_M_init 100 = .ok (.bipush 40, 2) := by decide +kernel
theorem d_M_init_102 : decode c_M_init 102 = .ok (.newarray .int, 2) := by decide +kernel
theorem d_M_init_104 : decode c_M_init 104 = .ok (.putfield 46, 3) := by decide +kernel
theorem d_M_init_107 : decode c_M_init 107 = .ok (.aload_n 0, 1) := by decide +kernel
theorem d_M_init_108 : decode c_M_init 108 = .ok (.bipush 40, 2) := by decide +kernel
theorem d_M_init_110 : decode c_M_init 110 = .ok (.newarray .boolean, 2) := by decide +kernel
theorem d_M_init_112 : decode c_M_init 112 = .ok (.putfield 49, 3) := by decide +kernel
theorem d_M_init_115 : decode c_M_init 115 = .ok (.aload_n 0, 1) := by decide +kernel
theorem d_M_init_116 : decode c_M_init 116 = .ok (.bipush 40, 2) := by decide +kernel
theorem d_M_init_118 : decode c_M_init 118 = .ok (.newarray .boolean, 2) := by decide +kernel
theorem d_M_init_120 : decode c_M_init 120 = .ok (.putfield 53, 3) := by decide +kernel
theorem d_M_init_123 : decode c_M_init 123 = .ok (.aload_n 0, 1) := by decide +kernel
theorem d_M_init_124 : decode c_M_init 124 = .ok (.bipush 6, 2) := by decide +kernel
theorem d_M_init_126 : decode c_M_init 126 = .ok (.newarray .int, 2) := by decide +kernel
theorem d_M_init_128 : decode c_M_init 128 = .ok (.putfield 56, 3) := by decide +kernel
theorem d_M_init_131 : decode c_M_init 131 = .ok (.aload_n 0, 1) := by decide +kernel
theorem d_M_init_132 : decode c_M_init 132 = .ok (.bipush 6, 2) := by decide +kernel
theorem d_M_init_134 : decode c_M_init 134 = .ok (.newarray .int, 2) := by decide +kernel
theorem d_M_init_136 : decode c_M_init 136 = .ok (.putfield 59, 3) := by decide +kernel
theorem d_M_init_139 : decode c_M_init 139 = .ok (.aload_n 0, 1) := by decide +kernel
theorem d_M_init_140 : decode c_M_init 140 = .ok (.bipush 6, 2) := by decide +kernel
theorem d_M_init_142 : decode c_M_init 142 = .ok (.newarray .int, 2) := by decide +kernel
theorem d_M_init_144 : decode c_M_init 144 = .ok (.putfield 62, 3) := by decide +kernel
theorem d_M_init_147 : decode c_M_init 147 = .ok (.aload_n 0, 1) := by decide +kernel
theorem d_M_init_148 : decode c_M_init 148 = .ok (.bipush 6, 2) := by decide +kernel
theorem d_M_init_150 : decode c_M_init 150 = .ok (.newarray .int, 2) := by decide +kernel
theorem d_M_init_152 : decode c_M_init 152 = .ok (.putfield 65, 3) := by decide +kernel
theorem d_M_init_155 : decode c_M_init 155 = .ok (.aload_n 0, 1) := by decide +kernel
theorem d_M_init_156 : decode c_M_init 156 = .ok (.bipush 6, 2) := by decide +kernel
theorem d_M_init_158 : decode c_M_init 158 = .ok (.newarray .int, 2) := by decide +kernel
theorem d_M_init_160 : decode c_M_init 160 = .ok (.putfield 68, 3) := by decide +kernel
theorem d_M_init_163 : decode c_M_init 163 = .ok (.aload_n 0, 1) := by decide +kernel
theorem d_M_init_164 : decode c_M_init 164 = .ok (.bipush 6, 2) := by decide +kernel
theorem d_M_init_166 : decode c_M_init 166 = .ok (.newarray .int, 2) := by decide +kernel
theorem d_M_init_168 : decode c_M_init 168 = .ok (.putfield 71, 3) := by decide +kernel
theorem d_M_init_171 : decode c_M_init 171 = .ok (.aload_n 0, 1) := by decide +kernel
theorem d_M_init_172 : decode c_M_init 172 = .ok (.bipush 9, 2) := by decide +kernel
theorem d_M_init_174 : decode c_M_init 174 = .ok (.newarray .int, 2) := by decide +kernel
theorem d_M_init_176 : decode c_M_init 176 = .ok (.putfield 74, 3) := by decide +kernel
theorem d_M_init_179 : decode c_M_init 179 = .ok (.aload_n 0, 1) := by decide +kernel
theorem d_M_init_180 : decode c_M_init 180 = .ok (.bipush 6, 2) := by decide +kernel
theorem d_M_init_182 : decode c_M_init 182 = .ok (.newarray .double, 2) := by decide +kernel
theorem d_M_init_184 : decode c_M_init 184 = .ok (.putfield 77, 3) := by decide +kernel
theorem d_M_init_187 : decode c_M_init 187 = .ok (.aload_n 0, 1) := by decide +kernel
theorem d_M_init_188 : decode c_M_init 188 = .ok (.bipush 9, 2) := by decide +kernel
theorem d_M_init_190 : decode c_M_init 190 = .ok (.newarray .float, 2) := by decide +kernel
theorem d_M_init_192 : decode c_M_init 192 = .ok (.putfield 81, 3) := by decide +kernel
theorem d_M_init_195 : decode c_M_init 195 = .ok (.aload_n 0, 1) := by decide +kernel
theorem d_M_init_196 : decode c_M_init 196 = .ok (.iconst 5, 1) := by decide +kernel
theorem d_M_init_197 : decode c_M_init 197 = .ok (.newarray .int, 2) := by decide +kernel
theorem d_M_init_199 : decode c_M_init 199 = .ok (.putfield 85, 3) := by decide +kernel
theorem d_M_init_202 : decode c_M_init 202 = .ok (.aload_n 0, 1) := by decide +kernel
theorem d_M_init_203 : decode c_M_init 203 = .ok (.iconst 5, 1) := by decide +kernel
theorem d_M_init_204 : decode c_M_init 204 = .ok (.newarray .int, 2) := by decide +kernel
theorem d_M_init_206 : decode c_M_init 206 = .ok (.putfield 88, 3) := by decide +kernel
theorem d_M_init_209 : decode c_M_init 209 = .ok (.aload_n 0, 1) := by decide +kernel
theorem d_M_init_210 : decode c_M_init 210 = .ok (.iconst 5, 1) := by decide +kernel
theorem d_M_init_211 : decode c_M_init 211 = .ok (.newarray .int, 2) := by decide +kernel
theorem d_M_init_213 : decode c_M_init 213 = .ok (.putfield 91, 3) := by decide +kernel
theorem d_M_init_216 : decode c_M_init 216 = .ok (.aload_n 0, 1) := by decide +kernel
theorem d_M_init_217 : decode c_M_init 217 = .ok (.getfield 40, 3) := by decide +kernel
theorem d_M_init_220 : decode c_M_init 220 = .ok (.bipush 40, 2) := by decide +kernel
theorem d_M_init_222 : decode c_M_init 222 = .ok (.iconst (-1), 1) := by decide +kernel
theorem d_M_init_223 : decode c_M_init 223 = .ok (.iastore, 1) := by decide +kernel
theorem d_M_init_224 : decode c_M_init 224 = .ok (.return_, 1) := by decide +kernel
theorem d_M_member_0 : decode c_M_member 0 = .ok (.aload_n 0, 1) := by decide +kernel
theorem d_M_member_1 : decode c_M_member 1 = .ok (.iload_n 1, 1) := by decide +kernel
theorem d_M_member_2 : decode c_M_member 2 = .ok (.iconst 0, 1) := by decide +kernel
theorem d_M_member_3 : decode c_M_member 3 = .ok (.bipush 15, 2) := by decide +kernel
theorem d_M_member_5 : decode c_M_member 5 = .ok (.invokestatic 98, 3) := by decide +kernel
theorem d_M_member_8 : decode c_M_member 8 = .ok (.ifCond .eq 23, 3) := by decide +kernel
theorem d_M_member_11 : decode c_M_member 11 = .ok (.iload_n 2, 1) := by decide +kernel
theorem d_M_member_12 : decode c_M_member 12 = .ok (.bipush 8, 2) := by decide +kernel
theorem d_M_member_14 : decode c_M_member 14 = .ok (.bipush 15, 2) := by decide +kernel
theorem d_M_member_16 : decode c_M_member 16 = .ok (.invokestatic 98, 3) := by decide +kernel
theorem d_M_member_19 : decode c_M_member 19 = .ok (.ifCond .eq 12, 3) := by decide +kernel
theorem d_M_member_22 : decode c_M_member 22 = .ok (.iload_n 1, 1) := by decide +kernel
theorem d_M_member_23 : decode c_M_member 23 = .ok (.iload_n 2, 1) := by decide +kernel
theorem d_M_member_24 : decode c_M_member 24 = .ok (.if_icmp .eq 7, 3) := by decide +kernel
theorem d_M_member_27 : decode c_M_member 27 = .ok (.iconst 0, 1) := by decide +kernel
theorem d_M_member_28 : decode c_M_member 28 = .ok (.goto 4, 3) := by decide +kernel
theorem d_M_member_31 : decode c_M_member 31 = .ok (.iconst 1, 1) := by decide +kernel
theorem d_M_member_32 : decode c_M_member 32 = .ok (.putfield 94, 3) := by decide +kernel
theorem d_M_member_35 : decode c_M_member 35 = .ok (.aload_n 0, 1) := by decide +kernel
theorem d_M_member_36 : decode c_M_member 36 = .ok (.getfield 94, 3) := by decide +kernel
theorem d_M_member_39 : decode c_M_member 39 = .ok (.ifCond .le 5, 3) := by decide +kernel
theorem d_M_member_42 : decode c_M_member 42 = .ok (.iconst 0, 1) := by decide +kernel
theorem d_M_member_43 : decode c_M_member 43 = .ok (.ireturn, 1) := by decide +kernel
theorem d_M_member_44 : decode c_M_member 44 = .ok (.iload_n 3, 1) := by decide +kernel
theorem d_M_member_45 : decode c_M_member 45 = .ok (.ifCond .eq 16, 3) := by decide +kernel
theorem d_M_member_48 : decode c_M_member 48 = .ok (.aload_n 0, 1) := by decide +kernel
theorem d_M_member_49 : decode c_M_member 49 = .ok (.getfield 7, 3) := by decide +kernel
theorem d_M_member_52 : decode c_M_member 52 = .ok (.iload_n 1, 1) := by decide +kernel
theorem d_M_member_53 : decode c_M_member 53 = .ok (.iaload, 1) := by decide +kernel
theorem d_M_member_54 : decode c_M_member 54 = .ok (.iconst 1, 1) := by decide +kernel
theorem d_M_member_55 : decode c_M_member 55 = .ok (.iload_n 2, 1) := by decide +kernel
theorem d_M_member_56 : decode c_M_member 56 = .ok (.ishl, 1) := by decide +kernel
theorem d_M_member_57 : decode c_M_member 57 = .ok (.ior, 1) := by decide +kernel
theorem d_M_member_58 : decode c_M_member 58 = .ok (.goto 15, 3) := by decide +kernel
theorem d_M_member_61 : decode c_M_member 61 = .ok (.aload_n 0, 1) := by decide +kernel
theorem d_M_member_62 : decode c_M_member 62 = .ok (.getfield 7, 3) := by decide +kernel
theorem d_M_member_65 : decode c_M_member 65 = .ok (.iload_n 1, 1) := by decide +kernel
theorem d_M_member_66 : decode c_M_member 66 = .ok (.iaload, 1) := by decide +kernel
theorem d_M_member_67 : decode c_M_member 67 = .ok (.iconst 1, 1) := by decide +kernel
theorem d_M_member_68 : decode c_M_member 68 = .ok (.iload_n 2, 1) := by decide +kernel
theorem d_M_member_69 : decode c_M_member 69 = .ok (.ishl, 1) := by decide +kernel
theorem d_M_member_70 : decode c_M_member 70 = .ok (.iconst (-1), 1) := by decide +kernel
theorem d_M_member_71 : decode c_M_member 71 = .ok (.ixor, 1) := by decide +kernel
theorem d_M_member_72 : decode c_M_member 72 = .ok (.iand, 1) := by decide +kernel
theorem d_M_member_73 : decode c_M_member 73 = .ok (.istore 4, 2) := by decide +kernel
theorem d_M_member_75 : decode c_M_member 75 = .ok (.iload 4, 2) := by decide +kernel
theorem d_M_member_77 : decode c_M_member 77 = .ok (.aload_n 0, 1) := by decide +kernel
theorem d_M_member_78 : decode c_M_member 78 = .ok (.getfield 7, 3) := by decide +kernel
theorem d_M_member_81 : decode c_M_member 81 = .ok (.iload_n 1, 1) := by decide +kernel
theorem d_M_member_82 : decode c_M_member 82 = .ok (.iaload, 1) := by decide +kernel
theorem d_M_member_83 : decode c_M_member 83 = .ok (.if_icmp .eq 7, 3) := by decide +kernel
theorem d_M_member_86 : decode c_M_member 86 = .ok (.iconst 1, 1) := by decide +kernel
theorem d_M_member_87 : decode c_M_member 87 = .ok (.goto 4, 3) := by decide +kernel
theorem d_M_member_90 : decode c_M_member 90 = .ok (.iconst 0, 1) := by decide +kernel
theorem d_M_member_91 : decode c_M_member 91 = .ok (.istore 5, 2) := by decide +kernel
theorem d_M_member_93 : decode c_M_member 93 = .ok (.aload_n 0, 1) := by decide +kernel
theorem d_M_member_94 : decode c_M_member 94 = .ok (.getfield 7, 3) := by decide +kernel
theorem d_M_member_97 : decode c_M_member 97 = .ok (.iload_n 1, 1) := by decide +kernel
theorem d_M_member_98 : decode c_M_member 98 = .ok (.iload 4, 2) := by decide +kernel
theorem d_M_member_100 : decode c_M_member 100 = .ok (.iastore, 1) := by decide +kernel
theorem d_M_member_101 : decode c_M_member 101 = .ok (.iload 5, 2) := by decide +kernel
theorem d_M_member_103 : decode c_M_member 103 = .ok (.ireturn, 1) := by decide +kernel
theorem d_M_add_0 : decode c_M_add 0 = .ok (.iload_n 1, 1) := by decide +kernel
theorem d_M_add_1 : decode c_M_add 1 = .ok (.iconst (-1), 1) := by decide +kernel
theorem d_M_add_2 : decode c_M_add 2 = .ok (.aload_n 0, 1) := by decide +kernel
theorem d_M_add_3 : decode c_M_add 3 = .ok (.getfield 116, 3) := by decide +kernel
theorem d_M_add_6 : decode c_M_add 6 = .ok (.iconst 1, 1) := by decide +kernel
theorem d_M_add_7 : decode c_M_add 7 = .ok (.isub, 1) := by decide +kernel
theorem d_M_add_8 : decode c_M_add 8 = .ok (.invokestatic 98, 3) := by decide +kernel
theorem d_M_add_11 : decode c_M_add 11 = .ok (.ifCond .ne 9, 3) := by decide +kernel
theorem d_M_add_14 : decode c_M_add 14 = .ok (.aload_n 0, 1) := by decide +kernel
theorem d_M_add_15 : decode c_M_add 15 = .ok (.iconst 1, 1) := by decide +kernel
theorem d_M_add_16 : decode c_M_add 16 = .ok (.invokevirtual 102, 3) := by decide +kernel
theorem d_M_add_19 : decode c_M_add 19 = .ok (.ireturn, 1) := by decide +kernel
theorem d_M_add_20 : decode c_M_add 20 = .ok (.aload_n 0, 1) := by decide +kernel
theorem d_M_add_21 : decode c_M_add 21 = .ok (.getfield 116, 3) := by decide +kernel
theorem d_M_add_24 : decode c_M_add 24 = .ok (.bipush 40, 2) := by decide +kernel
theorem d_M_add_26 : decode c_M_add 26 = .ok (.if_icmp .ne 9, 3) := by decide +kernel
theorem d_M_add_29 : decode c_M_add 29 = .ok (.aload_n 0, 1) := by decide +kernel
theorem d_M_add_30 : decode c_M_add 30 = .ok (.iconst 2, 1) := by decide +kernel
theorem d_M_add_31 : decode c_M_add 31 = .ok (.invokevirtual 102, 3) := by decide +kernel
theorem d_M_add_34 : decode c_M_add 34 = .ok (.ireturn, 1) := by decide +kernel
theorem d_M_add_35 : decode c_M_add 35 = .ok (.aload_n 0, 1) := by decide +kernel
theorem d_M_add_36 : decode c_M_add 36 = .ok (.iconst 0, 1) := by decide +kernel
theorem d_M_add_37 : decode c_M_add 37 = .ok (.putfield 94, 3) := by decide +kernel
theorem d_M_add_40 : decode c_M_add 40 = .ok (.aload_n 0, 1) := by decide +kernel
theorem d_M_add_41 : decode c_M_add 41 = .ok (.getfield 116, 3) := by decide +kernel
theorem d_M_add_44 : decode c_M_add 44 = .ok (.istore_n 2, 1) := by decide +kernel
theorem d_M_add_45 : decode c_M_add 45 = .ok (.aload_n 0, 1) := by decide +kernel
theorem d_M_add_46 : decode c_M_add 46 = .ok (.dup, 1) := by decide +kernel
theorem d_M_add_47 : decode c_M_add 47 = .ok (.getfield 116, 3) := by decide +kernel
theorem d_M_add_50 : decode c_M_add 50 = .ok (.iconst 1, 1) := by decide +kernel
theorem d_M_add_51 : decode c_M_add 51 = .ok (.iadd, 1) := by decide +kernel
theorem d_M_add_52 : decode c_M_add 52 = .ok (.putfield 116, 3) := by decide +kernel
theorem d_M_add_55 : decode c_M_add 55 = .ok (.iconst 0, 1) := by decide +kernel
theorem d_M_add_56 : decode c_M_add 56 = .ok (.istore_n 3, 1) := by decide +kernel
theorem d_M_add_57 : decode c_M_add 57 = .ok (.iload_n 3, 1) := by decide +kernel
theorem d_M_add_58 : decode c_M_add 58 = .ok (.bipush 24, 2) := by decide +kernel
theorem d_M_add_60 : decode c_M_add 60 = .ok (.if_icmp .ge 41, 3) := by decide +kernel
theorem d_M_add_63 : decode c_M_add 63 = .ok (.aload_n 0, 1) := by decide +kernel
theorem d_M_add_64 : decode c_M_add 64 = .ok (.getfield 31, 3) := by decide +kernel
theorem d_M_add_67 : decode c_M_add 67 = .ok (.bipush 24, 2) := by decide +kernel
theorem d_M_add_69 : decode c_M_add 69 = .ok (.iload_n 2, 1) := by decide +kernel
theorem d_M_add_70 : decode c_M_add 70 = .ok (.imul, 1) := by decide +kernel
theorem d_M_add_71 : decode c_M_add 71 = .ok (.iload_n 3, 1) := by decide +kernel
theorem d_M_add_72 : decode c_M_add 72 = .ok (.iadd, 1) := by decide +kernel
theorem d_M_add_73 : decode c_M_add 73 = .ok (.aload_n 0, 1) := by decide +kernel
theorem d_M_add_74 : decode c_M_add 74 = .ok (.getfield 31, 3) := by decide +kernel
theorem d_M_add_77 : decode c_M_add 77 = .ok (.sipush 960, 3) := by decide +kernel
theorem d_M_add_80 : decode c_M_add 80 = .ok (.iload_n 3, 1) := by decide +kernel
theorem d_M_add_81 : decode c_M_add 81 = .ok (.iadd, 1) := by decide +kernel
theorem d_M_add_82 : decode c_M_add 82 = .ok (.iaload, 1) := by decide +kernel
theorem d_M_add_83 : decode c_M_add 83 = .ok (.iastore, 1) := by decide +kernel
theorem d_M_add_84 : decode c_M_add 84 = .ok (.aload_n 0, 1) := by decide +kernel
theorem d_M_add_85 : decode c_M_add 85 = .ok (.getfield 31, 3) := by decide +kernel
theorem d_M_add_88 : decode c_M_add 88 = .ok (.sipush 960, 3) := by decide +kernel
theorem d_M_add_91 : decode c_M_add 91 = .ok (.iload_n 3, 1) := by decide +kernel
theorem d_M_add_92 : decode c_M_add 92 = .ok (.iadd, 1) := by decide +kernel
theorem d_M_add_93 : decode c_M_add 93 = .ok (.iconst 0, 1) := by decide +kernel
theorem d_M_add_94 : decode c_M_add 94 = .ok (.iastore, 1) := by decide +kernel
theorem d_M_add_95 : decode c_M_add 95 = .ok (.iinc 3 1, 3) := by decide +kernel
theorem d_M_add_98 : decode c_M_add 98 = .ok (.goto (-41), 3) := by decide +kernel
theorem d_M_add_101 : decode c_M_add 101 = .ok (.iconst 0, 1) := by decide +kernel
theorem d_M_add_102 : decode c_M_add 102 = .ok (.istore_n 3, 1) := by decide +kernel
theorem d_M_add_103 : decode c_M_add 103 = .ok (.iload_n 3, 1) := by decide +kernel
theorem d_M_add_104 : decode c_M_add 104 = .ok (.iconst 3, 1) := by decide +kernel
theorem d_M_add_105 : decode c_M_add 105 = .ok (.if_icmp .ge 38, 3) := by decide +kernel
theorem d_M_add_108 : decode c_M_add 108 = .ok (.aload_n 0, 1) := by decide +kernel
theorem d_M_add_109 : decode c_M_add 109 = .ok (.getfield 28, 3) := by decide +kernel
theorem d_M_add_112 : decode c_M_add 112 = .ok (.iconst 3, 1) := by decide +kernel
theorem d_M_add_113 : decode c_M_add 113 = .ok (.iload_n 2, 1) := by decide +kernel
theorem d_M_add_114 : decode c_M_add 114 = .ok (.imul, 1) := by decide +kernel
theorem d_M_add_115 : decode c_M_add 115 = .ok (.iload_n 3, 1) := by decide +kernel
theorem d_M_add_116 : decode c_M_add 116 = .ok (.iadd, 1) := by decide +kernel
theorem d_M_add_117 : decode c_M_add 117 = .ok (.aload_n 0, 1) := by decide +kernel
theorem d_M_add_118 : decode c_M_add 118 = .ok (.getfield 28, 3) := by decide +kernel
theorem d_M_add_121 : decode c_M_add 121 = .ok (.bipush 120, 2) := by decide +kernel
theorem d_M_add_123 : decode c_M_add 123 = .ok (.iload_n 3, 1) := by decide +kernel
theorem d_M_add_124 : decode c_M_add 124 = .ok (.iadd, 1) := by decide +kernel
theorem d_M_add_125 : decode c_M_add 125 = .ok (.iaload, 1) := by decide +kernel
theorem d_M_add_126 : decode c_M_add 126 = .ok (.iastore, 1) := by decide +kernel
theorem d_M_add_127 : decode c_M_add 127 = .ok (.aload_n 0, 1) := by decide +kernel
theorem d_M_add_128 : decode c_M_add 128 = .ok (.getfield 28, 3) := by decide +kernel
theorem d_M_add_131 : decode c_M_add 131 = .ok (.bipush 120, 2) := by decide +kernel
theorem d_M_add_133 : decode c_M_add 133 = .ok (.iload_n 3, 1) := by decide +kernel
theorem d_M_add_134 : decode c_M_add 134 = .ok (.iadd, 1) := by decide +kernel
theorem d_M_add_135 : decode c_M_add 135 = .ok (.iconst 0, 1) := by decide +kernel
theorem d_M_add_136 : decode c_M_add 136 = .ok (.iastore, 1) := by decide +kernel
theorem d_M_add_137 : decode c_M_add 137 = .ok (.iinc 3 1, 3) := by decide +kernel
theorem d_M_add_140 : decode c_M_add 140 = .ok (.goto (-37), 3) := by decide +kernel
theorem d_M_add_143 : decode c_M_add 143 = .ok (.aload_n 0, 1) := by decide +kernel
theorem d_M_add_144 : decode c_M_add 144 = .ok (.getfield 34, 3) := by decide +kernel
theorem d_M_add_147 : decode c_M_add 147 = .ok (.iload_n 2, 1) := by decide +kernel
theorem d_M_add_148 : decode c_M_add 148 = .ok (.aload_n 0, 1) := by decide +kernel
theorem d_M_add_149 : decode c_M_add 149 = .ok (.getfield 34, 3) := by decide +kernel
theorem d_M_add_152 : decode c_M_add 152 = .ok (.bipush 40, 2) := by decide +kernel
theorem d_M_add_154 : decode c_M_add 154 = .ok (.iaload, 1) := by decide +kernel
theorem d_M_add_155 : decode c_M_add 155 = .ok (.iastore, 1) := by decide +kernel
theorem d_M_add_156 : decode c_M_add 156 = .ok (.aload_n 0, 1) := by decide +kernel
theorem d_M_add_157 : decode c_M_add 157 = .ok (.getfield 37, 3) := by decide +kernel
theorem d_M_add_160 : decode c_M_add 160 = .ok (.iload_n 2, 1) := by decide +kernel
theorem d_M_add_161 : decode c_M_add 161 = .ok (.aload_n 0, 1) := by decide +kernel
theorem d_M_add_162 : decode c_M_add 162 = .ok (.getfield 37, 3) := by decide +kernel
theorem d_M_add_165 : decode c_M_add 165 = .ok (.bipush 40, 2) := by decide +kernel
theorem d_M_add_167 : decode c_M_add 167 = .ok (.iaload, 1) := by decide +kernel
theorem d_M_add_168 : decode c_M_add 168 = .ok (.iastore, 1) := by decide +kernel
theorem d_M_add_169 : decode c_M_add 169 = .ok (.aload_n 0, 1) := by decide +kernel
theorem d_M_add_170 : decode c_M_add 170 = .ok (.getfield 34, 3) := by decide +kernel
theorem d_M_add_173 : decode c_M_add 173 = .ok (.bipush 40, 2) := by decide +kernel
theorem d_M_add_175 : decode c_M_add 175 = .ok (.iconst 0, 1) := by decide +kernel
theorem d_M_add_176 : decode c_M_add 176 = .ok (.iastore, 1) := by decide +kernel
theorem d_M_add_177 : decode c_M_add 177 = .ok (.aload_n 0, 1) := by decide +kernel
theorem d_M_add_178 : decode c_M_add 178 = .ok (.getfield 37, 3) := by decide +kernel
theorem d_M_add_181 : decode c_M_add 181 = .ok (.bipush 40, 2) := by decide +kernel
theorem d_M_add_183 : decode c_M_add 183 = .ok (.iconst 0, 1) := by decide +kernel
theorem d_M_add_184 : decode c_M_add 184 = .ok (.iastore, 1) := by decide +kernel
theorem d_M_add_185 : decode c_M_add 185 = .ok (.aload_n 0, 1) := by decide +kernel
theorem d_M_add_186 : decode c_M_add 186 = .ok (.getfield 40, 3) := by decide +kernel
theorem d_M_add_189 : decode c_M_add 189 = .ok (.iload_n 2, 1) := by decide +kernel
theorem d_M_add_190 : decode c_M_add 190 = .ok (.iload_n 1, 1) := by decide +kernel
theorem d_M_add_191 : decode c_M_add 191 = .ok (.iastore, 1) := by decide +kernel
theorem d_M_add_192 : decode c_M_add 192 = .ok (.aload_n 0, 1) := by decide +kernel
theorem d_M_add_193 : decode c_M_add 193 = .ok (.getfield 43, 3) := by decide +kernel
theorem d_M_add_196 : decode c_M_add 196 = .ok (.iload_n 2, 1) := by decide +kernel
theorem d_M_add_197 : decode c_M_add 197 = .ok (.iconst (-1), 1) := by decide +kernel
theorem d_M_add_198 : decode c_M_add 198 = .ok (.iastore, 1) := by decide +kernel
theorem d_M_add_199 : decode c_M_add 199 = .ok (.aload_n 0, 1) := by decide +kernel
theorem d_M_add_200 : decode c_M_add 200 = .ok (.getfield 46, 3) := by decide +kernel
theorem d_M_add_203 : decode c_M_add 203 = .ok (.iload_n 2, 1) := by decide +kernel
theorem d_M_add_204 : decode c_M_add 204 = .ok (.bipush (-2), 2) := by decide +kernel
theorem d_M_add_206 : decode c_M_add 206 = .ok (.iastore, 1) := by decide +kernel
theorem d_M_add_207 : decode c_M_add 207 = .ok (.iload_n 2, 1) := by decide +kernel
theorem d_M_add_208 : decode c_M_add 208 = .ok (.ireturn, 1) := by decide +kernel
theorem d_M_merge_0 : decode c_M_merge 0 = .ok (.aload_n 0, 1) := by decide +kernel
theorem d_M_merge_1 : decode c_M_merge 1 = .ok (.iconst 0, 1) := by decide +kernel
theorem d_M_merge_2 : decode c_M_merge 2 = .ok (.putfield 94, 3) := by decide +kernel
theorem d_M_merge_5 : decode c_M_merge 5 = .ok (.iconst 0, 1) := by decide +kernel
theorem d_M_merge_6 : decode c_M_merge 6 = .ok (.istore_n 1, 1) := by decide +kernel
theorem d_M_merge_7 : decode c_M_merge 7 = .ok (.iconst 0, 1) := by decide +kernel
theorem d_M_merge_8 : decode c_M_merge 8 = .ok (.istore_n 2, 1) := by decide +kernel
theorem d_M_merge_9 : decode c_M_merge 9 = .ok (.iconst 0, 1) := by decide +kernel
theorem d_M_merge_10 : decode c_M_merge 10 = .ok (.istore_n 3, 1) := by decide +kernel
theorem d_M_merge_11 : decode c_M_merge 11 = .ok (.iload_n 3, 1) := by decide +kernel
theorem d_M_merge_12 : decode c_M_merge 12 = .ok (.aload_n 0, 1) := by decide +kernel
theorem d_M_merge_13 : decode c_M_merge 13 = .ok (.getfield 116, 3) := by decide +kernel
theorem d_M_merge_16 : decode c_M_merge 16 = .ok (.if_icmp .ge 39, 3) := by decide +kernel
theorem d_M_merge_19 : decode c_M_merge 19 = .ok (.aload_n 0, 1) := by decide +kernel
theorem d_M_merge_20 : decode c_M_merge 20 = .ok (.getfield 43, 3) := by decide +kernel
theorem d_M_merge_23 : decode c_M_merge 23 = .ok (.iload_n 3, 1) := by decide +kernel
theorem d_M_merge_24 : decode c_M_merge 24 = .ok (.iaload, 1) := by decide +kernel
theorem d_M_merge_25 : decode c_M_merge 25 = .ok (.ifCond .ge 6, 3) := by decide +kernel
theorem d_M_merge_28 : decode c_M_merge 28 = .ok (.goto 21, 3) := by decide +kernel
theorem d_M_merge_31 : decode c_M_merge 31 = .ok (.aload_n 0, 1) := by decide +kernel
theorem d_M_merge_32 : decode c_M_merge 32 = .ok (.getfield 49, 3) := by decide +kernel
theorem d_M_merge_35 : decode c_M_merge 35 = .ok (.iload_n 3, 1) := by decide +kernel
theorem d_M_merge_36 : decode c_M_merge 36 = .ok (.baload, 1) := by decide +kernel
theorem d_M_merge_37 : decode c_M_merge 37 = .ok (.ifCond .eq 9, 3) := by decide +kernel
theorem d_M_merge_40 : decode c_M_merge 40 = .ok (.iinc 1 1, 3) := by decide +kernel
theorem d_M_merge_43 : decode c_M_merge 43 = .ok (.goto 6, 3) := by decide +kernel
theorem d_M_merge_46 : decode c_M_merge 46 = .ok (.iinc 2 1, 3) := by decide +kernel
theorem d_M_merge_49 : decode c_M_merge 49 = .ok (.iinc 3 1, 3) := by decide +kernel
theorem d_M_merge_52 : decode c_M_merge 52 = .ok (.goto (-41), 3) := by decide +kernel
theorem d_M_merge_55 : decode c_M_merge 55 = .ok (.aload_n 0, 1) := by decide +kernel
theorem d_M_merge_56 : decode c_M_merge 56 = .ok (.getfield 119, 3) := by decide +kernel
theorem d_M_merge_59 : decode c_M_merge 59 = .ok (.iconst 2, 1) := by decide +kernel
theorem d_M_merge_60 : decode c_M_merge 60 = .ok (.if_icmp .ge 9, 3) := by decide +kernel
theorem d_M_merge_63 : decode c_M_merge 63 = .ok (.iload_n 1, 1) := by decide +kernel
theorem d_M_merge_64 : decode c_M_merge 64 = .ok (.ifCond .ne 5, 3) := by decide +kernel
theorem d_M_merge_67 : decode c_M_merge 67 = .ok (.iconst 0, 1) := by decide +kernel
theorem d_M_merge_68 : decode c_M_merge 68 = .ok (.ireturn, 1) := by decide +kernel
theorem d_M_merge_69 : decode c_M_merge 69 = .ok (.iconst 0, 1) := by decide +kernel
theorem d_M_merge_70 : decode c_M_merge 70 = .ok (.istore_n 3, 1) := by decide +kernel
theorem d_M_merge_71 : decode c_M_merge 71 = .ok (.iload_n 3, 1) := by decide +kernel
theorem d_M_merge_72 : decode c_M_merge 72 = .ok (.aload_n 0, 1) := by decide +kernel
theorem d_M_merge_73 : decode c_M_merge 73 = .ok (.getfield 116, 3) := by decide +kernel
theorem d_M_merge_76 : decode c_M_merge 76 = .ok (.if_icmp .ge 42, 3) := by decide +kernel
theorem d_M_merge_79 : decode c_M_merge 79 = .ok (.aload_n 0, 1) := by decide +kernel
theorem d_M_merge_80 : decode c_M_merge 80 = .ok (.getfield 43, 3) := by decide +kernel
theorem d_M_merge_83 : decode c_M_merge 83 = .ok (.iload_n 3, 1) := by decide +kernel
theorem d_M_merge_84 : decode c_M_merge 84 = .ok (.iaload, 1) := by decide +kernel
theorem d_M_merge_85 : decode c_M_merge 85 = .ok (.ifCond .lt 27, 3) := by decide +kernel
theorem d_M_merge_88 : decode c_M_merge 88 = .ok (.aload_n 0, 1) := by decide +kernel
theorem d_M_merge_89 : decode c_M_merge 89 = .ok (.getfield 43, 3) := by decide +kernel
theorem d_M_merge_92 : decode c_M_merge 92 = .ok (.iload_n 3, 1) := by decide +kernel
theorem d_M_merge_93 : decode c_M_merge 93 = .ok (.aload_n 0, 1) := by decide +kernel
theorem d_M_merge_94 : decode c_M_merge 94 = .ok (.getfield 49, 3) := by decide +kernel
theorem d_M_merge_97 : decode c_M_merge 97 = .ok (.iload_n 3, 1) := by decide +kernel
theorem d_M_merge_98 : decode c_M_merge 98 = .ok (.baload, 1) := by decide +kernel
theorem d_M_merge_99 : decode c_M_merge 99 = .ok (.ifCond .eq 8, 3) := by decide +kernel
theorem d_M_merge_102 : decode c_M_merge 102 = .ok (.bipush (-2), 2) := by decide +kernel
theorem d_M_merge_104 : decode c_M_merge 104 = .ok (.goto 7, 3) := by decide +kernel
theorem d_M_merge_107 : decode c_M_merge 107 = .ok (.aload_n 0, 1) := by decide +kernel
theorem d_M_merge_108 : decode c_M_merge 108 = .ok (.getfield 125, 3) := by decide +kernel
theorem d_M_merge_111 : decode c_M_merge 111 = .ok (.iastore, 1) := by decide +kernel
theorem d_M_merge_112 : decode c_M_merge 112 = .ok (.iinc 3 1, 3) := by decide +kernel
theorem d_M_merge_115 : decode c_M_merge 115 = .ok (.goto (-44), 3) := by decide +kernel
theorem d_M_merge_118 : decode c_M_merge 118 = .ok (.aload_n 0, 1) := by decide +kernel
theorem d_M_merge_119 : decode c_M_merge 119 = .ok (.getfield 56, 3) := by decide +kernel
theorem d_M_merge_122 : decode c_M_merge 122 = .ok (.iconst 0, 1) := by decide +kernel
theorem d_M_merge_123 : decode c_M_merge 123 = .ok (.aload_n 0, 1) := by decide +kernel
theorem d_M_merge_124 : decode c_M_merge 124 = .ok (.getfield 125, 3) := by decide +kernel
theorem d_M_merge_127 : decode c_M_merge 127 = .ok (.iastore, 1) := by decide +kernel
theorem d_M_merge_128 : decode c_M_merge 128 = .ok (.aload_n 0, 1) := by decide +kernel
theorem d_M_merge_129 : decode c_M_merge 129 = .ok (.iload_n 2, 1) := by decide +kernel
theorem d_M_merge_130 : decode c_M_merge 130 = .ok (.ifCond .le 7, 3) := by decide +kernel
theorem d_M_merge_133 : decode c_M_merge 133 = .ok (.iconst 1, 1) := by decide +kernel
theorem d_M_merge_134 : decode c_M_merge 134 = .ok (.goto 4, 3) := by decide +kernel
theorem d_M_merge_137 : decode c_M_merge 137 = .ok (.iconst 0, 1) := by decide +kernel
theorem d_M_merge_138 : decode c_M_merge 138 = .ok (.putfield 119, 3) := by decide +kernel
theorem d_M_merge_141 : decode c_M_merge 141 = .ok (.aload_n 0, 1) := by decide +kernel
theorem d_M_merge_142 : decode c_M_merge 142 = .ok (.dup, 1) := by decide +kernel
theorem d_M_merge_143 : decode c_M_merge 143 = .ok (.getfield 125, 3) := by decide +kernel
theorem d_M_merge_146 : decode c_M_merge 146 = .ok (.iconst 1, 1) := by decide +kernel
theorem d_M_merge_147 : decode c_M_merge 147 = .ok (.iadd, 1) := by decide +kernel
theorem d_M_merge_148 : decode c_M_merge 148 = .ok (.putfield 125, 3) := by decide +kernel
theorem d_M_merge_151 : decode c_M_merge 151 = .ok (.iload_n 1, 1) := by decide +kernel
theorem d_M_merge_152 : decode c_M_merge 152 = .ok (.ireturn, 1) := by decide +kernel
theorem d_M_refresh_0 : decode c_M_refresh 0 = .ok (.aload_n 0, 1) := by decide +kernel
theorem d_M_refresh_1 : decode c_M_refresh 1 = .ok (.iconst 0, 1) := by decide +kernel
theorem d_M_refresh_2 : decode c_M_refresh 2 = .ok (.putfield 94, 3) := by decide +kernel
theorem d_M_refresh_5 : decode c_M_refresh 5 = .ok (.aload_n 0, 1) := by decide +kernel
theorem d_M_refresh_6 : decode c_M_refresh 6 = .ok (.invokevirtual 134, 3) := by decide +kernel
theorem d_M_refresh_9 : decode c_M_refresh 9 = .ok (.istore_n 1, 1) := by decide +kernel
theorem d_M_refresh_10 : decode c_M_refresh 10 = .ok (.aload_n 0, 1) := by decide +kernel
theorem d_M_refresh_11 : decode c_M_refresh 11 = .ok (.aload_n 0, 1) := by decide +kernel
theorem d_M_refresh_12 : decode c_M_refresh 12 = .ok (.getfield 119, 3) := by decide +kernel
theorem d_M_refresh_15 : decode c_M_refresh 15 = .ok (.putfield 128, 3) := by decide +kernel
theorem d_M_refresh_18 : decode c_M_refresh 18 = .ok (.iconst 0, 1) := by decide +kernel
theorem d_M_refresh_19 : decode c_M_refresh 19 = .ok (.istore_n 2, 1) := by decide +kernel
theorem d_M_refresh_20 : decode c_M_refresh 20 = .ok (.iload_n 2, 1) := by decide +kernel
theorem d_M_refresh_21 : decode c_M_refresh 21 = .ok (.aload_n 0, 1) := by decide +kernel
theorem d_M_refresh_22 : decode c_M_refresh 22 = .ok (.getfield 119, 3) := by decide +kernel
theorem d_M_refresh_25 : decode c_M_refresh 25 = .ok (.if_icmp .ge 21, 3) := by decide +kernel
theorem d_M_refresh_28 : decode c_M_refresh 28 = .ok (.aload_n 0, 1) := by decide +kernel
theorem d_M_refresh_29 : decode c_M_refresh 29 = .ok (.getfield 59, 3) := by decide +kernel
theorem d_M_refresh_32 : decode c_M_refresh 32 = .ok (.iload_n 2, 1) := by decide +kernel
theorem d_M_refresh_33 : decode c_M_refresh 33 = .ok (.aload_n 0, 1) := by decide +kernel
theorem d_M_refresh_34 : decode c_M_refresh 34 = .ok (.getfield 56, 3) := by decide +kernel
theorem d_M_refresh_37 : decode c_M_refresh 37 = .ok (.iload_n 2, 1) := by decide +kernel
theorem d_M_refresh_38 : decode c_M_refresh 38 = .ok (.iaload, 1) := by decide +kernel
theorem d_M_refresh_39 : decode c_M_refresh 39 = .ok (.iastore, 1) := by decide +kernel
theorem d_M_refresh_40 : decode c_M_refresh 40 = .ok (.iinc 2 1, 3) := by decide +kernel
theorem d_M_refresh_43 : decode c_M_refresh 43 = .ok (.goto (-23), 3) := by decide +kernel
theorem d_M_refresh_46 : decode c_M_refresh 46 = .ok (.iconst 0, 1) := by decide +kernel
theorem d_M_refresh_47 : decode c_M_refresh 47 = .ok (.istore_n 2, 1) := by decide +kernel
theorem d_M_refresh_48 : decode c_M_refresh 48 = .ok (.iconst 0, 1) := by decide +kernel
theorem d_M_refresh_49 : decode c_M_refresh 49 = .ok (.istore_n 3, 1) := by decide +kernel
theorem d_M_refresh_50 : decode c_M_refresh 50 = .ok (.iload_n 3, 1) := by decide +kernel
theorem d_M_refresh_51 : decode c_M_refresh 51 = .ok (.aload_n 0, 1) := by decide +kernel
theorem d_M_refresh_52 : decode c_M_refresh 52 = .ok (.getfield 116, 3) := by decide +kernel
theorem d_M_refresh_55 : decode c_M_refresh 55 = .ok (.if_icmp .ge 54, 3) := by decide +kernel
theorem d_M_refresh_58 : decode c_M_refresh 58 = .ok (.aload_n 0, 1) := by decide +kernel
theorem d_M_refresh_59 : decode c_M_refresh 59 = .ok (.getfield 46, 3) := by decide +kernel
theorem d_M_refresh_62 : decode c_M_refresh 62 = .ok (.iload_n 3, 1) := by decide +kernel
theorem d_M_refresh_63 : decode c_M_refresh 63 = .ok (.aload_n 0, 1) := by decide +kernel
theorem d_M_refresh_64 : decode c_M_refresh 64 = .ok (.getfield 43, 3) := by decide +kernel
theorem d_M_refresh_67 : decode c_M_refresh 67 = .ok (.iload_n 3, 1) := by decide +kernel
theorem d_M_refresh_68 : decode c_M_refresh 68 = .ok (.iaload, 1) := by decide +kernel
theorem d_M_refresh_69 : decode c_M_refresh 69 = .ok (.iastore, 1) := by decide +kernel
theorem d_M_refresh_70 : decode c_M_refresh 70 = .ok (.aload_n 0, 1) := by decide +kernel
theorem d_M_refresh_71 : decode c_M_refresh 71 = .ok (.getfield 53, 3) := by decide +kernel
theorem d_M_refresh_74 : decode c_M_refresh 74 = .ok (.iload_n 3, 1) := by decide +kernel
theorem d_M_refresh_75 : decode c_M_refresh 75 = .ok (.aload_n 0, 1) := by decide +kernel
theorem d_M_refresh_76 : decode c_M_refresh 76 = .ok (.getfield 49, 3) := by decide +kernel
theorem d_M_refresh_79 : decode c_M_refresh 79 = .ok (.iload_n 3, 1) := by decide +kernel
theorem d_M_refresh_80 : decode c_M_refresh 80 = .ok (.baload, 1) := by decide +kernel
theorem d_M_refresh_81 : decode c_M_refresh 81 = .ok (.bastore, 1) := by decide +kernel
theorem d_M_refresh_82 : decode c_M_refresh 82 = .ok (.aload_n 0, 1) := by decide +kernel
theorem d_M_refresh_83 : decode c_M_refresh 83 = .ok (.getfield 46, 3) := by decide +kernel
theorem d_M_refresh_86 : decode c_M_refresh 86 = .ok (.iload_n 3, 1) := by decide +kernel
theorem d_M_refresh_87 : decode c_M_refresh 87 = .ok (.iaload, 1) := by decide +kernel
theorem d_M_refresh_88 : decode c_M_refresh 88 = .ok (.ifCond .lt 15, 3) := by decide +kernel
theorem d_M_refresh_91 : decode c_M_refresh 91 = .ok (.aload_n 0, 1) := by decide +kernel
theorem d_M_refresh_92 : decode c_M_refresh 92 = .ok (.getfield 49, 3) := by decide +kernel
theorem d_M_refresh_95 : decode c_M_refresh 95 = .ok (.iload_n 3, 1) := by decide +kernel
theorem d_M_refresh_96 : decode c_M_refresh 96 = .ok (.baload, 1) := by decide +kernel
theorem d_M_refresh_97 : decode c_M_refresh 97 = .ok (.ifCond .ne 6, 3) := by decide +kernel
theorem d_M_refresh_100 : decode c_M_refresh 100 = .ok (.iinc 2 1, 3) := by decide +kernel
theorem d_M_refresh_103 : decode c_M_refresh 103 = .ok (.iinc 3 1, 3) := by decide +kernel
theorem d_M_refresh_106 : decode c_M_refresh 106 = .ok (.goto (-56), 3) := by decide +kernel
theorem d_M_refresh_109 : decode c_M_refresh 109 = .ok (.iconst 0, 1) := by decide +kernel
theorem d_M_refresh_110 : decode c_M_refresh 110 = .ok (.istore_n 3, 1) := by decide +kernel
theorem d_M_refresh_111 : decode c_M_refresh 111 = .ok (.iload_n 3, 1) := by decide +kernel
theorem d_M_refresh_112 : decode c_M_refresh 112 = .ok (.bipush 16, 2) := by decide +kernel
theorem d_M_refresh_114 : decode c_M_refresh 114 = .ok (.if_icmp .ge 21, 3) := by decide +kernel
theorem d_M_refresh_117 : decode c_M_refresh 117 = .ok (.aload_n 0, 1) := by decide +kernel
theorem d_M_refresh_118 : decode c_M_refresh 118 = .ok (.getfield 19, 3) := by decide +kernel
theorem d_M_refresh_121 : decode c_M_refresh 121 = .ok (.iload_n 3, 1) := by decide +kernel
theorem d_M_refresh_122 : decode c_M_refresh 122 = .ok (.aload_n 0, 1) := by decide +kernel
theorem d_M_refresh_123 : decode c_M_refresh 123 = .ok (.getfield 7, 3) := by decide +kernel
theorem d_M_refresh_126 : decode c_M_refresh 126 = .ok (.iload_n 3, 1) := by decide +kernel
theorem d_M_refresh_127 : decode c_M_refresh 127 = .ok (.iaload, 1) := by decide +kernel
theorem d_M_refresh_128 : decode c_M_refresh 128 = .ok (.iastore, 1) := by decide +kernel
theorem d_M_refresh_129 : decode c_M_refresh 129 = .ok (.iinc 3 1, 3) := by decide +kernel
theorem d_M_refresh_132 : decode c_M_refresh 132 = .ok (.goto (-21), 3) := by decide +kernel
theorem d_M_refresh_135 : decode c_M_refresh 135 = .ok (.iconst 0, 1) := by decide +kernel
theorem d_M_refresh_136 : decode c_M_refresh 136 = .ok (.istore_n 3, 1) := by decide +kernel
theorem d_M_refresh_137 : decode c_M_refresh 137 = .ok (.iload_n 3, 1) := by decide +kernel
theorem d_M_refresh_138 : decode c_M_refresh 138 = .ok (.iconst 3, 1) := by decide +kernel
theorem d_M_refresh_139 : decode c_M_refresh 139 = .ok (.if_icmp .ge 21, 3) := by decide +kernel
theorem d_M_refresh_142 : decode c_M_refresh 142 = .ok (.aload_n 0, 1) := by decide +kernel
theorem d_M_refresh_143 : decode c_M_refresh 143 = .ok (.getfield 22, 3) := by decide +kernel
theorem d_M_refresh_146 : decode c_M_refresh 146 = .ok (.iload_n 3, 1) := by decide +kernel
theorem d_M_refresh_147 : decode c_M_refresh 147 = .ok (.aload_n 0, 1) := by decide +kernel
theorem d_M_refresh_148 : decode c_M_refresh 148 = .ok (.getfield 13, 3) := by decide +kernel
theorem d_M_refresh_151 : decode c_M_refresh 151 = .ok (.iload_n 3, 1) := by decide +kernel
theorem d_M_refresh_152 : decode c_M_refresh 152 = .ok (.iaload, 1) := by decide +kernel
theorem d_M_refresh_153 : decode c_M_refresh 153 = .ok (.iastore, 1) := by decide +kernel
theorem d_M_refresh_154 : decode c_M_refresh 154 = .ok (.iinc 3 1, 3) := by decide +kernel
theorem d_M_refresh_157 : decode c_M_refresh 157 = .ok (.goto (-20), 3) := by decide +kernel
theorem d_M_refresh_160 : decode c_M_refresh 160 = .ok (.iconst 0, 1) := by decide +kernel
theorem d_M_refresh_161 : decode c_M_refresh 161 = .ok (.istore_n 3, 1) := by decide +kernel
theorem d_M_refresh_162 : decode c_M_refresh 162 = .ok (.iload_n 3, 1) := by decide +kernel
theorem d_M_refresh_163 : decode c_M_refresh 163 = .ok (.bipush 8, 2) := by decide +kernel
theorem d_M_refresh_165 : decode c_M_refresh 165 = .ok (.if_icmp .ge 21, 3) := by decide +kernel
theorem d_M_refresh_168 : decode c_M_refresh 168 = .ok (.aload_n 0, 1) := by decide +kernel
theorem d_M_refresh_169 : decode c_M_refresh 169 = .ok (.getfield 25, 3) := by decide +kernel
theorem d_M_refresh_172 : decode c_M_refresh 172 = .ok (.iload_n 3, 1) := by decide +kernel
theorem d_M_refresh_173 : decode c_M_refresh 173 = .ok (.aload_n 0, 1) := by decide +kernel
theorem d_M_refresh_174 : decode c_M_refresh 174 = .ok (.getfield 16, 3) := by decide +kernel
theorem d_M_refresh_177 : decode c_M_refresh 177 = .ok (.iload_n 3, 1) := by decide +kernel
theorem d_M_refresh_178 : decode c_M_refresh 178 = .ok (.iaload, 1) := by decide +kernel
theorem d_M_refresh_179 : decode c_M_refresh 179 = .ok (.iastore, 1) := by decide +kernel
theorem d_M_refresh_180 : decode c_M_refresh 180 = .ok (.iinc 3 1, 3) := by decide +kernel
theorem d_M_refresh_183 : decode c_M_refresh 183 = .ok (.goto (-21), 3) := by decide +kernel
theorem d_M_refresh_186 : decode c_M_refresh 186 = .ok (.aload_n 0, 1) := by decide +kernel
theorem d_M_refresh_187 : decode c_M_refresh 187 = .ok (.getfield 131, 3) := by decide +kernel
theorem d_M_refresh_190 : decode c_M_refresh 190 = .ok (.iconst 1, 1) := by decide +kernel
theorem d_M_refresh_191 : decode c_M_refresh 191 = .ok (.isub, 1) := by decide +kernel
theorem d_M_refresh_192 : decode c_M_refresh 192 = .ok (.istore_n 3, 1) := by decide +kernel
theorem d_M_refresh_193 : decode c_M_refresh 193 = .ok (.iload_n 3, 1) := by decide +kernel
theorem d_M_refresh_194 : decode c_M_refresh 194 = .ok (.ifCond .lt 35, 3) := by decide +kernel
theorem d_M_refresh_197 : decode c_M_refresh 197 = .ok (.aload_n 0, 1) := by decide +kernel
theorem d_M_refresh_198 : decode c_M_refresh 198 = .ok (.aload_n 0, 1) := by decide +kernel
theorem d_M_refresh_199 : decode c_M_refresh 199 = .ok (.getfield 85, 3) := by decide +kernel
theorem d_M_refresh_202 : decode c_M_refresh 202 = .ok (.iload_n 3, 1) := by decide +kernel
theorem d_M_refresh_203 : decode c_M_refresh 203 = .ok (.iaload, 1) := by decide +kernel
theorem d_M_refresh_204 : decode c_M_refresh 204 = .ok (.invokevirtual 138, 3) := by decide +kernel
theorem d_M_refresh_207 : decode c_M_refresh 207 = .ok (.istore 4, 2) := by decide +kernel
theorem d_M_refresh_209 : decode c_M_refresh 209 = .ok (.iload_n 1, 1) := by decide +kernel
theorem d_M_refresh_210 : decode c_M_refresh 210 = .ok (.ifCond .ne 8, 3) := by decide +kernel
theorem d_M_refresh_213 : decode c_M_refresh 213 = .ok (.iload 4, 2) := by decide +kernel
theorem d_M_refresh_215 : decode c_M_refresh 215 = .ok (.ifCond .ne 8, 3) := by decide +kernel
theorem d_M_refresh_218 : decode c_M_refresh 218 = .ok (.aload_n 0, 1) := by decide +kernel
theorem d_M_refresh_219 : decode c_M_refresh 219 = .ok (.iload_n 3, 1) := by decide +kernel
theorem d_M_refresh_220 : decode c_M_refresh 220 = .ok (.invokevirtual 142, 3) := by decide +kernel
theorem d_M_refresh_223 : decode c_M_refresh 223 = .ok (.iinc 3 (-1), 3) := by decide +kernel
theorem d_M_refresh_226 : decode c_M_refresh 226 = .ok (.goto (-33), 3) := by decide +kernel
theorem d_M_refresh_229 : decode c_M_refresh 229 = .ok (.iload_n 2, 1) := by decide +kernel
theorem d_M_refresh_230 : decode c_M_refresh 230 = .ok (.ireturn, 1) := by decide +kernel
theorem d_M_clause_0 : decode c_M_clause 0 = .ok (.iload_n 1, 1) := by decide +kernel
theorem d_M_clause_1 : decode c_M_clause 1 = .ok (.iconst 0, 1) := by decide +kernel
theorem d_M_clause_2 : decode c_M_clause 2 = .ok (.iconst 2, 1) := by decide +kernel
theorem d_M_clause_3 : decode c_M_clause 3 = .ok (.invokestatic 98, 3) := by decide +kernel
theorem d_M_clause_6 : decode c_M_clause 6 = .ok (.ifCond .eq 30, 3) := by decide +kernel
theorem d_M_clause_9 : decode c_M_clause 9 = .ok (.iload_n 2, 1) := by decide +kernel
theorem d_M_clause_10 : decode c_M_clause 10 = .ok (.iconst 0, 1) := by decide +kernel
theorem d_M_clause_11 : decode c_M_clause 11 = .ok (.bipush 7, 2) := by decide +kernel
theorem d_M_clause_13 : decode c_M_clause 13 = .ok (.invokestatic 98, 3) := by decide +kernel
theorem d_M_clause_16 : decode c_M_clause 16 = .ok (.ifCond .eq 20, 3) := by decide +kernel
theorem d_M_clause_19 : decode c_M_clause 19 = .ok (.iload_n 3, 1) := by decide +kernel
theorem d_M_clause_20 : decode c_M_clause 20 = .ok (.iconst 0, 1) := by decide +kernel
theorem d_M_clause_21 : decode c_M_clause 21 = .ok (.iconst 2, 1) := by decide +kernel
theorem d_M_clause_22 : decode c_M_clause 22 = .ok (.invokestatic 98, 3) := by decide +kernel
theorem d_M_clause_25 : decode c_M_clause 25 = .ok (.ifCond .eq 11, 3) := by decide +kernel
theorem d_M_clause_28 : decode c_M_clause 28 = .ok (.dload 4, 2) := by decide +kernel
theorem d_M_clause_30 : decode c_M_clause 30 = .ok (.invokestatic 110, 3) := by decide +kernel
theorem d_M_clause_33 : decode c_M_clause 33 = .ok (.ifCond .ne 9, 3) := by decide +kernel
theorem d_M_clause_36 : decode c_M_clause 36 = .ok (.aload_n 0, 1) := by decide +kernel
theorem d_M_clause_37 : decode c_M_clause 37 = .ok (.iconst 1, 1) := by decide +kernel
theorem d_M_clause_38 : decode c_M_clause 38 = .ok (.invokevirtual 102, 3) := by decide +kernel
theorem d_M_clause_41 : decode c_M_clause 41 = .ok (.ireturn, 1) := by decide +kernel
theorem d_M_clause_42 : decode c_M_clause 42 = .ok (.aload_n 0, 1) := by decide +kernel
theorem d_M_clause_43 : decode c_M_clause 43 = .ok (.getfield 146, 3) := by decide +kernel
theorem d_M_clause_46 : decode c_M_clause 46 = .ok (.bipush 6, 2) := by decide +kernel
theorem d_M_clause_48 : decode c_M_clause 48 = .ok (.if_icmp .ne 9, 3) := by decide +kernel
theorem d_M_clause_51 : decode c_M_clause 51 = .ok (.aload_n 0, 1) := by decide +kernel
theorem d_M_clause_52 : decode c_M_clause 52 = .ok (.iconst 2, 1) := by decide +kernel
theorem d_M_clause_53 : decode c_M_clause 53 = .ok (.invokevirtual 102, 3) := by decide +kernel
theorem d_M_clause_56 : decode c_M_clause 56 = .ok (.ireturn, 1) := by decide +kernel
theorem d_M_clause_57 : decode c_M_clause 57 = .ok (.aload_n 0, 1) := by decide +kernel
theorem d_M_clause_58 : decode c_M_clause 58 = .ok (.iconst 0, 1) := by decide +kernel
theorem d_M_clause_59 : decode c_M_clause 59 = .ok (.putfield 94, 3) := by decide +kernel
theorem d_M_clause_62 : decode c_M_clause 62 = .ok (.aload_n 0, 1) := by decide +kernel
theorem d_M_clause_63 : decode c_M_clause 63 = .ok (.getfield 62, 3) := by decide +kernel
theorem d_M_clause_66 : decode c_M_clause 66 = .ok (.aload_n 0, 1) := by decide +kernel
theorem d_M_clause_67 : decode c_M_clause 67 = .ok (.getfield 146, 3) := by decide +kernel
theorem d_M_clause_70 : decode c_M_clause 70 = .ok (.iload_n 1, 1) := by decide +kernel
theorem d_M_clause_71 : decode c_M_clause 71 = .ok (.iastore, 1) := by decide +kernel
theorem d_M_clause_72 : decode c_M_clause 72 = .ok (.aload_n 0, 1) := by decide +kernel
theorem d_M_clause_73 : decode c_M_clause 73 = .ok (.getfield 65, 3) := by decide +kernel
theorem d_M_clause_76 : decode c_M_clause 76 = .ok (.aload_n 0, 1) := by decide +kernel
theorem d_M_clause_77 : decode c_M_clause 77 = .ok (.getfield 146, 3) := by decide +kernel
theorem d_M_clause_80 : decode c_M_clause 80 = .ok (.iload_n 2, 1) := by decide +kernel
theorem d_M_clause_81 : decode c_M_clause 81 = .ok (.iastore, 1) := by decide +kernel
theorem d_M_clause_82 : decode c_M_clause 82 = .ok (.aload_n 0, 1) := by decide +kernel
theorem d_M_clause_83 : decode c_M_clause 83 = .ok (.getfield 68, 3) := by decide +kernel
theorem d_M_clause_86 : decode c_M_clause 86 = .ok (.aload_n 0, 1) := by decide +kernel
theorem d_M_clause_87 : decode c_M_clause 87 = .ok (.getfield 146, 3) := by decide +kernel
theorem d_M_clause_90 : decode c_M_clause 90 = .ok (.iload_n 3, 1) := by decide +kernel
theorem d_M_clause_91 : decode c_M_clause 91 = .ok (.iastore, 1) := by decide +kernel
theorem d_M_clause_92 : decode c_M_clause 92 = .ok (.aload_n 0, 1) := by decide +kernel
theorem d_M_clause_93 : decode c_M_clause 93 = .ok (.getfield 77, 3) := by decide +kernel
theorem d_M_clause_96 : decode c_M_clause 96 = .ok (.aload_n 0, 1) := by decide +kernel
theorem d_M_clause_97 : decode c_M_clause 97 = .ok (.getfield 146, 3) := by decide +kernel
theorem d_M_clause_100 : decode c_M_clause 100 = .ok (.dload 4, 2) := by decide +kernel
theorem d_M_clause_102 : decode c_M_clause 102 = .ok (.dastore, 1) := by decide +kernel
theorem d_M_clause_103 : decode c_M_clause 103 = .ok (.aload_n 0, 1) := by decide +kernel
theorem d_M_clause_104 : decode c_M_clause 104 = .ok (.dup, 1) := by decide +kernel
theorem d_M_clause_105 : decode c_M_clause 105 = .ok (.getfield 146, 3) := by decide +kernel
theorem d_M_clause_108 : decode c_M_clause 108 = .ok (.iconst 1, 1) := by decide +kernel
theorem d_M_clause_109 : decode c_M_clause 109 = .ok (.iadd, 1) := by decide +kernel
theorem d_M_clause_110 : decode c_M_clause 110 = .ok (.putfield 146, 3) := by decide +kernel
theorem d_M_clause_113 : decode c_M_clause 113 = .ok (.aload_n 0, 1) := by decide +kernel
theorem d_M_clause_114 : decode c_M_clause 114 = .ok (.getfield 146, 3) := by decide +kernel
theorem d_M_clause_117 : decode c_M_clause 117 = .ok (.ireturn, 1) := by decide +kernel
theorem d_M_search_0 : decode c_M_search 0 = .ok (.iload_n 1, 1) := by decide +kernel
theorem d_M_search_1 : decode c_M_search 1 = .ok (.iconst 0, 1) := by decide +kernel
theorem d_M_search_2 : decode c_M_search 2 = .ok (.bipush 7, 2) := by decide +kernel
theorem d_M_search_4 : decode c_M_search 4 = .ok (.invokestatic 98, 3) := by decide +kernel
theorem d_M_search_7 : decode c_M_search 7 = .ok (.ifCond .eq 13, 3) := by decide +kernel
theorem d_M_search_10 : decode c_M_search 10 = .ok (.iload_n 2, 1) := by decide +kernel
theorem d_M_search_11 : decode c_M_search 11 = .ok (.iconst 1, 1) := by decide +kernel
theorem d_M_search_12 : decode c_M_search 12 = .ok (.bipush 8, 2) := by decide +kernel
theorem d_M_search_14 : decode c_M_search 14 = .ok (.invokestatic 98, 3) := by decide +kernel
theorem d_M_search_17 : decode c_M_search 17 = .ok (.ifCond .ne 9, 3) := by decide +kernel
theorem d_M_search_20 : decode c_M_search 20 = .ok (.aload_n 0, 1) := by decide +kernel
theorem d_M_search_21 : decode c_M_search 21 = .ok (.iconst 1, 1) := by decide +kernel
theorem d_M_search_22 : decode c_M_search 22 = .ok (.invokevirtual 102, 3) := by decide +kernel
theorem d_M_search_25 : decode c_M_search 25 = .ok (.ireturn, 1) := by decide +kernel
theorem d_M_search_26 : decode c_M_search 26 = .ok (.aload_n 0, 1) := by decide +kernel
theorem d_M_search_27 : decode c_M_search 27 = .ok (.iconst 0, 1) := by decide +kernel
theorem d_M_search_28 : decode c_M_search 28 = .ok (.putfield 94, 3) := by decide +kernel
theorem d_M_search_31 : decode c_M_search 31 = .ok (.aload_n 0, 1) := by decide +kernel
theorem d_M_search_32 : decode c_M_search 32 = .ok (.iconst 0, 1) := by decide +kernel
theorem d_M_search_33 : decode c_M_search 33 = .ok (.putfield 157, 3) := by decide +kernel
theorem d_M_search_36 : decode c_M_search 36 = .ok (.aload_n 0, 1) := by decide +kernel
theorem d_M_search_37 : decode c_M_search 37 = .ok (.iconst 0, 1) := by decide +kernel
theorem d_M_search_38 : decode c_M_search 38 = .ok (.putfield 169, 3) := by decide +kernel
theorem d_M_search_41 : decode c_M_search 41 = .ok (.aload_n 0, 1) := by decide +kernel
theorem d_M_search_42 : decode c_M_search 42 = .ok (.iconst 0, 1) := by decide +kernel
theorem d_M_search_43 : decode c_M_search 43 = .ok (.putfield 178, 3) := by decide +kernel
theorem d_M_search_46 : decode c_M_search 46 = .ok (.aload_n 0, 1) := by decide +kernel
theorem d_M_search_47 : decode c_M_search 47 = .ok (.invokevirtual 189, 3) := by decide +kernel
theorem d_M_search_50 : decode c_M_search 50 = .ok (.iconst 0, 1) := by decide +kernel
theorem d_M_search_51 : decode c_M_search 51 = .ok (.istore_n 3, 1) := by decide +kernel
theorem d_M_search_52 : decode c_M_search 52 = .ok (.iload_n 3, 1) := by decide +kernel
theorem d_M_search_53 : decode c_M_search 53 = .ok (.aload_n 0, 1) := by decide +kernel
theorem d_M_search_54 : decode c_M_search 54 = .ok (.getfield 128, 3) := by decide +kernel
theorem d_M_search_57 : decode c_M_search 57 = .ok (.if_icmp .ge 116, 3) := by decide +kernel
theorem d_M_search_60 : decode c_M_search 60 = .ok (.aload_n 0, 1) := by decide +kernel
theorem d_M_search_61 : decode c_M_search 61 = .ok (.getfield 59, 3) := by decide +kernel
theorem d_M_search_64 : decode c_M_search 64 = .ok (.iload_n 3, 1) := by decide +kernel
theorem d_M_search_65 : decode c_M_search 65 = .ok (.iaload, 1) := by decide +kernel
theorem d_M_search_66 : decode c_M_search 66 = .ok (.istore 4, 2) := by decide +kernel
theorem d_M_search_68 : decode c_M_search 68 = .ok (.iconst 0, 1) := by decide +kernel
theorem d_M_search_69 : decode c_M_search 69 = .ok (.istore 5, 2) := by decide +kernel
theorem d_M_search_71 : decode c_M_search 71 = .ok (.aload_n 0, 1) := by decide +kernel
theorem d_M_search_72 : decode c_M_search 72 = .ok (.iload 4, 2) := by decide +kernel
theorem d_M_search_74 : decode c_M_search 74 = .ok (.iload_n 1, 1) := by decide +kernel
theorem d_M_search_75 : decode c_M_search 75 = .ok (.invokevirtual 192, 3) := by decide +kernel
theorem d_M_search_78 : decode c_M_search 78 = .ok (.aload_n 0, 1) := by decide +kernel
theorem d_M_search_79 : decode c_M_search 79 = .ok (.iload 5, 2) := by decide +kernel
theorem d_M_search_81 : decode c_M_search 81 = .ok (.iload 4, 2) := by decide +kernel
theorem d_M_search_83 : decode c_M_search 83 = .ok (.invokevirtual 196, 3) := by decide +kernel
theorem d_M_search_86 : decode c_M_search 86 = .ok (.istore 6, 2) := by decide +kernel
theorem d_M_search_88 : decode c_M_search 88 = .ok (.iload 6, 2) := by decide +kernel
theorem d_M_search_90 : decode c_M_search 90 = .ok (.ifCond .eq 77, 3) := by decide +kernel
theorem d_M_search_93 : decode c_M_search 93 = .ok (.aload_n 0, 1) := by decide +kernel
theorem d_M_search_94 : decode c_M_search 94 = .ok (.iload 5, 2) := by decide +kernel
theorem d_M_search_96 : decode c_M_search 96 = .ok (.iload 4, 2) := by decide +kernel
theorem d_M_search_98 : decode c_M_search 98 = .ok (.invokevirtual 199, 3) := by decide +kernel
theorem d_M_search_101 : decode c_M_search 101 = .ok (.istore 7, 2) := by decide +kernel
theorem d_M_search_103 : decode c_M_search 103 = .ok (.aload_n 0, 1) := by decide +kernel
theorem d_M_search_104 : decode c_M_search 104 = .ok (.iload_n 1, 1) := by decide +kernel
theorem d_M_search_105 : decode c_M_search 105 = .ok (.iload 5, 2) := by decide +kernel
theorem d_M_search_107 : decode c_M_search 107 = .ok (.iload 7, 2) := by decide +kernel
theorem d_M_search_109 : decode c_M_search 109 = .ok (.iload 4, 2) := by decide +kernel
theorem d_M_search_111 : decode c_M_search 111 = .ok (.invokevirtual 181, 3) := by decide +kernel
theorem d_M_search_114 : decode c_M_search 114 = .ok (.fstore 8, 2) := by decide +kernel
theorem d_M_search_116 : decode c_M_search 116 = .ok (.aload_n 0, 1) := by decide +kernel
theorem d_M_search_117 : decode c_M_search 117 = .ok (.getfield 157, 3) := by decide +kernel
theorem d_M_search_120 : decode c_M_search 120 = .ok (.iload_n 2, 1) := by decide +kernel
theorem d_M_search_121 : decode c_M_search 121 = .ok (.if_icmp .lt 17, 3) := by decide +kernel
theorem d_M_search_124 : decode c_M_search 124 = .ok (.fload 8, 2) := by decide +kernel
theorem d_M_search_126 : decode c_M_search 126 = .ok (.aload_n 0, 1) := by decide +kernel
theorem d_M_search_127 : decode c_M_search 127 = .ok (.getfield 81, 3) := by decide +kernel
theorem d_M_search_130 : decode c_M_search 130 = .ok (.iload_n 2, 1) := by decide +kernel
theorem d_M_search_131 : decode c_M_search 131 = .ok (.iconst 1, 1) := by decide +kernel
theorem d_M_search_132 : decode c_M_search 132 = .ok (.isub, 1) := by decide +kernel
theorem d_M_search_133 : decode c_M_search 133 = .ok (.faload, 1) := by decide +kernel
theorem d_M_search_134 : decode c_M_search 134 = .ok (.fcmp .l, 1) := by decide +kernel
theorem d_M_search_135 : decode c_M_search 135 = .ok (.ifCond .le 15, 3) := by decide +kernel
theorem d_M_search_138 : decode c_M_search 138 = .ok (.aload_n 0, 1) := by decide +kernel
theorem d_M_search_139 : decode c_M_search 139 = .ok (.iload_n 1, 1) := by decide +kernel
theorem d_M_search_140 : decode c_M_search 140 = .ok (.iload_n 2, 1) := by decide +kernel
theorem d_M_search_141 : decode c_M_search 141 = .ok (.iload 5, 2) := by decide +kernel
theorem d_M_search_143 : decode c_M_search 143 = .ok (.iload 7, 2) := by decide +kernel
theorem d_M_search_145 : decode c_M_search 145 = .ok (.iload 4, 2) := by decide +kernel
theorem d_M_search_147 : decode c_M_search 147 = .ok (.invokevirtual 203, 3) := by decide +kernel
theorem d_M_search_150 : decode c_M_search 150 = .ok (.iload 7, 2) := by decide +kernel
theorem d_M_search_152 : decode c_M_search 152 = .ok (.istore 5, 2) := by decide +kernel
theorem d_M_search_154 : decode c_M_search 154 = .ok (.aload_n 0, 1) := by decide +kernel
theorem d_M_search_155 : decode c_M_search 155 = .ok (.iload 5, 2) := by decide +kernel
theorem d_M_search_157 : decode c_M_search 157 = .ok (.iload 4, 2) := by decide +kernel
theorem d_M_search_159 : decode c_M_search 159 = .ok (.invokevirtual 196, 3) := by decide +kernel
theorem d_M_search_162 : decode c_M_search 162 = .ok (.istore 6, 2) := by decide +kernel
theorem d_M_search_164 : decode c_M_search 164 = .ok (.goto (-76), 3) := by decide +kernel
theorem d_M_search_167 : decode c_M_search 167 = .ok (.iinc 3 1, 3) := by decide +kernel
theorem d_M_search_170 : decode c_M_search 170 = .ok (.goto (-118), 3) := by decide +kernel
theorem d_M_search_173 : decode c_M_search 173 = .ok (.aload_n 0, 1) := by decide +kernel
theorem d_M_search_174 : decode c_M_search 174 = .ok (.getfield 157, 3) := by decide +kernel
theorem d_M_search_177 : decode c_M_search 177 = .ok (.ireturn, 1) := by decide +kernel
theorem d_M_arrange_0 : decode c_M_arrange 0 = .ok (.iconst 0, 1) := by decide +kernel
theorem d_M_arrange_1 : decode c_M_arrange 1 = .ok (.istore_n 1, 1) := by decide +kernel
theorem d_M_arrange_2 : decode c_M_arrange 2 = .ok (.iload_n 1, 1) := by decide +kernel
theorem d_M_arrange_3 : decode c_M_arrange 3 = .ok (.aload_n 0, 1) := by decide +kernel
theorem d_M_arrange_4 : decode c_M_arrange 4 = .ok (.getfield 146, 3) := by decide +kernel
theorem d_M_arrange_7 : decode c_M_arrange 7 = .ok (.if_icmp .ge 108, 3) := by decide +kernel
theorem d_M_arrange_10 : decode c_M_arrange 10 = .ok (.iload_n 1, 1) := by decide +kernel
theorem d_M_arrange_11 : decode c_M_arrange 11 = .ok (.istore_n 2, 1) := by decide +kernel
theorem d_M_arrange_12 : decode c_M_arrange 12 = .ok (.iload_n 2, 1) := by decide +kernel
theorem d_M_arrange_13 : decode c_M_arrange 13 = .ok (.ifCond .le 89, 3) := by decide +kernel
theorem d_M_arrange_16 : decode c_M_arrange 16 = .ok (.aload_n 0, 1) := by decide +kernel
theorem d_M_arrange_17 : decode c_M_arrange 17 = .ok (.getfield 65, 3) := by decide +kernel
theorem d_M_arrange_20 : decode c_M_arrange 20 = .ok (.aload_n 0, 1) := by decide +kernel
theorem d_M_arrange_21 : decode c_M_arrange 21 = .ok (.getfield 71, 3) := by decide +kernel
theorem d_M_arrange_24 : decode c_M_arrange 24 = .ok (.iload_n 2, 1) := by decide +kernel
theorem d_M_arrange_25 : decode c_M_arrange 25 = .ok (.iconst 1, 1) := by decide +kernel
theorem d_M_arrange_26 : decode c_M_arrange 26 = .ok (.isub, 1) := by decide +kernel
theorem d_M_arrange_27 : decode c_M_arrange 27 = .ok (.iaload, 1) := by decide +kernel
theorem d_M_arrange_28 : decode c_M_arrange 28 = .ok (.iaload, 1) := by decide +kernel
theorem d_M_arrange_29 : decode c_M_arrange 29 = .ok (.aload_n 0, 1) := by decide +kernel
theorem d_M_arrange_30 : decode c_M_arrange 30 = .ok (.getfield 65, 3) := by decide +kernel
theorem d_M_arrange_33 : decode c_M_arrange 33 = .ok (.iload_n 1, 1) := by decide +kernel
theorem d_M_arrange_34 : decode c_M_arrange 34 = .ok (.iaload, 1) := by decide +kernel
theorem d_M_arrange_35 : decode c_M_arrange 35 = .ok (.if_icmp .gt 47, 3) := by decide +kernel
theorem d_M_arrange_38 : decode c_M_arrange 38 = .ok (.aload_n 0, 1) := by decide +kernel
theorem d_M_arrange_39 : decode c_M_arrange 39 = .ok (.getfield 65, 3) := by decide +kernel
theorem d_M_arrange_42 : decode c_M_arrange 42 = .ok (.aload_n 0, 1) := by decide +kernel
theorem d_M_arrange_43 : decode c_M_arrange 43 = .ok (.getfield 71, 3) := by decide +kernel
theorem d_M_arrange_46 : decode c_M_arrange 46 = .ok (.iload_n 2, 1) := by decide +kernel
theorem d_M_arrange_47 : decode c_M_arrange 47 = .ok (.iconst 1, 1) := by decide +kernel
theorem d_M_arrange_48 : decode c_M_arrange 48 = .ok (.isub, 1) := by decide +kernel
theorem d_M_arrange_49 : decode c_M_arrange 49 = .ok (.iaload, 1) := by decide +kernel
theorem d_M_arrange_50 : decode c_M_arrange 50 = .ok (.iaload, 1) := by decide +kernel
theorem d_M_arrange_51 : decode c_M_arrange 51 = .ok (.aload_n 0, 1) := by decide +kernel
theorem d_M_arrange_52 : decode c_M_arrange 52 = .ok (.getfield 65, 3) := by decide +kernel
theorem d_M_arrange_55 : decode c_M_arrange 55 = .ok (.iload_n 1, 1) := by decide +kernel
theorem d_M_arrange_56 : decode c_M_arrange 56 = .ok (.iaload, 1) := by decide +kernel
theorem d_M_arrange_57 : decode c_M_arrange 57 = .ok (.if_icmp .ne 45, 3) := by decide +kernel
theorem d_M_arrange_60 : decode c_M_arrange 60 = .ok (.aload_n 0, 1) := by decide +kernel
theorem d_M_arrange_61 : decode c_M_arrange 61 = .ok (.getfield 68, 3) := by decide +kernel
theorem d_M_arrange_64 : decode c_M_arrange 64 = .ok (.aload_n 0, 1) := by decide +kernel
theorem d_M_arrange_65 : decode c_M_arrange 65 = .ok (.getfield 71, 3) := by decide +kernel
theorem d_M_arrange_68 : decode c_M_arrange 68 = .ok (.iload_n 2, 1) := by decide +kernel
theorem d_M_arrange_69 : decode c_M_arrange 69 = .ok (.iconst 1, 1) := by decide +kernel
theorem d_M_arrange_70 : decode c_M_arrange 70 = .ok (.isub, 1) := by decide +kernel
theorem d_M_arrange_71 : decode c_M_arrange 71 = .ok (.iaload, 1) := by decide +kernel
theorem d_M_arrange_72 : decode c_M_arrange 72 = .ok (.iaload, 1) := by decide +kernel
theorem d_M_arrange_73 : decode c_M_arrange 73 = .ok (.aload_n 0, 1) := by decide +kernel
theorem d_M_arrange_74 : decode c_M_arrange 74 = .ok (.getfield 68, 3) := by decide +kernel
theorem d_M_arrange_77 : decode c_M_arrange 77 = .ok (.iload_n 1, 1) := by decide +kernel
theorem d_M_arrange_78 : decode c_M_arrange 78 = .ok (.iaload, 1) := by decide +kernel
theorem d_M_arrange_79 : decode c_M_arrange 79 = .ok (.if_icmp .le 23, 3) := by decide +kernel
theorem d_M_arrange_82 : decode c_M_arrange 82 = .ok (.aload_n 0, 1) := by decide +kernel
theorem d_M_arrange_83 : decode c_M_arrange 83 = .ok (.getfield 71, 3) := by decide +kernel
theorem d_M_arrange_86 : decode c_M_arrange 86 = .ok (.iload_n 2, 1) := by decide +kernel
theorem d_M_arrange_87 : decode c_M_arrange 87 = .ok (.aload_n 0, 1) := by decide +kernel
theorem d_M_arrange_88 : decode c_M_arrange 88 = .ok (.getfield 71, 3) := by decide +kernel
theorem d_M_arrange_91 : decode c_M_arrange 91 = .ok (.iload_n 2, 1) := by decide +kernel
theorem d_M_arrange_92 : decode c_M_arrange 92 = .ok (.iconst 1, 1) := by decide +kernel
theorem d_M_arrange_93 : decode c_M_arrange 93 = .ok (.isub, 1) := by decide +kernel
theorem d_M_arrange_94 : decode c_M_arrange 94 = .ok (.iaload, 1) := by decide +kernel
theorem d_M_arrange_95 : decode c_M_arrange 95 = .ok (.iastore, 1) := by decide +kernel
theorem d_M_arrange_96 : decode c_M_arrange 96 = .ok (.iinc 2 (-1), 3) := by decide +kernel
theorem d_M_arrange_99 : decode c_M_arrange 99 = .ok (.goto (-87), 3) := by decide +kernel
theorem d_M_arrange_102 : decode c_M_arrange 102 = .ok (.aload_n 0, 1) := by decide +kernel
theorem d_M_arrange_103 : decode c_M_arrange 103 = .ok (.getfield 71, 3) := by decide +kernel
theorem d_M_arrange_106 : decode c_M_arrange 106 = .ok (.iload_n 2, 1) := by decide +kernel
theorem d_M_arrange_107 : decode c_M_arrange 107 = .ok (.iload_n 1, 1) := by decide +kernel
theorem d_M_arrange_108 : decode c_M_arrange 108 = .ok (.iastore, 1) := by decide +kernel
theorem d_M_arrange_109 : decode c_M_arrange 109 = .ok (.iinc 1 1, 3) := by decide +kernel
theorem d_M_arrange_112 : decode c_M_arrange 112 = .ok (.goto (-110), 3) := by decide +kernel
theorem d_M_arrange_115 : decode c_M_arrange 115 = .ok (.return_, 1) := by decide +kernel
theorem d_M_useFilter_0 : decode c_M_useFilter 0 = .ok (.aload_n 0, 1) := by decide +kernel
theorem d_M_useFilter_1 : decode c_M_useFilter 1 = .ok (.dup, 1) := by decide +kernel
theorem d_M_useFilter_2 : decode c_M_useFilter 2 = .ok (.getfield 160, 3) := by decide +kernel
theorem d_M_useFilter_5 : decode c_M_useFilter 5 = .ok (.iconst 1, 1) := by decide +kernel
theorem d_M_useFilter_6 : decode c_M_useFilter 6 = .ok (.iadd, 1) := by decide +kernel
theorem d_M_useFilter_7 : decode c_M_useFilter 7 = .ok (.putfield 160, 3) := by decide +kernel
theorem d_M_useFilter_10 : decode c_M_useFilter 10 = .ok (.iconst 0, 1) := by decide +kernel
theorem d_M_useFilter_11 : decode c_M_useFilter 11 = .ok (.istore_n 3, 1) := by decide +kernel
theorem d_M_useFilter_12 : decode c_M_useFilter 12 = .ok (.iconst 0, 1) := by decide +kernel
theorem d_M_useFilter_13 : decode c_M_useFilter 13 = .ok (.istore 4, 2) := by decide +kernel
theorem d_M_useFilter_15 : decode c_M_useFilter 15 = .ok (.iload 4, 2) := by decide +kernel
theorem d_M_useFilter_17 : decode c_M_useFilter 17 = .ok (.aload_n 0, 1) := by decide +kernel
theorem d_M_useFilter_18 : decode c_M_useFilter 18 = .ok (.getfield 131, 3) := by decide +kernel
theorem d_M_useFilter_21 : decode c_M_useFilter 21 = .ok (.if_icmp .ge 72, 3) := by decide +kernel
theorem d_M_useFilter_24 : decode c_M_useFilter 24 = .ok (.aload_n 0, 1) := by decide +kernel
theorem d_M_useFilter_25 : decode c_M_useFilter 25 = .ok (.getfield 85, 3) := by decide +kernel
theorem d_M_useFilter_28 : decode c_M_useFilter 28 = .ok (.iload 4, 2) := by decide +kernel
theorem d_M_useFilter_30 : decode c_M_useFilter 30 = .ok (.iaload, 1) := by decide +kernel
theorem d_M_useFilter_31 : decode c_M_useFilter 31 = .ok (.iload_n 1, 1) := by decide +kernel
theorem d_M_useFilter_32 : decode c_M_useFilter 32 = .ok (.if_icmp .ne 36, 3) := by decide +kernel
theorem d_M_useFilter_35 : decode c_M_useFilter 35 = .ok (.aload_n 0, 1) := by decide +kernel
theorem d_M_useFilter_36 : decode c_M_useFilter 36 = .ok (.getfield 88, 3) := by decide +kernel
theorem d_M_useFilter_39 : decode c_M_useFilter 39 = .ok (.iload 4, 2) := by decide +kernel
theorem d_M_useFilter_41 : decode c_M_useFilter 41 = .ok (.iaload, 1) := by decide +kernel
theorem d_M_useFilter_42 : decode c_M_useFilter 42 = .ok (.iload_n 2, 1) := by decide +kernel
theorem d_M_useFilter_43 : decode c_M_useFilter 43 = .ok (.if_icmp .ne 25, 3) := by decide +kernel
theorem d_M_useFilter_46 : decode c_M_useFilter 46 = .ok (.aload_n 0, 1) := by decide +kernel
theorem d_M_useFilter_47 : decode c_M_useFilter 47 = .ok (.getfield 91, 3) := by decide +kernel
theorem d_M_useFilter_50 : decode c_M_useFilter 50 = .ok (.iload 4, 2) := by decide +kernel
theorem d_M_useFilter_52 : decode c_M_useFilter 52 = .ok (.aload_n 0, 1) := by decide +kernel
theorem d_M_useFilter_53 : decode c_M_useFilter 53 = .ok (.getfield 160, 3) := by decide +kernel
theorem d_M_useFilter_56 : decode c_M_useFilter 56 = .ok (.iastore, 1) := by decide +kernel
theorem d_M_useFilter_57 : decode c_M_useFilter 57 = .ok (.aload_n 0, 1) := by decide +kernel
theorem d_M_useFilter_58 : decode c_M_useFilter 58 = .ok (.dup, 1) := by decide +kernel
theorem d_M_useFilter_59 : decode c_M_useFilter 59 = .ok (.getfield 163, 3) := by decide +kernel
theorem d_M_useFilter_62 : decode c_M_useFilter 62 = .ok (.iconst 1, 1) := by decide +kernel
theorem d_M_useFilter_63 : decode c_M_useFilter 63 = .ok (.iadd, 1) := by decide +kernel
theorem d_M_useFilter_64 : decode c_M_useFilter 64 = .ok (.putfield 163, 3) := by decide +kernel
theorem d_M_useFilter_67 : decode c_M_useFilter 67 = .ok (.return_, 1) := by decide +kernel
theorem d_M_useFilter_68 : decode c_M_useFilter 68 = .ok (.aload_n 0, 1) := by decide +kernel
theorem d_M_useFilter_69 : decode c_M_useFilter 69 = .ok (.getfield 91, 3) := by decide +kernel
theorem d_M_useFilter_72 : decode c_M_useFilter 72 = .ok (.iload 4, 2) := by decide +kernel
theorem d_M_useFilter_74 : decode c_M_useFilter 74 = .ok (.iaload, 1) := by decide +kernel
theorem d_M_useFilter_75 : decode c_M_useFilter 75 = .ok (.aload_n 0, 1) := by decide +kernel
theorem d_M_useFilter_76 : decode c_M_useFilter 76 = .ok (.getfield 91, 3) := by decide +kernel
theorem d_M_useFilter_79 : decode c_M_useFilter 79 = .ok (.iload_n 3, 1) := by decide +kernel
theorem d_M_useFilter_80 : decode c_M_useFilter 80 = .ok (.iaload, 1) := by decide +kernel
theorem d_M_useFilter_81 : decode c_M_useFilter 81 = .ok (.if_icmp .ge 6, 3) := by decide +kernel
theorem d_M_useFilter_84 : decode c_M_useFilter 84 = .ok (.iload 4, 2) := by decide +kernel
theorem d_M_useFilter_86 : decode c_M_useFilter 86 = .ok (.istore_n 3, 1) := by decide +kernel
theorem d_M_useFilter_87 : decode c_M_useFilter 87 = .ok (.iinc 4 1, 3) := by decide +kernel
theorem d_M_useFilter_90 : decode c_M_useFilter 90 = .ok (.goto (-75), 3) := by decide +kernel
theorem d_M_useFilter_93 : decode c_M_useFilter 93 = .ok (.aload_n 0, 1) := by decide +kernel
theorem d_M_useFilter_94 : decode c_M_useFilter 94 = .ok (.getfield 131, 3) := by decide +kernel
theorem d_M_useFilter_97 : decode c_M_useFilter 97 = .ok (.iconst 5, 1) := by decide +kernel
theorem d_M_useFilter_98 : decode c_M_useFilter 98 = .ok (.if_icmp .ne 8, 3) := by decide +kernel
theorem d_M_useFilter_101 : decode c_M_useFilter 101 = .ok (.aload_n 0, 1) := by decide +kernel
theorem d_M_useFilter_102 : decode c_M_useFilter 102 = .ok (.iload_n 3, 1) := by decide +kernel
theorem d_M_useFilter_103 : decode c_M_useFilter 103 = .ok (.invokevirtual 142, 3) := by decide +kernel
theorem d_M_useFilter_106 : decode c_M_useFilter 106 = .ok (.aload_n 0, 1) := by decide +kernel
theorem d_M_useFilter_107 : decode c_M_useFilter 107 = .ok (.getfield 85, 3) := by decide +kernel
theorem d_M_useFilter_110 : decode c_M_useFilter 110 = .ok (.aload_n 0, 1) := by decide +kernel
theorem d_M_useFilter_111 : decode c_M_useFilter 111 = .ok (.getfield 131, 3) := by decide +kernel
theorem d_M_useFilter_114 : decode c_M_useFilter 114 = .ok (.iload_n 1, 1) := by decide +kernel
theorem d_M_useFilter_115 : decode c_M_useFilter 115 = .ok (.iastore, 1) := by decide +kernel
theorem d_M_useFilter_116 : decode c_M_useFilter 116 = .ok (.aload_n 0, 1) := by decide +kernel
theorem d_M_useFilter_117 : decode c_M_useFilter 117 = .ok (.getfield 88, 3) := by decide +kernel
theorem d_M_useFilter_120 : decode c_M_useFilter 120 = .ok (.aload_n 0, 1) := by decide +kernel
theorem d_M_useFilter_121 : decode c_M_useFilter 121 = .ok (.getfield 131, 3) := by decide +kernel
theorem d_M_useFilter_124 : decode c_M_useFilter 124 = .ok (.iload_n 2, 1) := by decide +kernel
theorem d_M_useFilter_125 : decode c_M_useFilter 125 = .ok (.iastore, 1) := by decide +kernel
theorem d_M_useFilter_126 : decode c_M_useFilter 126 = .ok (.aload_n 0, 1) := by decide +kernel
theorem d_M_useFilter_127 : decode c_M_useFilter 127 = .ok (.getfield 91, 3) := by decide +kernel
theorem d_M_useFilter_130 : decode c_M_useFilter 130 = .ok (.aload_n 0, 1) := by decide +kernel
theorem d_M_useFilter_131 : decode c_M_useFilter 131 = .ok (.getfield 131, 3) := by decide +kernel
theorem d_M_useFilter_134 : decode c_M_useFilter 134 = .ok (.aload_n 0, 1) := by decide +kernel
theorem d_M_useFilter_135 : decode c_M_useFilter 135 = .ok (.getfield 160, 3) := by decide +kernel
theorem d_M_useFilter_138 : decode c_M_useFilter 138 = .ok (.iastore, 1) := by decide +kernel
theorem d_M_useFilter_139 : decode c_M_useFilter 139 = .ok (.aload_n 0, 1) := by decide +kernel
theorem d_M_useFilter_140 : decode c_M_useFilter 140 = .ok (.dup, 1) := by decide +kernel
theorem d_M_useFilter_141 : decode c_M_useFilter 141 = .ok (.getfield 131, 3) := by decide +kernel
theorem d_M_useFilter_144 : decode c_M_useFilter 144 = .ok (.iconst 1, 1) := by decide +kernel
theorem d_M_useFilter_145 : decode c_M_useFilter 145 = .ok (.iadd, 1) := by decide +kernel
theorem d_M_useFilter_146 : decode c_M_useFilter 146 = .ok (.putfield 131, 3) := by decide +kernel
theorem d_M_useFilter_149 : decode c_M_useFilter 149 = .ok (.aload_n 0, 1) := by decide +kernel
theorem d_M_useFilter_150 : decode c_M_useFilter 150 = .ok (.dup, 1) := by decide +kernel
theorem d_M_useFilter_151 : decode c_M_useFilter 151 = .ok (.getfield 166, 3) := by decide +kernel
theorem d_M_useFilter_154 : decode c_M_useFilter 154 = .ok (.iconst 1, 1) := by decide +kernel
theorem d_M_useFilter_155 : decode c_M_useFilter 155 = .ok (.iadd, 1) := by decide +kernel
theorem d_M_useFilter_156 : decode c_M_useFilter 156 = .ok (.putfield 166, 3) := by decide +kernel
theorem d_M_useFilter_159 : decode c_M_useFilter 159 = .ok (.return_, 1) := by decide +kernel
theorem d_M_scoreOf_0 : decode c_M_scoreOf 0 = .ok (.fconst 0, 1) := by decide +kernel
theorem d_M_scoreOf_1 : decode c_M_scoreOf 1 = .ok (.fstore 5, 2) := by decide +kernel
theorem d_M_scoreOf_3 : decode c_M_scoreOf 3 = .ok (.iconst 0, 1) := by decide +kernel
theorem d_M_scoreOf_4 : decode c_M_scoreOf 4 = .ok (.istore 6, 2) := by decide +kernel
theorem d_M_scoreOf_6 : decode c_M_scoreOf 6 = .ok (.iload 6, 2) := by decide +kernel
theorem d_M_scoreOf_8 : decode c_M_scoreOf 8 = .ok (.aload_n 0, 1) := by decide +kernel
theorem d_M_scoreOf_9 : decode c_M_scoreOf 9 = .ok (.getfield 146, 3) := by decide +kernel
theorem d_M_scoreOf_12 : decode c_M_scoreOf 12 = .ok (.if_icmp .ge 147, 3) := by decide +kernel
theorem d_M_scoreOf_15 : decode c_M_scoreOf 15 = .ok (.aload_n 0, 1) := by decide +kernel
theorem d_M_scoreOf_16 : decode c_M_scoreOf 16 = .ok (.getfield 71, 3) := by decide +kernel
theorem d_M_scoreOf_19 : decode c_M_scoreOf 19 = .ok (.iload 6, 2) := by decide +kernel
theorem d_M_scoreOf_21 : decode c_M_scoreOf 21 = .ok (.iaload, 1) := by decide +kernel
theorem d_M_scoreOf_22 : decode c_M_scoreOf 22 = .ok (.istore 7, 2) := by decide +kernel
theorem d_M_scoreOf_24 : decode c_M_scoreOf 24 = .ok (.iconst 0, 1) := by decide +kernel
theorem d_M_scoreOf_25 : decode c_M_scoreOf 25 = .ok (.istore 8, 2) := by decide +kernel
theorem d_M_scoreOf_27 : decode c_M_scoreOf 27 = .ok (.aload_n 0, 1) := by decide +kernel
theorem d_M_scoreOf_28 : decode c_M_scoreOf 28 = .ok (.iload_n 1, 1) := by decide +kernel
theorem d_M_scoreOf_29 : decode c_M_scoreOf 29 = .ok (.aload_n 0, 1) := by decide +kernel
theorem d_M_scoreOf_30 : decode c_M_scoreOf 30 = .ok (.getfield 68, 3) := by decide +kernel
theorem d_M_scoreOf_33 : decode c_M_scoreOf 33 = .ok (.iload 7, 2) := by decide +kernel
theorem d_M_scoreOf_35 : decode c_M_scoreOf 35 = .ok (.iaload, 1) := by decide +kernel
theorem d_M_scoreOf_36 : decode c_M_scoreOf 36 = .ok (.invokevirtual 153, 3) := by decide +kernel
theorem d_M_scoreOf_39 : decode c_M_scoreOf 39 = .ok (.istore 9, 2) := by decide +kernel
theorem d_M_scoreOf_41 : decode c_M_scoreOf 41 = .ok (.aload_n 0, 1) := by decide +kernel
theorem d_M_scoreOf_42 : decode c_M_scoreOf 42 = .ok (.getfield 62, 3) := by decide +kernel
theorem d_M_scoreOf_45 : decode c_M_scoreOf 45 = .ok (.iload 7, 2) := by decide +kernel
theorem d_M_scoreOf_47 : decode c_M_scoreOf 47 = .ok (.iaload, 1) := by decide +kernel
theorem d_M_scoreOf_48 : decode c_M_scoreOf 48 = .ok (.ifCond .ne 105, 3) := by decide +kernel
theorem d_M_scoreOf_51 : decode c_M_scoreOf 51 = .ok (.iload 9, 2) := by decide +kernel
theorem d_M_scoreOf_53 : decode c_M_scoreOf 53 = .ok (.ifCond .ne 6, 3) := by decide +kernel
theorem d_M_scoreOf_56 : decode c_M_scoreOf 56 = .ok (.goto 97, 3) := by decide +kernel
theorem d_M_scoreOf_59 : decode c_M_scoreOf 59 = .ok (.iload_n 2, 1) := by decide +kernel
theorem d_M_scoreOf_60 : decode c_M_scoreOf 60 = .ok (.istore 10, 2) := by decide +kernel
theorem d_M_scoreOf_62 : decode c_M_scoreOf 62 = .ok (.iload 10, 2) := by decide +kernel
theorem d_M_scoreOf_64 : decode c_M_scoreOf 64 = .ok (.iload_n 3, 1) := by decide +kernel
theorem d_M_scoreOf_65 : decode c_M_scoreOf 65 = .ok (.if_icmp .ge 63, 3) := by decide +kernel
theorem d_M_scoreOf_68 : decode c_M_scoreOf 68 = .ok (.aload_n 0, 1) := by decide +kernel
theorem d_M_scoreOf_69 : decode c_M_scoreOf 69 = .ok (.getfield 31, 3) := by decide +kernel
theorem d_M_scoreOf_72 : decode c_M_scoreOf 72 = .ok (.bipush 24, 2) := by decide +kernel
theorem d_M_scoreOf_74 : decode c_M_scoreOf 74 = .ok (.iload 10, 2) := by decide +kernel
theorem d_M_scoreOf_76 : decode c_M_scoreOf 76 = .ok (.imul, 1) := by decide +kernel
theorem d_M_scoreOf_77 : decode c_M_scoreOf 77 = .ok (.bipush 8, 2) := by decide +kernel
theorem d_M_scoreOf_79 : decode c_M_scoreOf 79 = .ok (.aload_n 0, 1) := by decide +kernel
theorem d_M_scoreOf_80 : decode c_M_scoreOf 80 = .ok (.getfield 68, 3) := by decide +kernel
theorem d_M_scoreOf_83 : decode c_M_scoreOf 83 = .ok (.iload 7, 2) := by decide +kernel
theorem d_M_scoreOf_85 : decode c_M_scoreOf 85 = .ok (.iaload, 1) := by decide +kernel
theorem d_M_scoreOf_86 : decode c_M_scoreOf 86 = .ok (.imul, 1) := by decide +kernel
theorem d_M_scoreOf_87 : decode c_M_scoreOf 87 = .ok (.iadd, 1) := by decide +kernel
theorem d_M_scoreOf_88 : decode c_M_scoreOf 88 = .ok (.aload_n 0, 1) := by decide +kernel
theorem d_M_scoreOf_89 : decode c_M_scoreOf 89 = .ok (.getfield 65, 3) := by decide +kernel
theorem d_M_scoreOf_92 : decode c_M_scoreOf 92 = .ok (.iload 7, 2) := by decide +kernel
theorem d_M_scoreOf_94 : decode c_M_scoreOf 94 = .ok (.iaload, 1) := by decide +kernel
theorem d_M_scoreOf_95 : decode c_M_scoreOf 95 = .ok (.iadd, 1) := by decide +kernel
theorem d_M_scoreOf_96 : decode c_M_scoreOf 96 = .ok (.iaload, 1) := by decide +kernel
theorem d_M_scoreOf_97 : decode c_M_scoreOf 97 = .ok (.istore 11, 2) := by decide +kernel
theorem d_M_scoreOf_99 : decode c_M_scoreOf 99 = .ok (.aload_n 0, 1) := by decide +kernel
theorem d_M_scoreOf_100 : decode c_M_scoreOf 100 = .ok (.getfield 46, 3) := by decide +kernel
theorem d_M_scoreOf_103 : decode c_M_scoreOf 103 = .ok (.iload 10, 2) := by decide +kernel
theorem d_M_scoreOf_105 : decode c_M_scoreOf 105 = .ok (.iaload, 1) := by decide +kernel
theorem d_M_scoreOf_106 : decode c_M_scoreOf 106 = .ok (.iload 4, 2) := by decide +kernel
theorem d_M_scoreOf_108 : decode c_M_scoreOf 108 = .ok (.if_icmp .ne 14, 3) := by decide +kernel
theorem d_M_scoreOf_111 : decode c_M_scoreOf 111 = .ok (.iload 11, 2) := by decide +kernel
theorem d_M_scoreOf_113 : decode c_M_scoreOf 113 = .ok (.iload 8, 2) := by decide +kernel
theorem d_M_scoreOf_115 : decode c_M_scoreOf 115 = .ok (.if_icmp .le 7, 3) := by decide +kernel
theorem d_M_scoreOf_118 : decode c_M_scoreOf 118 = .ok (.iload 11, 2) := by decide +kernel
theorem d_M_scoreOf_120 : decode c_M_scoreOf 120 = .ok (.istore 8, 2) := by decide +kernel
theorem d_M_scoreOf_122 : decode c_M_scoreOf 122 = .ok (.iinc 10 1, 3) := by decide +kernel
theorem d_M_scoreOf_125 : decode c_M_scoreOf 125 = .ok (.goto (-63), 3) := by decide +kernel
theorem d_M_scoreOf_128 : decode c_M_scoreOf 128 = .ok (.iload 8, 2) := by decide +kernel
theorem d_M_scoreOf_130 : decode c_M_scoreOf 130 = .ok (.ifCond .le 23, 3) := by decide +kernel
theorem d_M_scoreOf_133 : decode c_M_scoreOf 133 = .ok (.fload 5, 2) := by decide +kernel
theorem d_M_scoreOf_135 : decode c_M_scoreOf 135 = .ok (.aload_n 0, 1) := by decide +kernel
theorem d_M_scoreOf_136 : decode c_M_scoreOf 136 = .ok (.getfield 77, 3) := by decide +kernel
theorem d_M_scoreOf_139 : decode c_M_scoreOf 139 = .ok (.iload 7, 2) := by decide +kernel
theorem d_M_scoreOf_141 : decode c_M_scoreOf 141 = .ok (.daload, 1) := by decide +kernel
theorem d_M_scoreOf_142 : decode c_M_scoreOf 142 = .ok (.d2f, 1) := by decide +kernel
theorem d_M_scoreOf_143 : decode c_M_scoreOf 143 = .ok (.iload 8, 2) := by decide +kernel
theorem d_M_scoreOf_145 : decode c_M_scoreOf 145 = .ok (.i2f, 1) := by decide +kernel
theorem d_M_scoreOf_146 : decode c_M_scoreOf 146 = .ok (.ldc 114, 2) := by decide +kernel
theorem d_M_scoreOf_148 : decode c_M_scoreOf 148 = .ok (.fdiv, 1) := by decide +kernel
theorem d_M_scoreOf_149 : decode c_M_scoreOf 149 = .ok (.fmul, 1) := by decide +kernel
theorem d_M_scoreOf_150 : decode c_M_scoreOf 150 = .ok (.fadd, 1) := by decide +kernel
theorem d_M_scoreOf_151 : decode c_M_scoreOf 151 = .ok (.fstore 5, 2) := by decide +kernel
theorem d_M_scoreOf_153 : decode c_M_scoreOf 153 = .ok (.iinc 6 1, 3) := by decide +kernel
theorem d_M_scoreOf_156 : decode c_M_scoreOf 156 = .ok (.goto (-150), 3) := by decide +kernel
theorem d_M_scoreOf_159 : decode c_M_scoreOf 159 = .ok (.fload 5, 2) := by decide +kernel
theorem d_M_scoreOf_161 : decode c_M_scoreOf 161 = .ok (.freturn, 1) := by decide +kernel
theorem d_M_isFound_0 : decode c_M_isFound 0 = .ok (.iconst 0, 1) := by decide +kernel
theorem d_M_isFound_1 : decode c_M_isFound 1 = .ok (.istore_n 3, 1) := by decide +kernel
theorem d_M_isFound_2 : decode c_M_isFound 2 = .ok (.iconst 0, 1) := by decide +kernel
theorem d_M_isFound_3 : decode c_M_isFound 3 = .ok (.istore 4, 2) := by decide +kernel
theorem d_M_isFound_5 : decode c_M_isFound 5 = .ok (.iload 4, 2) := by decide +kernel
theorem d_M_isFound_7 : decode c_M_isFound 7 = .ok (.aload_n 0, 1) := by decide +kernel
theorem d_M_isFound_8 : decode c_M_isFound 8 = .ok (.getfield 146, 3) := by decide +kernel
theorem d_M_isFound_11 : decode c_M_isFound 11 = .ok (.if_icmp .ge 119, 3) := by decide +kernel
theorem d_M_isFound_14 : decode c_M_isFound 14 = .ok (.aload_n 0, 1) := by decide +kernel
theorem d_M_isFound_15 : decode c_M_isFound 15 = .ok (.iload_n 1, 1) := by decide +kernel
theorem d_M_isFound_16 : decode c_M_isFound 16 = .ok (.aload_n 0, 1) := by decide +kernel
theorem d_M_isFound_17 : decode c_M_isFound 17 = .ok (.getfield 68, 3) := by decide +kernel
theorem d_M_isFound_20 : decode c_M_isFound 20 = .ok (.iload 4, 2) := by decide +kernel
theorem d_M_isFound_22 : decode c_M_isFound 22 = .ok (.iaload, 1) := by decide +kernel
theorem d_M_isFound_23 : decode c_M_isFound 23 = .ok (.invokevirtual 153, 3) := by decide +kernel
theorem d_M_isFound_26 : decode c_M_isFound 26 = .ok (.istore 5, 2) := by decide +kernel
theorem d_M_isFound_28 : decode c_M_isFound 28 = .ok (.aload_n 0, 1) := by decide +kernel
theorem d_M_isFound_29 : decode c_M_isFound 29 = .ok (.getfield 31, 3) := by decide +kernel
theorem d_M_isFound_32 : decode c_M_isFound 32 = .ok (.bipush 24, 2) := by decide +kernel
theorem d_M_isFound_34 : decode c_M_isFound 34 = .ok (.iload_n 2, 1) := by decide +kernel
theorem d_M_isFound_35 : decode c_M_isFound 35 = .ok (.imul, 1) := by decide +kernel
theorem d_M_isFound_36 : decode c_M_isFound 36 = .ok (.bipush 8, 2) := by decide +kernel
theorem d_M_isFound_38 : decode c_M_isFound 38 = .ok (.aload_n 0, 1) := by decide +kernel
theorem d_M_isFound_39 : decode c_M_isFound 39 = .ok (.getfield 68, 3) := by decide +kernel
theorem d_M_isFound_42 : decode c_M_isFound 42 = .ok (.iload 4, 2) := by decide +kernel
theorem d_M_isFound_44 : decode c_M_isFound 44 = .ok (.iaload, 1) := by decide +kernel
theorem d_M_isFound_45 : decode c_M_isFound 45 = .ok (.imul, 1) := by decide +kernel
theorem d_M_isFound_46 : decode c_M_isFound 46 = .ok (.iadd, 1) := by decide +kernel
theorem d_M_isFound_47 : decode c_M_isFound 47 = .ok (.aload_n 0, 1) := by decide +kernel
theorem d_M_isFound_48 : decode c_M_isFound 48 = .ok (.getfield 65, 3) := by decide +kernel
theorem d_M_isFound_51 : decode c_M_isFound 51 = .ok (.iload 4, 2) := by decide +kernel
theorem d_M_isFound_53 : decode c_M_isFound 53 = .ok (.iaload, 1) := by decide +kernel
theorem d_M_isFound_54 : decode c_M_isFound 54 = .ok (.iadd, 1) := by decide +kernel
theorem d_M_isFound_55 : decode c_M_isFound 55 = .ok (.iaload, 1) := by decide +kernel
theorem d_M_isFound_56 : decode c_M_isFound 56 = .ok (.istore 6, 2) := by decide +kernel
theorem d_M_isFound_58 : decode c_M_isFound 58 = .ok (.aload_n 0, 1) := by decide +kernel
theorem d_M_isFound_59 : decode c_M_isFound 59 = .ok (.getfield 62, 3) := by decide +kernel
theorem d_M_isFound_62 : decode c_M_isFound 62 = .ok (.iload 4, 2) := by decide +kernel
theorem d_M_isFound_64 : decode c_M_isFound 64 = .ok (.iaload, 1) := by decide +kernel
theorem d_M_isFound_65 : decode c_M_isFound 65 = .ok (.iconst 1, 1) := by decide +kernel
theorem d_M_isFound_66 : decode c_M_isFound 66 = .ok (.if_icmp .ne 13, 3) := by decide +kernel
theorem d_M_isFound_69 : decode c_M_isFound 69 = .ok (.iload 5, 2) := by decide +kernel
theorem d_M_isFound_71 : decode c_M_isFound 71 = .ok (.ifCond .eq 29, 3) := by decide +kernel
theorem d_M_isFound_74 : decode c_M_isFound 74 = .ok (.iload 6, 2) := by decide +kernel
theorem d_M_isFound_76 : decode c_M_isFound 76 = .ok (.ifCond .eq 24, 3) := by decide +kernel
theorem d_M_isFound_79 : decode c_M_isFound 79 = .ok (.iload 5, 2) := by decide +kernel
theorem d_M_isFound_81 : decode c_M_isFound 81 = .ok (.ifCond .eq 21, 3) := by decide +kernel
theorem d_M_isFound_84 : decode c_M_isFound 84 = .ok (.aload_n 0, 1) := by decide +kernel
theorem d_M_isFound_85 : decode c_M_isFound 85 = .ok (.getfield 62, 3) := by decide +kernel
theorem d_M_isFound_88 : decode c_M_isFound 88 = .ok (.iload 4, 2) := by decide +kernel
theorem d_M_isFound_90 : decode c_M_isFound 90 = .ok (.iaload, 1) := by decide +kernel
theorem d_M_isFound_91 : decode c_M_isFound 91 = .ok (.iconst 2, 1) := by decide +kernel
theorem d_M_isFound_92 : decode c_M_isFound 92 = .ok (.if_icmp .ne 10, 3) := by decide +kernel
theorem d_M_isFound_95 : decode c_M_isFound 95 = .ok (.iload 6, 2) := by decide +kernel
theorem d_M_isFound_97 : decode c_M_isFound 97 = .ok (.ifCond .le 5, 3) := by decide +kernel
theorem d_M_isFound_100 : decode c_M_isFound 100 = .ok (.iconst 0, 1) := by decide +kernel
theorem d_M_isFound_101 : decode c_M_isFound 101 = .ok (.ireturn, 1) := by decide +kernel
theorem d_M_isFound_102 : decode c_M_isFound 102 = .ok (.iload 5, 2) := by decide +kernel
theorem d_M_isFound_104 : decode c_M_isFound 104 = .ok (.ifCond .eq 20, 3) := by decide +kernel
theorem d_M_isFound_107 : decode c_M_isFound 107 = .ok (.aload_n 0, 1) := by decide +kernel
theorem d_M_isFound_108 : decode c_M_isFound 108 = .ok (.getfield 62, 3) := by decide +kernel
theorem d_M_isFound_111 : decode c_M_isFound 111 = .ok (.iload 4, 2) := by decide +kernel
theorem d_M_isFound_113 : decode c_M_isFound 113 = .ok (.iaload, 1) := by decide +kernel
theorem d_M_isFound_114 : decode c_M_isFound 114 = .ok (.ifCond .ne 10, 3) := by decide +kernel
theorem d_M_isFound_117 : decode c_M_isFound 117 = .ok (.iload 6, 2) := by decide +kernel
theorem d_M_isFound_119 : decode c_M_isFound 119 = .ok (.ifCond .le 5, 3) := by decide +kernel
theorem d_M_isFound_122 : decode c_M_isFound 122 = .ok (.iconst 1, 1) := by decide +kernel
theorem d_M_isFound_123 : decode c_M_isFound 123 = .ok (.istore_n 3, 1) := by decide +kernel
theorem d_M_isFound_124 : decode c_M_isFound 124 = .ok (.iinc 4 1, 3) := by decide +kernel
theorem d_M_isFound_127 : decode c_M_isFound 127 = .ok (.goto (-122), 3) := by decide +kernel
theorem d_M_isFound_130 : decode c_M_isFound 130 = .ok (.iload_n 3, 1) := by decide +kernel
theorem d_M_isFound_131 : decode c_M_isFound 131 = .ok (.ireturn, 1) := by decide +kernel
theorem d_M_enter_0 : decode c_M_enter 0 = .ok (.aload_n 0, 1) := by decide +kernel
theorem d_M_enter_1 : decode c_M_enter 1 = .ok (.getfield 157, 3) := by decide +kernel
theorem d_M_enter_4 : decode c_M_enter 4 = .ok (.istore 4, 2) := by decide +kernel
theorem d_M_enter_6 : decode c_M_enter 6 = .ok (.iload 4, 2) := by decide +kernel
theorem d_M_enter_8 : decode c_M_enter 8 = .ok (.ifCond .le 82, 3) := by decide +kernel
theorem d_M_enter_11 : decode c_M_enter 11 = .ok (.aload_n 0, 1) := by decide +kernel
theorem d_M_enter_12 : decode c_M_enter 12 = .ok (.getfield 81, 3) := by decide +kernel
theorem d_M_enter_15 : decode c_M_enter 15 = .ok (.iload 4, 2) := by decide +kernel
theorem d_M_enter_17 : decode c_M_enter 17 = .ok (.iconst 1, 1) := by decide +kernel
theorem d_M_enter_18 : decode c_M_enter 18 = .ok (.isub, 1) := by decide +kernel
theorem d_M_enter_19 : decode c_M_enter 19 = .ok (.faload, 1) := by decide +kernel
theorem d_M_enter_20 : decode c_M_enter 20 = .ok (.fload_n 2, 1) := by decide +kernel
theorem d_M_enter_21 : decode c_M_enter 21 = .ok (.fcmp .g, 1) := by decide +kernel
theorem d_M_enter_22 : decode c_M_enter 22 = .ok (.ifCond .lt 30, 3) := by decide +kernel
theorem d_M_enter_25 : decode c_M_enter 25 = .ok (.aload_n 0, 1) := by decide +kernel
theorem d_M_enter_26 : decode c_M_enter 26 = .ok (.getfield 81, 3) := by decide +kernel
theorem d_M_enter_29 : decode c_M_enter 29 = .ok (.iload 4, 2) := by decide +kernel
theorem d_M_enter_31 : decode c_M_enter 31 = .ok (.iconst 1, 1) := by decide +kernel
theorem d_M_enter_32 : decode c_M_enter 32 = .ok (.isub, 1) := by decide +kernel
theorem d_M_enter_33 : decode c_M_enter 33 = .ok (.faload, 1) := by decide +kernel
theorem d_M_enter_34 : decode c_M_enter 34 = .ok (.fload_n 2, 1) := by decide +kernel
theorem d_M_enter_35 : decode c_M_enter 35 = .ok (.fcmp .l, 1) := by decide +kernel
theorem d_M_enter_36 : decode c_M_enter 36 = .ok (.ifCond .ne 54, 3) := by decide +kernel
theorem d_M_enter_39 : decode c_M_enter 39 = .ok (.aload_n 0, 1) := by decide +kernel
theorem d_M_enter_40 : decode c_M_enter 40 = .ok (.getfield 74, 3) := by decide +kernel
theorem d_M_enter_43 : decode c_M_enter 43 = .ok (.iload 4, 2) := by decide +kernel
theorem d_M_enter_45 : decode c_M_enter 45 = .ok (.iconst 1, 1) := by decide +kernel
theorem d_M_enter_46 : decode c_M_enter 46 = .ok (.isub, 1) := by decide +kernel
theorem d_M_enter_47 : decode c_M_enter 47 = .ok (.iaload, 1) := by decide +kernel
theorem d_M_enter_48 : decode c_M_enter 48 = .ok (.iload_n 1, 1) := by decide +kernel
theorem d_M_enter_49 : decode c_M_enter 49 = .ok (.if_icmp .le 41, 3) := by decide +kernel
theorem d_M_enter_52 : decode c_M_enter 52 = .ok (.aload_n 0, 1) := by decide +kernel
theorem d_M_enter_53 : decode c_M_enter 53 = .ok (.getfield 81, 3) := by decide +kernel
theorem d_M_enter_56 : decode c_M_enter 56 = .ok (.iload 4, 2) := by decide +kernel
theorem d_M_enter_58 : decode c_M_enter 58 = .ok (.aload_n 0, 1) := by decide +kernel
theorem d_M_enter_59 : decode c_M_enter 59 = .ok (.getfield 81, 3) := by decide +kernel
theorem d_M_enter_62 : decode c_M_enter 62 = .ok (.iload 4, 2) := by decide +kernel
theorem d_M_enter_64 : decode c_M_enter 64 = .ok (.iconst 1, 1) := by decide +kernel
theorem d_M_enter_65 : decode c_M_enter 65 = .ok (.isub, 1) := by decide +kernel
theorem d_M_enter_66 : decode c_M_enter 66 = .ok (.faload, 1) := by decide +kernel
theorem d_M_enter_67 : decode c_M_enter 67 = .ok (.fastore, 1) := by decide +kernel
theorem d_M_enter_68 : decode c_M_enter 68 = .ok (.aload_n 0, 1) := by decide +kernel
theorem d_M_enter_69 : decode c_M_enter 69 = .ok (.getfield 74, 3) := by decide +kernel
theorem d_M_enter_72 : decode c_M_enter 72 = .ok (.iload 4, 2) := by decide +kernel
theorem d_M_enter_74 : decode c_M_enter 74 = .ok (.aload_n 0, 1) := by decide +kernel
theorem d_M_enter_75 : decode c_M_enter 75 = .ok (.getfield 74, 3) := by decide +kernel
theorem d_M_enter_78 : decode c_M_enter 78 = .ok (.iload 4, 2) := by decide +kernel
theorem d_M_enter_80 : decode c_M_enter 80 = .ok (.iconst 1, 1) := by decide +kernel
theorem d_M_enter_81 : decode c_M_enter 81 = .ok (.isub, 1) := by decide +kernel
theorem d_M_enter_82 : decode c_M_enter 82 = .ok (.iaload, 1) := by decide +kernel
theorem d_M_enter_83 : decode c_M_enter 83 = .ok (.iastore, 1) := by decide +kernel
theorem d_M_enter_84 : decode c_M_enter 84 = .ok (.iinc 4 (-1), 3) := by decide +kernel
theorem d_M_enter_87 : decode c_M_enter 87 = .ok (.goto (-81), 3) := by decide +kernel
theorem d_M_enter_90 : decode c_M_enter 90 = .ok (.aload_n 0, 1) := by decide +kernel
theorem d_M_enter_91 : decode c_M_enter 91 = .ok (.getfield 81, 3) := by decide +kernel
theorem d_M_enter_94 : decode c_M_enter 94 = .ok (.iload 4, 2) := by decide +kernel
theorem d_M_enter_96 : decode c_M_enter 96 = .ok (.fload_n 2, 1) := by decide +kernel
theorem d_M_enter_97 : decode c_M_enter 97 = .ok (.fastore, 1) := by decide +kernel
theorem d_M_enter_98 : decode c_M_enter 98 = .ok (.aload_n 0, 1) := by decide +kernel
theorem d_M_enter_99 : decode c_M_enter 99 = .ok (.getfield 74, 3) := by decide +kernel
theorem d_M_enter_102 : decode c_M_enter 102 = .ok (.iload 4, 2) := by decide +kernel
theorem d_M_enter_104 : decode c_M_enter 104 = .ok (.iload_n 1, 1) := by decide +kernel
theorem d_M_enter_105 : decode c_M_enter 105 = .ok (.iastore, 1) := by decide +kernel
theorem d_M_enter_106 : decode c_M_enter 106 = .ok (.aload_n 0, 1) := by decide +kernel
theorem d_M_enter_107 : decode c_M_enter 107 = .ok (.getfield 157, 3) := by decide +kernel
theorem d_M_enter_110 : decode c_M_enter 110 = .ok (.iload_n 3, 1) := by decide +kernel
theorem d_M_enter_111 : decode c_M_enter 111 = .ok (.if_icmp .ge 13, 3) := by decide +kernel
theorem d_M_enter_114 : decode c_M_enter 114 = .ok (.aload_n 0, 1) := by decide +kernel
theorem d_M_enter_115 : decode c_M_enter 115 = .ok (.dup, 1) := by decide +kernel
theorem d_M_enter_116 : decode c_M_enter 116 = .ok (.getfield 157, 3) := by decide +kernel
theorem d_M_enter_119 : decode c_M_enter 119 = .ok (.iconst 1, 1) := by decide +kernel
theorem d_M_enter_120 : decode c_M_enter 120 = .ok (.iadd, 1) := by decide +kernel
theorem d_M_enter_121 : decode c_M_enter 121 = .ok (.putfield 157, 3) := by decide +kernel
theorem d_M_enter_124 : decode c_M_enter 124 = .ok (.return_, 1) := by decide +kernel
theorem d_M_value_0 : decode c_M_value 0 = .ok (.iload_n 1, 1) := by decide +kernel
theorem d_M_value_1 : decode c_M_value 1 = .ok (.iconst 0, 1) := by decide +kernel
theorem d_M_value_2 : decode c_M_value 2 = .ok (.bipush 7, 2) := by decide +kernel
theorem d_M_value_4 : decode c_M_value 4 = .ok (.invokestatic 98, 3) := by decide +kernel
theorem d_M_value_7 : decode c_M_value 7 = .ok (.ifCond .eq 12, 3) := by decide +kernel
theorem d_M_value_10 : decode c_M_value 10 = .ok (.iload_n 3, 1) := by decide +kernel
theorem d_M_value_11 : decode c_M_value 11 = .ok (.iconst 0, 1) := by decide +kernel
theorem d_M_value_12 : decode c_M_value 12 = .ok (.iconst 2, 1) := by decide +kernel
theorem d_M_value_13 : decode c_M_value 13 = .ok (.invokestatic 98, 3) := by decide +kernel
theorem d_M_value_16 : decode c_M_value 16 = .ok (.ifCond .ne 9, 3) := by decide +kernel
theorem d_M_value_19 : decode c_M_value 19 = .ok (.aload_n 0, 1) := by decide +kernel
theorem d_M_value_20 : decode c_M_value 20 = .ok (.iconst 1, 1) := by decide +kernel
theorem d_M_value_21 : decode c_M_value 21 = .ok (.invokevirtual 102, 3) := by decide +kernel
theorem d_M_value_24 : decode c_M_value 24 = .ok (.ireturn, 1) := by decide +kernel
theorem d_M_value_25 : decode c_M_value 25 = .ok (.iload_n 2, 1) := by decide +kernel
theorem d_M_value_26 : decode c_M_value 26 = .ok (.iconst 0, 1) := by decide +kernel
theorem d_M_value_27 : decode c_M_value 27 = .ok (.aload_n 0, 1) := by decide +kernel
theorem d_M_value_28 : decode c_M_value 28 = .ok (.getfield 116, 3) := by decide +kernel
theorem d_M_value_31 : decode c_M_value 31 = .ok (.iconst 1, 1) := by decide +kernel
theorem d_M_value_32 : decode c_M_value 32 = .ok (.isub, 1) := by decide +kernel
theorem d_M_value_33 : decode c_M_value 33 = .ok (.invokestatic 98, 3) := by decide +kernel
theorem d_M_value_36 : decode c_M_value 36 = .ok (.ifCond .eq 34, 3) := by decide +kernel
theorem d_M_value_39 : decode c_M_value 39 = .ok (.aload_n 0, 1) := by decide +kernel
theorem d_M_value_40 : decode c_M_value 40 = .ok (.getfield 46, 3) := by decide +kernel
theorem d_M_value_43 : decode c_M_value 43 = .ok (.iload_n 2, 1) := by decide +kernel
theorem d_M_value_44 : decode c_M_value 44 = .ok (.iaload, 1) := by decide +kernel
theorem d_M_value_45 : decode c_M_value 45 = .ok (.ifCond .lt 25, 3) := by decide +kernel
theorem d_M_value_48 : decode c_M_value 48 = .ok (.aload_n 0, 1) := by decide +kernel
theorem d_M_value_49 : decode c_M_value 49 = .ok (.getfield 53, 3) := by decide +kernel
theorem d_M_value_52 : decode c_M_value 52 = .ok (.iload_n 2, 1) := by decide +kernel
theorem d_M_value_53 : decode c_M_value 53 = .ok (.baload, 1) := by decide +kernel
theorem d_M_value_54 : decode c_M_value 54 = .ok (.ifCond .ne 16, 3) := by decide +kernel
theorem d_M_value_57 : decode c_M_value 57 = .ok (.aload_n 0, 1) := by decide +kernel
theorem d_M_value_58 : decode c_M_value 58 = .ok (.iload_n 1, 1) := by decide +kernel
theorem d_M_value_59 : decode c_M_value 59 = .ok (.iload_n 2, 1) := by decide +kernel
theorem d_M_value_60 : decode c_M_value 60 = .ok (.invokevirtual 175, 3) := by decide +kernel
theorem d_M_value_63 : decode c_M_value 63 = .ok (.ifCond .eq 7, 3) := by decide +kernel
theorem d_M_value_66 : decode c_M_value 66 = .ok (.iconst 1, 1) := by decide +kernel
theorem d_M_value_67 : decode c_M_value 67 = .ok (.goto 4, 3) := by decide +kernel
theorem d_M_value_70 : decode c_M_value 70 = .ok (.iconst 0, 1) := by decide +kernel
theorem d_M_value_71 : decode c_M_value 71 = .ok (.istore 4, 2) := by decide +kernel
theorem d_M_value_73 : decode c_M_value 73 = .ok (.aload_n 0, 1) := by decide +kernel
theorem d_M_value_74 : decode c_M_value 74 = .ok (.iload_n 1, 1) := by decide +kernel
theorem d_M_value_75 : decode c_M_value 75 = .ok (.iload_n 3, 1) := by decide +kernel
theorem d_M_value_76 : decode c_M_value 76 = .ok (.invokevirtual 153, 3) := by decide +kernel
theorem d_M_value_79 : decode c_M_value 79 = .ok (.istore 5, 2) := by decide +kernel
theorem d_M_value_81 : decode c_M_value 81 = .ok (.iload 4, 2) := by decide +kernel
theorem d_M_value_83 : decode c_M_value 83 = .ok (.ifCond .ne 9, 3) := by decide +kernel
theorem d_M_value_86 : decode c_M_value 86 = .ok (.aload_n 0, 1) := by decide +kernel
theorem d_M_value_87 : decode c_M_value 87 = .ok (.iconst 2, 1) := by decide +kernel
theorem d_M_value_88 : decode c_M_value 88 = .ok (.invokevirtual 102, 3) := by decide +kernel
theorem d_M_value_91 : decode c_M_value 91 = .ok (.ireturn, 1) := by decide +kernel
theorem d_M_value_92 : decode c_M_value 92 = .ok (.iload 5, 2) := by decide +kernel
theorem d_M_value_94 : decode c_M_value 94 = .ok (.ifCond .ne 9, 3) := by decide +kernel
theorem d_M_value_97 : decode c_M_value 97 = .ok (.aload_n 0, 1) := by decide +kernel
theorem d_M_value_98 : decode c_M_value 98 = .ok (.iconst 3, 1) := by decide +kernel
theorem d_M_value_99 : decode c_M_value 99 = .ok (.invokevirtual 102, 3) := by decide +kernel
theorem d_M_value_102 : decode c_M_value 102 = .ok (.ireturn, 1) := by decide +kernel
theorem d_M_value_103 : decode c_M_value 103 = .ok (.aload_n 0, 1) := by decide +kernel
theorem d_M_value_104 : decode c_M_value 104 = .ok (.iconst 0, 1) := by decide +kernel
theorem d_M_value_105 : decode c_M_value 105 = .ok (.putfield 94, 3) := by decide +kernel
theorem d_M_value_108 : decode c_M_value 108 = .ok (.aload_n 0, 1) := by decide +kernel
theorem d_M_value_109 : decode c_M_value 109 = .ok (.getfield 28, 3) := by decide +kernel
theorem d_M_value_112 : decode c_M_value 112 = .ok (.iconst 3, 1) := by decide +kernel
theorem d_M_value_113 : decode c_M_value 113 = .ok (.iload_n 2, 1) := by decide +kernel
theorem d_M_value_114 : decode c_M_value 114 = .ok (.imul, 1) := by decide +kernel
theorem d_M_value_115 : decode c_M_value 115 = .ok (.iload_n 3, 1) := by decide +kernel
theorem d_M_value_116 : decode c_M_value 116 = .ok (.iadd, 1) := by decide +kernel
theorem d_M_value_117 : decode c_M_value 117 = .ok (.iaload, 1) := by decide +kernel
theorem d_M_value_118 : decode c_M_value 118 = .ok (.ireturn, 1) := by decide +kernel
theorem d_M_count_0 : decode c_M_count 0 = .ok (.iload_n 1, 1) := by decide +kernel
theorem d_M_count_1 : decode c_M_count 1 = .ok (.bipush 10, 2) := by decide +kernel
theorem d_M_count_3 : decode c_M_count 3 = .ok (.bipush 17, 2) := by decide +kernel
theorem d_M_count_5 : decode c_M_count 5 = .ok (.invokestatic 98, 3) := by decide +kernel
theorem d_M_count_8 : decode c_M_count 8 = .ok (.ifCond .ne 14, 3) := by decide +kernel
theorem d_M_count_11 : decode c_M_count 11 = .ok (.iload_n 1, 1) := by decide +kernel
theorem d_M_count_12 : decode c_M_count 12 = .ok (.bipush 20, 2) := by decide +kernel
theorem d_M_count_14 : decode c_M_count 14 = .ok (.bipush 27, 2) := by decide +kernel
theorem d_M_count_16 : decode c_M_count 16 = .ok (.invokestatic 98, 3) := by decide +kernel
theorem d_M_count_19 : decode c_M_count 19 = .ok (.ifCond .eq 28, 3) := by decide +kernel
theorem d_M_count_22 : decode c_M_count 22 = .ok (.aload_n 0, 1) := by decide +kernel
theorem d_M_count_23 : decode c_M_count 23 = .ok (.iconst 0, 1) := by decide +kernel
theorem d_M_count_24 : decode c_M_count 24 = .ok (.putfield 94, 3) := by decide +kernel
theorem d_M_count_27 : decode c_M_count 27 = .ok (.aload_n 0, 1) := by decide +kernel
theorem d_M_count_28 : decode c_M_count 28 = .ok (.iload_n 1, 1) := by decide +kernel
theorem d_M_count_29 : decode c_M_count 29 = .ok (.bipush 10, 2) := by decide +kernel
theorem d_M_count_31 : decode c_M_count 31 = .ok (.irem, 1) := by decide +kernel
theorem d_M_count_32 : decode c_M_count 32 = .ok (.iload_n 1, 1) := by decide +kernel
theorem d_M_count_33 : decode c_M_count 33 = .ok (.bipush 20, 2) := by decide +kernel
theorem d_M_count_35 : decode c_M_count 35 = .ok (.if_icmp .ge 7, 3) := by decide +kernel
theorem d_M_count_38 : decode c_M_count 38 = .ok (.iconst 1, 1) := by decide +kernel
theorem d_M_count_39 : decode c_M_count 39 = .ok (.goto 4, 3) := by decide +kernel
theorem d_M_count_42 : decode c_M_count 42 = .ok (.iconst 0, 1) := by decide +kernel
theorem d_M_count_43 : decode c_M_count 43 = .ok (.invokevirtual 149, 3) := by decide +kernel
theorem d_M_count_46 : decode c_M_count 46 = .ok (.ireturn, 1) := by decide +kernel
theorem d_M_count_47 : decode c_M_count 47 = .ok (.iload_n 1, 1) := by decide +kernel
theorem d_M_count_48 : decode c_M_count 48 = .ok (.iconst 0, 1) := by decide +kernel
theorem d_M_count_49 : decode c_M_count 49 = .ok (.bipush 8, 2) := by decide +kernel
theorem d_M_count_51 : decode c_M_count 51 = .ok (.invokestatic 98, 3) := by decide +kernel
theorem d_M_count_54 : decode c_M_count 54 = .ok (.ifCond .ne 9, 3) := by decide +kernel
theorem d_M_count_57 : decode c_M_count 57 = .ok (.aload_n 0, 1) := by decide +kernel
theorem d_M_count_58 : decode c_M_count 58 = .ok (.iconst 1, 1) := by decide +kernel
theorem d_M_count_59 : decode c_M_count 59 = .ok (.invokevirtual 102, 3) := by decide +kernel
theorem d_M_count_62 : decode c_M_count 62 = .ok (.ireturn, 1) := by decide +kernel
theorem d_M_count_63 : decode c_M_count 63 = .ok (.aload_n 0, 1) := by decide +kernel
theorem d_M_count_64 : decode c_M_count 64 = .ok (.iconst 0, 1) := by decide +kernel
theorem d_M_count_65 : decode c_M_count 65 = .ok (.putfield 94, 3) := by decide +kernel
theorem d_M_count_68 : decode c_M_count 68 = .ok (.iload_n 1, 1) := by decide +kernel
theorem d_M_count_69 : decode c_M_count 69 = .ok (.tableswitch 88 0 7 #[47, 52, 58, 63, 68, 73, 78, 83], 47) := by decide +kernel
theorem d_M_count_116 : decode c_M_count 116 = .ok (.aload_n 0, 1) := by decide +kernel
theorem d_M_count_117 : decode c_M_count 117 = .ok (.getfield 116, 3) := by decide +kernel
theorem d_M_count_120 : decode c_M_count 120 = .ok (.ireturn, 1) := by decide +kernel
theorem d_M_count_121 : decode c_M_count 121 = .ok (.aload_n 0, 1) := by decide +kernel
theorem d_M_count_122 : decode c_M_count 122 = .ok (.iconst (-1), 1) := by decide +kernel
theorem d_M_count_123 : decode c_M_count 123 = .ok (.invokevirtual 122, 3) := by decide +kernel
theorem d_M_count_126 : decode c_M_count 126 = .ok (.ireturn, 1) := by decide +kernel
theorem d_M_count_127 : decode c_M_count 127 = .ok (.aload_n 0, 1) := by decide +kernel
theorem d_M_count_128 : decode c_M_count 128 = .ok (.getfield 119, 3) := by decide +kernel
theorem d_M_count_131 : decode c_M_count 131 = .ok (.ireturn, 1) := by decide +kernel
theorem d_M_count_132 : decode c_M_count 132 = .ok (.aload_n 0, 1) := by decide +kernel
theorem d_M_count_133 : decode c_M_count 133 = .ok (.getfield 128, 3) := by decide +kernel
theorem d_M_count_136 : decode c_M_count 136 = .ok (.ireturn, 1) := by decide +kernel
theorem d_M_count_137 : decode c_M_count 137 = .ok (.aload_n 0, 1) := by decide +kernel
theorem d_M_count_138 : decode c_M_count 138 = .ok (.getfield 169, 3) := by decide +kernel
theorem d_M_count_141 : decode c_M_count 141 = .ok (.ireturn, 1) := by decide +kernel
theorem d_M_count_142 : decode c_M_count 142 = .ok (.aload_n 0, 1) := by decide +kernel
theorem d_M_count_143 : decode c_M_count 143 = .ok (.getfield 178, 3) := by decide +kernel
theorem d_M_count_146 : decode c_M_count 146 = .ok (.ireturn, 1) := by decide +kernel
theorem d_M_count_147 : decode c_M_count 147 = .ok (.aload_n 0, 1) := by decide +kernel
theorem d_M_count_148 : decode c_M_count 148 = .ok (.getfield 166, 3) := by decide +kernel
theorem d_M_count_151 : decode c_M_count 151 = .ok (.ireturn, 1) := by decide +kernel
theorem d_M_count_152 : decode c_M_count 152 = .ok (.aload_n 0, 1) := by decide +kernel
theorem d_M_count_153 : decode c_M_count 153 = .ok (.getfield 163, 3) := by decide +kernel
theorem d_M_count_156 : decode c_M_count 156 = .ok (.ireturn, 1) := by decide +kernel
theorem d_M_count_157 : decode c_M_count 157 = .ok (.aload_n 0, 1) := by decide +kernel
theorem d_M_count_158 : decode c_M_count 158 = .ok (.getfield 131, 3) := by decide +kernel
theorem d_M_count_161 : decode c_M_count 161 = .ok (.ireturn, 1) := by decide +kernel
