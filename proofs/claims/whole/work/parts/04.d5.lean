theorem dX11_piles_27 : decode cX11_piles 27 = .ok (.ireturn, 1) := by decide +kernel
theorem dX11_trial_0 : decode cX11_trial 0 = .ok (.aload_n 0, 1) := by decide +kernel
theorem dX11_trial_1 : decode cX11_trial 1 = .ok (.iconst 0, 1) := by decide +kernel
theorem dX11_trial_2 : decode cX11_trial 2 = .ok (.putfield 95, 3) := by decide +kernel
theorem dX11_trial_5 : decode cX11_trial 5 = .ok (.aload_n 0, 1) := by decide +kernel
theorem dX11_trial_6 : decode cX11_trial 6 = .ok (.getfield 272, 3) := by decide +kernel
theorem dX11_trial_9 : decode cX11_trial 9 = .ok (.ifCond .eq 43, 3) := by decide +kernel
theorem dX11_trial_12 : decode cX11_trial 12 = .ok (.iload_n 1, 1) := by decide +kernel
theorem dX11_trial_13 : decode cX11_trial 13 = .ok (.i2l, 1) := by decide +kernel
theorem dX11_trial_14 : decode cX11_trial 14 = .ok (.lconst 1, 1) := by decide +kernel
theorem dX11_trial_15 : decode cX11_trial 15 = .ok (.ldc2_w 389, 3) := by decide +kernel
theorem dX11_trial_18 : decode cX11_trial 18 = .ok (.invokestatic 219, 3) := by decide +kernel
theorem dX11_trial_21 : decode cX11_trial 21 = .ok (.ifCond .eq 31, 3) := by decide +kernel
theorem dX11_trial_24 : decode cX11_trial 24 = .ok (.iload 4, 2) := by decide +kernel
theorem dX11_trial_26 : decode cX11_trial 26 = .ok (.i2l, 1) := by decide +kernel
theorem dX11_trial_27 : decode cX11_trial 27 = .ok (.lconst 0, 1) := by decide +kernel
theorem dX11_trial_28 : decode cX11_trial 28 = .ok (.ldc2_w 376, 3) := by decide +kernel
theorem dX11_trial_31 : decode cX11_trial 31 = .ok (.invokestatic 219, 3) := by decide +kernel
theorem dX11_trial_34 : decode cX11_trial 34 = .ok (.ifCond .eq 18, 3) := by decide +kernel
theorem dX11_trial_37 : decode cX11_trial 37 = .ok (.iload 5, 2) := by decide +kernel
theorem dX11_trial_39 : decode cX11_trial 39 = .ok (.i2l, 1) := by decide +kernel
theorem dX11_trial_40 : decode cX11_trial 40 = .ok (.lconst 0, 1) := by decide +kernel
theorem dX11_trial_41 : decode cX11_trial 41 = .ok (.aload_n 0, 1) := by decide +kernel
theorem dX11_trial_42 : decode cX11_trial 42 = .ok (.getfield 272, 3) := by decide +kernel
theorem dX11_trial_45 : decode cX11_trial 45 = .ok (.i2l, 1) := by decide +kernel
theorem dX11_trial_46 : decode cX11_trial 46 = .ok (.invokestatic 219, 3) := by decide +kernel
theorem dX11_trial_49 : decode cX11_trial 49 = .ok (.ifCond .ne 5, 3) := by decide +kernel
theorem dX11_trial_52 : decode cX11_trial 52 = .ok (.iconst (-1), 1) := by decide +kernel
theorem dX11_trial_53 : decode cX11_trial 53 = .ok (.ireturn, 1) := by decide +kernel
theorem dX11_trial_54 : decode cX11_trial 54 = .ok (.iconst 0, 1) := by decide +kernel
theorem dX11_trial_55 : decode cX11_trial 55 = .ok (.istore 6, 2) := by decide +kernel
theorem dX11_trial_57 : decode cX11_trial 57 = .ok (.iload 6, 2) := by decide +kernel
theorem dX11_trial_59 : decode cX11_trial 59 = .ok (.bipush 24, 2) := by decide +kernel
theorem dX11_trial_61 : decode cX11_trial 61 = .ok (.if_icmp .ge 23, 3) := by decide +kernel
theorem dX11_trial_64 : decode cX11_trial 64 = .ok (.aload_n 0, 1) := by decide +kernel
theorem dX11_trial_65 : decode cX11_trial 65 = .ok (.getfield 80, 3) := by decide +kernel
theorem dX11_trial_68 : decode cX11_trial 68 = .ok (.iload 6, 2) := by decide +kernel
theorem dX11_trial_70 : decode cX11_trial 70 = .ok (.aload_n 0, 1) := by decide +kernel
theorem dX11_trial_71 : decode cX11_trial 71 = .ok (.getfield 37, 3) := by decide +kernel
theorem dX11_trial_74 : decode cX11_trial 74 = .ok (.iload 6, 2) := by decide +kernel
theorem dX11_trial_76 : decode cX11_trial 76 = .ok (.iaload, 1) := by decide +kernel
theorem dX11_trial_77 : decode cX11_trial 77 = .ok (.iastore, 1) := by decide +kernel
theorem dX11_trial_78 : decode cX11_trial 78 = .ok (.iinc 6 1, 3) := by decide +kernel
theorem dX11_trial_81 : decode cX11_trial 81 = .ok (.goto (-24), 3) := by decide +kernel
theorem dX11_trial_84 : decode cX11_trial 84 = .ok (.iconst 0, 1) := by decide +kernel
theorem dX11_trial_85 : decode cX11_trial 85 = .ok (.istore 6, 2) := by decide +kernel
theorem dX11_trial_87 : decode cX11_trial 87 = .ok (.lload_n 2, 1) := by decide +kernel
theorem dX11_trial_88 : decode cX11_trial 88 = .ok (.lstore 7, 2) := by decide +kernel
theorem dX11_trial_90 : decode cX11_trial 90 = .ok (.iconst 0, 1) := by decide +kernel
theorem dX11_trial_91 : decode cX11_trial 91 = .ok (.istore 9, 2) := by decide +kernel
theorem dX11_trial_93 : decode cX11_trial 93 = .ok (.iload 9, 2) := by decide +kernel
theorem dX11_trial_95 : decode cX11_trial 95 = .ok (.iload_n 1, 1) := by decide +kernel
theorem dX11_trial_96 : decode cX11_trial 96 = .ok (.if_icmp .ge 80, 3) := by decide +kernel
theorem dX11_trial_99 : decode cX11_trial 99 = .ok (.iconst 0, 1) := by decide +kernel
theorem dX11_trial_100 : decode cX11_trial 100 = .ok (.istore 10, 2) := by decide +kernel
theorem dX11_trial_102 : decode cX11_trial 102 = .ok (.iload 10, 2) := by decide +kernel
theorem dX11_trial_104 : decode cX11_trial 104 = .ok (.aload_n 0, 1) := by decide +kernel
theorem dX11_trial_105 : decode cX11_trial 105 = .ok (.getfield 272, 3) := by decide +kernel
theorem dX11_trial_108 : decode cX11_trial 108 = .ok (.if_icmp .ge 40, 3) := by decide +kernel
theorem dX11_trial_111 : decode cX11_trial 111 = .ok (.lload 7, 2) := by decide +kernel
theorem dX11_trial_113 : decode cX11_trial 113 = .ok (.ldc2_w 391, 3) := by decide +kernel
theorem dX11_trial_116 : decode cX11_trial 116 = .ok (.lmul, 1) := by decide +kernel
theorem dX11_trial_117 : decode cX11_trial 117 = .ok (.ldc2_w 393, 3) := by decide +kernel
theorem dX11_trial_120 : decode cX11_trial 120 = .ok (.ladd, 1) := by decide +kernel
theorem dX11_trial_121 : decode cX11_trial 121 = .ok (.lstore 7, 2) := by decide +kernel
theorem dX11_trial_123 : decode cX11_trial 123 = .ok (.aload_n 0, 1) := by decide +kernel
theorem dX11_trial_124 : decode cX11_trial 124 = .ok (.getfield 37, 3) := by decide +kernel
theorem dX11_trial_127 : decode cX11_trial 127 = .ok (.iload 10, 2) := by decide +kernel
theorem dX11_trial_129 : decode cX11_trial 129 = .ok (.lload 7, 2) := by decide +kernel
theorem dX11_trial_131 : decode cX11_trial 131 = .ok (.bipush 33, 2) := by decide +kernel
theorem dX11_trial_133 : decode cX11_trial 133 = .ok (.lushr, 1) := by decide +kernel
theorem dX11_trial_134 : decode cX11_trial 134 = .ok (.iload 4, 2) := by decide +kernel
theorem dX11_trial_136 : decode cX11_trial 136 = .ok (.iconst 1, 1) := by decide +kernel
theorem dX11_trial_137 : decode cX11_trial 137 = .ok (.iadd, 1) := by decide +kernel
theorem dX11_trial_138 : decode cX11_trial 138 = .ok (.i2l, 1) := by decide +kernel
theorem dX11_trial_139 : decode cX11_trial 139 = .ok (.lrem, 1) := by decide +kernel
theorem dX11_trial_140 : decode cX11_trial 140 = .ok (.l2i, 1) := by decide +kernel
theorem dX11_trial_141 : decode cX11_trial 141 = .ok (.iastore, 1) := by decide +kernel
theorem dX11_trial_142 : decode cX11_trial 142 = .ok (.iinc 10 1, 3) := by decide +kernel
theorem dX11_trial_145 : decode cX11_trial 145 = .ok (.goto (-43), 3) := by decide +kernel
theorem dX11_trial_148 : decode cX11_trial 148 = .ok (.iload 6, 2) := by decide +kernel
theorem dX11_trial_150 : decode cX11_trial 150 = .ok (.aload_n 0, 1) := by decide +kernel
theorem dX11_trial_151 : decode cX11_trial 151 = .ok (.iconst 0, 1) := by decide +kernel
theorem dX11_trial_152 : decode cX11_trial 152 = .ok (.iload 5, 2) := by decide +kernel
theorem dX11_trial_154 : decode cX11_trial 154 = .ok (.iconst 0, 1) := by decide +kernel
theorem dX11_trial_155 : decode cX11_trial 155 = .ok (.invokevirtual 395, 3) := by decide +kernel
theorem dX11_trial_158 : decode cX11_trial 158 = .ok (.iconst (-1), 1) := by decide +kernel
theorem dX11_trial_159 : decode cX11_trial 159 = .ok (.if_icmp .ne 7, 3) := by decide +kernel
theorem dX11_trial_162 : decode cX11_trial 162 = .ok (.iconst 0, 1) := by decide +kernel
theorem dX11_trial_163 : decode cX11_trial 163 = .ok (.goto 4, 3) := by decide +kernel
theorem dX11_trial_166 : decode cX11_trial 166 = .ok (.iconst 1, 1) := by decide +kernel
theorem dX11_trial_167 : decode cX11_trial 167 = .ok (.iadd, 1) := by decide +kernel
theorem dX11_trial_168 : decode cX11_trial 168 = .ok (.istore 6, 2) := by decide +kernel
theorem dX11_trial_170 : decode cX11_trial 170 = .ok (.iinc 9 1, 3) := by decide +kernel
theorem dX11_trial_173 : decode cX11_trial 173 = .ok (.goto (-80), 3) := by decide +kernel
theorem dX11_trial_176 : decode cX11_trial 176 = .ok (.iconst 0, 1) := by decide +kernel
theorem dX11_trial_177 : decode cX11_trial 177 = .ok (.istore 9, 2) := by decide +kernel
theorem dX11_trial_179 : decode cX11_trial 179 = .ok (.iload 9, 2) := by decide +kernel
theorem dX11_trial_181 : decode cX11_trial 181 = .ok (.bipush 24, 2) := by decide +kernel
theorem dX11_trial_183 : decode cX11_trial 183 = .ok (.if_icmp .ge 23, 3) := by decide +kernel
theorem dX11_trial_186 : decode cX11_trial 186 = .ok (.aload_n 0, 1) := by decide +kernel
theorem dX11_trial_187 : decode cX11_trial 187 = .ok (.getfield 37, 3) := by decide +kernel
theorem dX11_trial_190 : decode cX11_trial 190 = .ok (.iload 9, 2) := by decide +kernel
theorem dX11_trial_192 : decode cX11_trial 192 = .ok (.aload_n 0, 1) := by decide +kernel
theorem dX11_trial_193 : decode cX11_trial 193 = .ok (.getfield 80, 3) := by decide +kernel
theorem dX11_trial_196 : decode cX11_trial 196 = .ok (.iload 9, 2) := by decide +kernel
theorem dX11_trial_198 : decode cX11_trial 198 = .ok (.iaload, 1) := by decide +kernel
theorem dX11_trial_199 : decode cX11_trial 199 = .ok (.iastore, 1) := by decide +kernel
theorem dX11_trial_200 : decode cX11_trial 200 = .ok (.iinc 9 1, 3) := by decide +kernel
theorem dX11_trial_203 : decode cX11_trial 203 = .ok (.goto (-24), 3) := by decide +kernel
theorem dX11_trial_206 : decode cX11_trial 206 = .ok (.iload 6, 2) := by decide +kernel
theorem dX11_trial_208 : decode cX11_trial 208 = .ok (.ireturn, 1) := by decide +kernel
theorem dX11_goFlip_0 : decode cX11_goFlip 0 = .ok (.iload_n 1, 1) := by decide +kernel
theorem dX11_goFlip_1 : decode cX11_goFlip 1 = .ok (.iconst 4, 1) := by decide +kernel
theorem dX11_goFlip_2 : decode cX11_goFlip 2 = .ok (.if_icmp .ne 41, 3) := by decide +kernel
theorem dX11_goFlip_5 : decode cX11_goFlip 5 = .ok (.aload_n 0, 1) := by decide +kernel
theorem dX11_goFlip_6 : decode cX11_goFlip 6 = .ok (.invokevirtual 326, 3) := by decide +kernel
theorem dX11_goFlip_9 : decode cX11_goFlip 9 = .ok (.aload_n 0, 1) := by decide +kernel
theorem dX11_goFlip_10 : decode cX11_goFlip 10 = .ok (.getfield 398, 3) := by decide +kernel
theorem dX11_goFlip_13 : decode cX11_goFlip 13 = .ok (.iconst (-1), 1) := by decide +kernel
theorem dX11_goFlip_14 : decode cX11_goFlip 14 = .ok (.if_icmp .eq 15, 3) := by decide +kernel
theorem dX11_goFlip_17 : decode cX11_goFlip 17 = .ok (.aload_n 0, 1) := by decide +kernel
theorem dX11_goFlip_18 : decode cX11_goFlip 18 = .ok (.getfield 317, 3) := by decide +kernel
theorem dX11_goFlip_21 : decode cX11_goFlip 21 = .ok (.aload_n 0, 1) := by decide +kernel
theorem dX11_goFlip_22 : decode cX11_goFlip 22 = .ok (.getfield 401, 3) := by decide +kernel
theorem dX11_goFlip_25 : decode cX11_goFlip 25 = .ok (.if_icmp .gt 4, 3) := by decide +kernel
theorem dX11_goFlip_28 : decode cX11_goFlip 28 = .ok (.return_, 1) := by decide +kernel
theorem dX11_goFlip_29 : decode cX11_goFlip 29 = .ok (.aload_n 0, 1) := by decide +kernel
theorem dX11_goFlip_30 : decode cX11_goFlip 30 = .ok (.iload_n 3, 1) := by decide +kernel
theorem dX11_goFlip_31 : decode cX11_goFlip 31 = .ok (.putfield 398, 3) := by decide +kernel
theorem dX11_goFlip_34 : decode cX11_goFlip 34 = .ok (.aload_n 0, 1) := by decide +kernel
theorem dX11_goFlip_35 : decode cX11_goFlip 35 = .ok (.aload_n 0, 1) := by decide +kernel
theorem dX11_goFlip_36 : decode cX11_goFlip 36 = .ok (.getfield 317, 3) := by decide +kernel
theorem dX11_goFlip_39 : decode cX11_goFlip 39 = .ok (.putfield 401, 3) := by decide +kernel
theorem dX11_goFlip_42 : decode cX11_goFlip 42 = .ok (.return_, 1) := by decide +kernel
theorem dX11_goFlip_43 : decode cX11_goFlip 43 = .ok (.iconst 0, 1) := by decide +kernel
theorem dX11_goFlip_44 : decode cX11_goFlip 44 = .ok (.istore 4, 2) := by decide +kernel
theorem dX11_goFlip_46 : decode cX11_goFlip 46 = .ok (.iload 4, 2) := by decide +kernel
theorem dX11_goFlip_48 : decode cX11_goFlip 48 = .ok (.iconst 4, 1) := by decide +kernel
theorem dX11_goFlip_49 : decode cX11_goFlip 49 = .ok (.if_icmp .ge 54, 3) := by decide +kernel
theorem dX11_goFlip_52 : decode cX11_goFlip 52 = .ok (.iload_n 2, 1) := by decide +kernel
theorem dX11_goFlip_53 : decode cX11_goFlip 53 = .ok (.iload 4, 2) := by decide +kernel
theorem dX11_goFlip_55 : decode cX11_goFlip 55 = .ok (.invokestatic 237, 3) := by decide +kernel
theorem dX11_goFlip_58 : decode cX11_goFlip 58 = .ok (.ifCond .eq 6, 3) := by decide +kernel
theorem dX11_goFlip_61 : decode cX11_goFlip 61 = .ok (.goto 36, 3) := by decide +kernel
theorem dX11_goFlip_64 : decode cX11_goFlip 64 = .ok (.aload_n 0, 1) := by decide +kernel
theorem dX11_goFlip_65 : decode cX11_goFlip 65 = .ok (.getfield 43, 3) := by decide +kernel
theorem dX11_goFlip_68 : decode cX11_goFlip 68 = .ok (.iload_n 1, 1) := by decide +kernel
theorem dX11_goFlip_69 : decode cX11_goFlip 69 = .ok (.aload_n 0, 1) := by decide +kernel
theorem dX11_goFlip_70 : decode cX11_goFlip 70 = .ok (.getfield 83, 3) := by decide +kernel
theorem dX11_goFlip_73 : decode cX11_goFlip 73 = .ok (.iload 4, 2) := by decide +kernel
theorem dX11_goFlip_75 : decode cX11_goFlip 75 = .ok (.iaload, 1) := by decide +kernel
theorem dX11_goFlip_76 : decode cX11_goFlip 76 = .ok (.iastore, 1) := by decide +kernel
theorem dX11_goFlip_77 : decode cX11_goFlip 77 = .ok (.aload_n 0, 1) := by decide +kernel
theorem dX11_goFlip_78 : decode cX11_goFlip 78 = .ok (.iload_n 1, 1) := by decide +kernel
theorem dX11_goFlip_79 : decode cX11_goFlip 79 = .ok (.iconst 1, 1) := by decide +kernel
theorem dX11_goFlip_80 : decode cX11_goFlip 80 = .ok (.iadd, 1) := by decide +kernel
theorem dX11_goFlip_81 : decode cX11_goFlip 81 = .ok (.iload_n 2, 1) := by decide +kernel
theorem dX11_goFlip_82 : decode cX11_goFlip 82 = .ok (.iconst 1, 1) := by decide +kernel
theorem dX11_goFlip_83 : decode cX11_goFlip 83 = .ok (.iload 4, 2) := by decide +kernel
theorem dX11_goFlip_85 : decode cX11_goFlip 85 = .ok (.ishl, 1) := by decide +kernel
theorem dX11_goFlip_86 : decode cX11_goFlip 86 = .ok (.ior, 1) := by decide +kernel
theorem dX11_goFlip_87 : decode cX11_goFlip 87 = .ok (.bipush 10, 2) := by decide +kernel
theorem dX11_goFlip_89 : decode cX11_goFlip 89 = .ok (.iload_n 3, 1) := by decide +kernel
theorem dX11_goFlip_90 : decode cX11_goFlip 90 = .ok (.imul, 1) := by decide +kernel
theorem dX11_goFlip_91 : decode cX11_goFlip 91 = .ok (.iload 4, 2) := by decide +kernel
theorem dX11_goFlip_93 : decode cX11_goFlip 93 = .ok (.iadd, 1) := by decide +kernel
theorem dX11_goFlip_94 : decode cX11_goFlip 94 = .ok (.invokevirtual 404, 3) := by decide +kernel
theorem dX11_goFlip_97 : decode cX11_goFlip 97 = .ok (.iinc 4 1, 3) := by decide +kernel
theorem dX11_goFlip_100 : decode cX11_goFlip 100 = .ok (.goto (-54), 3) := by decide +kernel
theorem dX11_goFlip_103 : decode cX11_goFlip 103 = .ok (.return_, 1) := by decide +kernel
theorem dX11_flip_0 : decode cX11_flip 0 = .ok (.aload_n 0, 1) := by decide +kernel
theorem dX11_flip_1 : decode cX11_flip 1 = .ok (.iconst 0, 1) := by decide +kernel
theorem dX11_flip_2 : decode cX11_flip 2 = .ok (.putfield 95, 3) := by decide +kernel
theorem dX11_flip_5 : decode cX11_flip 5 = .ok (.aload_n 0, 1) := by decide +kernel
theorem dX11_flip_6 : decode cX11_flip 6 = .ok (.getfield 272, 3) := by decide +kernel
theorem dX11_flip_9 : decode cX11_flip 9 = .ok (.ifCond .eq 13, 3) := by decide +kernel
theorem dX11_flip_12 : decode cX11_flip 12 = .ok (.iload_n 1, 1) := by decide +kernel
theorem dX11_flip_13 : decode cX11_flip 13 = .ok (.i2l, 1) := by decide +kernel
theorem dX11_flip_14 : decode cX11_flip 14 = .ok (.lconst 0, 1) := by decide +kernel
theorem dX11_flip_15 : decode cX11_flip 15 = .ok (.lconst 1, 1) := by decide +kernel
theorem dX11_flip_16 : decode cX11_flip 16 = .ok (.invokestatic 219, 3) := by decide +kernel
theorem dX11_flip_19 : decode cX11_flip 19 = .ok (.ifCond .ne 5, 3) := by decide +kernel
theorem dX11_flip_22 : decode cX11_flip 22 = .ok (.iconst (-1), 1) := by decide +kernel
theorem dX11_flip_23 : decode cX11_flip 23 = .ok (.ireturn, 1) := by decide +kernel
theorem dX11_flip_24 : decode cX11_flip 24 = .ok (.iconst 0, 1) := by decide +kernel
theorem dX11_flip_25 : decode cX11_flip 25 = .ok (.istore_n 2, 1) := by decide +kernel
theorem dX11_flip_26 : decode cX11_flip 26 = .ok (.iload_n 2, 1) := by decide +kernel
theorem dX11_flip_27 : decode cX11_flip 27 = .ok (.iconst 4, 1) := by decide +kernel
theorem dX11_flip_28 : decode cX11_flip 28 = .ok (.if_icmp .ge 21, 3) := by decide +kernel
theorem dX11_flip_31 : decode cX11_flip 31 = .ok (.aload_n 0, 1) := by decide +kernel
theorem dX11_flip_32 : decode cX11_flip 32 = .ok (.getfield 83, 3) := by decide +kernel
theorem dX11_flip_35 : decode cX11_flip 35 = .ok (.iload_n 2, 1) := by decide +kernel
theorem dX11_flip_36 : decode cX11_flip 36 = .ok (.aload_n 0, 1) := by decide +kernel
theorem dX11_flip_37 : decode cX11_flip 37 = .ok (.getfield 43, 3) := by decide +kernel
theorem dX11_flip_40 : decode cX11_flip 40 = .ok (.iload_n 2, 1) := by decide +kernel
theorem dX11_flip_41 : decode cX11_flip 41 = .ok (.iaload, 1) := by decide +kernel
theorem dX11_flip_42 : decode cX11_flip 42 = .ok (.iastore, 1) := by decide +kernel
theorem dX11_flip_43 : decode cX11_flip 43 = .ok (.iinc 2 1, 3) := by decide +kernel
theorem dX11_flip_46 : decode cX11_flip 46 = .ok (.goto (-20), 3) := by decide +kernel
theorem dX11_flip_49 : decode cX11_flip 49 = .ok (.aload_n 0, 1) := by decide +kernel
theorem dX11_flip_50 : decode cX11_flip 50 = .ok (.iconst (-1), 1) := by decide +kernel
theorem dX11_flip_51 : decode cX11_flip 51 = .ok (.putfield 398, 3) := by decide +kernel
theorem dX11_flip_54 : decode cX11_flip 54 = .ok (.aload_n 0, 1) := by decide +kernel
theorem dX11_flip_55 : decode cX11_flip 55 = .ok (.iconst 0, 1) := by decide +kernel
theorem dX11_flip_56 : decode cX11_flip 56 = .ok (.iconst 0, 1) := by decide +kernel
theorem dX11_flip_57 : decode cX11_flip 57 = .ok (.iconst 0, 1) := by decide +kernel
theorem dX11_flip_58 : decode cX11_flip 58 = .ok (.invokevirtual 404, 3) := by decide +kernel
theorem dX11_flip_61 : decode cX11_flip 61 = .ok (.iconst 0, 1) := by decide +kernel
theorem dX11_flip_62 : decode cX11_flip 62 = .ok (.istore_n 2, 1) := by decide +kernel
theorem dX11_flip_63 : decode cX11_flip 63 = .ok (.iload_n 2, 1) := by decide +kernel
theorem dX11_flip_64 : decode cX11_flip 64 = .ok (.iconst 4, 1) := by decide +kernel
theorem dX11_flip_65 : decode cX11_flip 65 = .ok (.if_icmp .ge 21, 3) := by decide +kernel
theorem dX11_flip_68 : decode cX11_flip 68 = .ok (.aload_n 0, 1) := by decide +kernel
theorem dX11_flip_69 : decode cX11_flip 69 = .ok (.getfield 43, 3) := by decide +kernel
theorem dX11_flip_72 : decode cX11_flip 72 = .ok (.iload_n 2, 1) := by decide +kernel
theorem dX11_flip_73 : decode cX11_flip 73 = .ok (.aload_n 0, 1) := by decide +kernel
theorem dX11_flip_74 : decode cX11_flip 74 = .ok (.getfield 83, 3) := by decide +kernel
theorem dX11_flip_77 : decode cX11_flip 77 = .ok (.iload_n 2, 1) := by decide +kernel
theorem dX11_flip_78 : decode cX11_flip 78 = .ok (.iaload, 1) := by decide +kernel
theorem dX11_flip_79 : decode cX11_flip 79 = .ok (.iastore, 1) := by decide +kernel
theorem dX11_flip_80 : decode cX11_flip 80 = .ok (.iinc 2 1, 3) := by decide +kernel
theorem dX11_flip_83 : decode cX11_flip 83 = .ok (.goto (-20), 3) := by decide +kernel
theorem dX11_flip_86 : decode cX11_flip 86 = .ok (.iload_n 1, 1) := by decide +kernel
theorem dX11_flip_87 : decode cX11_flip 87 = .ok (.ifCond .ne 10, 3) := by decide +kernel
theorem dX11_flip_90 : decode cX11_flip 90 = .ok (.aload_n 0, 1) := by decide +kernel
theorem dX11_flip_91 : decode cX11_flip 91 = .ok (.getfield 398, 3) := by decide +kernel
theorem dX11_flip_94 : decode cX11_flip 94 = .ok (.goto 7, 3) := by decide +kernel
theorem dX11_flip_97 : decode cX11_flip 97 = .ok (.aload_n 0, 1) := by decide +kernel
theorem dX11_flip_98 : decode cX11_flip 98 = .ok (.getfield 401, 3) := by decide +kernel
theorem dX11_flip_101 : decode cX11_flip 101 = .ok (.ireturn, 1) := by decide +kernel
theorem dX11_canPlane_0 : decode cX11_canPlane 0 = .ok (.aload_n 0, 1) := by decide +kernel
theorem dX11_canPlane_1 : decode cX11_canPlane 1 = .ok (.iload_n 1, 1) := by decide +kernel
theorem dX11_canPlane_2 : decode cX11_canPlane 2 = .ok (.invokevirtual 310, 3) := by decide +kernel
theorem dX11_canPlane_5 : decode cX11_canPlane 5 = .ok (.ifCond .ne 20, 3) := by decide +kernel
theorem dX11_canPlane_8 : decode cX11_canPlane 8 = .ok (.aload_n 0, 1) := by decide +kernel
theorem dX11_canPlane_9 : decode cX11_canPlane 9 = .ok (.iload_n 1, 1) := by decide +kernel
theorem dX11_canPlane_10 : decode cX11_canPlane 10 = .ok (.iconst 1, 1) := by decide +kernel
theorem dX11_canPlane_11 : decode cX11_canPlane 11 = .ok (.iadd, 1) := by decide +kernel
theorem dX11_canPlane_12 : decode cX11_canPlane 12 = .ok (.aload_n 0, 1) := by decide +kernel
theorem dX11_canPlane_13 : decode cX11_canPlane 13 = .ok (.getfield 272, 3) := by decide +kernel
theorem dX11_canPlane_16 : decode cX11_canPlane 16 = .ok (.irem, 1) := by decide +kernel
theorem dX11_canPlane_17 : decode cX11_canPlane 17 = .ok (.invokevirtual 310, 3) := by decide +kernel
theorem dX11_canPlane_20 : decode cX11_canPlane 20 = .ok (.ifCond .ne 5, 3) := by decide +kernel
theorem dX11_canPlane_23 : decode cX11_canPlane 23 = .ok (.iconst 1, 1) := by decide +kernel
theorem dX11_canPlane_24 : decode cX11_canPlane 24 = .ok (.ireturn, 1) := by decide +kernel
theorem dX11_canPlane_25 : decode cX11_canPlane 25 = .ok (.iload_n 3, 1) := by decide +kernel
theorem dX11_canPlane_26 : decode cX11_canPlane 26 = .ok (.istore 4, 2) := by decide +kernel
theorem dX11_canPlane_28 : decode cX11_canPlane 28 = .ok (.iload 4, 2) := by decide +kernel
theorem dX11_canPlane_30 : decode cX11_canPlane 30 = .ok (.aload_n 0, 1) := by decide +kernel
theorem dX11_canPlane_31 : decode cX11_canPlane 31 = .ok (.getfield 272, 3) := by decide +kernel
theorem dX11_canPlane_34 : decode cX11_canPlane 34 = .ok (.if_icmp .ge 85, 3) := by decide +kernel
theorem dX11_canPlane_37 : decode cX11_canPlane 37 = .ok (.iload_n 2, 1) := by decide +kernel
theorem dX11_canPlane_38 : decode cX11_canPlane 38 = .ok (.ifCond .le 81, 3) := by decide +kernel
theorem dX11_canPlane_41 : decode cX11_canPlane 41 = .ok (.aload_n 0, 1) := by decide +kernel
theorem dX11_canPlane_42 : decode cX11_canPlane 42 = .ok (.getfield 37, 3) := by decide +kernel
theorem dX11_canPlane_45 : decode cX11_canPlane 45 = .ok (.iload 4, 2) := by decide +kernel
theorem dX11_canPlane_47 : decode cX11_canPlane 47 = .ok (.iaload, 1) := by decide +kernel
theorem dX11_canPlane_48 : decode cX11_canPlane 48 = .ok (.istore 5, 2) := by decide +kernel
theorem dX11_canPlane_50 : decode cX11_canPlane 50 = .ok (.iconst 0, 1) := by decide +kernel
theorem dX11_canPlane_51 : decode cX11_canPlane 51 = .ok (.istore 6, 2) := by decide +kernel
theorem dX11_canPlane_53 : decode cX11_canPlane 53 = .ok (.iconst 0, 1) := by decide +kernel
theorem dX11_canPlane_54 : decode cX11_canPlane 54 = .ok (.istore 7, 2) := by decide +kernel
theorem dX11_canPlane_56 : decode cX11_canPlane 56 = .ok (.iload 7, 2) := by decide +kernel
theorem dX11_canPlane_58 : decode cX11_canPlane 58 = .ok (.bipush 99, 2) := by decide +kernel
theorem dX11_canPlane_60 : decode cX11_canPlane 60 = .ok (.if_icmp .gt 37, 3) := by decide +kernel
theorem dX11_canPlane_63 : decode cX11_canPlane 63 = .ok (.iload 6, 2) := by decide +kernel
theorem dX11_canPlane_65 : decode cX11_canPlane 65 = .ok (.ifCond .ne 32, 3) := by decide +kernel
theorem dX11_canPlane_68 : decode cX11_canPlane 68 = .ok (.aload_n 0, 1) := by decide +kernel
theorem dX11_canPlane_69 : decode cX11_canPlane 69 = .ok (.getfield 37, 3) := by decide +kernel
theorem dX11_canPlane_72 : decode cX11_canPlane 72 = .ok (.iload 4, 2) := by decide +kernel
theorem dX11_canPlane_74 : decode cX11_canPlane 74 = .ok (.iload 7, 2) := by decide +kernel
theorem dX11_canPlane_76 : decode cX11_canPlane 76 = .ok (.iastore, 1) := by decide +kernel
theorem dX11_canPlane_77 : decode cX11_canPlane 77 = .ok (.aload_n 0, 1) := by decide +kernel
theorem dX11_canPlane_78 : decode cX11_canPlane 78 = .ok (.iload_n 1, 1) := by decide +kernel
theorem dX11_canPlane_79 : decode cX11_canPlane 79 = .ok (.iload_n 2, 1) := by decide +kernel
theorem dX11_canPlane_80 : decode cX11_canPlane 80 = .ok (.iconst 1, 1) := by decide +kernel
theorem dX11_canPlane_81 : decode cX11_canPlane 81 = .ok (.isub, 1) := by decide +kernel
theorem dX11_canPlane_82 : decode cX11_canPlane 82 = .ok (.iload 4, 2) := by decide +kernel
theorem dX11_canPlane_84 : decode cX11_canPlane 84 = .ok (.iconst 1, 1) := by decide +kernel
theorem dX11_canPlane_85 : decode cX11_canPlane 85 = .ok (.iadd, 1) := by decide +kernel
theorem dX11_canPlane_86 : decode cX11_canPlane 86 = .ok (.invokevirtual 407, 3) := by decide +kernel
theorem dX11_canPlane_89 : decode cX11_canPlane 89 = .ok (.istore 6, 2) := by decide +kernel
theorem dX11_canPlane_91 : decode cX11_canPlane 91 = .ok (.iinc 7 1, 3) := by decide +kernel
theorem dX11_canPlane_94 : decode cX11_canPlane 94 = .ok (.goto (-38), 3) := by decide +kernel
theorem dX11_canPlane_97 : decode cX11_canPlane 97 = .ok (.aload_n 0, 1) := by decide +kernel
theorem dX11_canPlane_98 : decode cX11_canPlane 98 = .ok (.getfield 37, 3) := by decide +kernel
theorem dX11_canPlane_101 : decode cX11_canPlane 101 = .ok (.iload 4, 2) := by decide +kernel
theorem dX11_canPlane_103 : decode cX11_canPlane 103 = .ok (.iload 5, 2) := by decide +kernel
theorem dX11_canPlane_105 : decode cX11_canPlane 105 = .ok (.iastore, 1) := by decide +kernel
theorem dX11_canPlane_106 : decode cX11_canPlane 106 = .ok (.iload 6, 2) := by decide +kernel
theorem dX11_canPlane_108 : decode cX11_canPlane 108 = .ok (.ifCond .eq 5, 3) := by decide +kernel
theorem dX11_canPlane_111 : decode cX11_canPlane 111 = .ok (.iconst 1, 1) := by decide +kernel
theorem dX11_canPlane_112 : decode cX11_canPlane 112 = .ok (.ireturn, 1) := by decide +kernel
theorem dX11_canPlane_113 : decode cX11_canPlane 113 = .ok (.iinc 4 1, 3) := by decide +kernel
theorem dX11_canPlane_116 : decode cX11_canPlane 116 = .ok (.goto (-88), 3) := by decide +kernel
theorem dX11_canPlane_119 : decode cX11_canPlane 119 = .ok (.iconst 0, 1) := by decide +kernel
theorem dX11_canPlane_120 : decode cX11_canPlane 120 = .ok (.ireturn, 1) := by decide +kernel
theorem dX11_plane_0 : decode cX11_plane 0 = .ok (.aload_n 0, 1) := by decide +kernel
theorem dX11_plane_1 : decode cX11_plane 1 = .ok (.iconst 0, 1) := by decide +kernel
theorem dX11_plane_2 : decode cX11_plane 2 = .ok (.putfield 95, 3) := by decide +kernel
theorem dX11_plane_5 : decode cX11_plane 5 = .ok (.aload_n 0, 1) := by decide +kernel
theorem dX11_plane_6 : decode cX11_plane 6 = .ok (.iload_n 1, 1) := by decide +kernel
theorem dX11_plane_7 : decode cX11_plane 7 = .ok (.invokevirtual 290, 3) := by decide +kernel
theorem dX11_plane_10 : decode cX11_plane 10 = .ok (.ifCond .ne 5, 3) := by decide +kernel
theorem dX11_plane_13 : decode cX11_plane 13 = .ok (.iconst (-1), 1) := by decide +kernel
theorem dX11_plane_14 : decode cX11_plane 14 = .ok (.ireturn, 1) := by decide +kernel
theorem dX11_plane_15 : decode cX11_plane 15 = .ok (.iconst 0, 1) := by decide +kernel
theorem dX11_plane_16 : decode cX11_plane 16 = .ok (.istore_n 2, 1) := by decide +kernel
theorem dX11_plane_17 : decode cX11_plane 17 = .ok (.iload_n 2, 1) := by decide +kernel
theorem dX11_plane_18 : decode cX11_plane 18 = .ok (.iconst 3, 1) := by decide +kernel
theorem dX11_plane_19 : decode cX11_plane 19 = .ok (.if_icmp .ge 21, 3) := by decide +kernel
theorem dX11_plane_22 : decode cX11_plane 22 = .ok (.aload_n 0, 1) := by decide +kernel
theorem dX11_plane_23 : decode cX11_plane 23 = .ok (.iload_n 1, 1) := by decide +kernel
theorem dX11_plane_24 : decode cX11_plane 24 = .ok (.iload_n 2, 1) := by decide +kernel
theorem dX11_plane_25 : decode cX11_plane 25 = .ok (.iconst 0, 1) := by decide +kernel
theorem dX11_plane_26 : decode cX11_plane 26 = .ok (.invokevirtual 407, 3) := by decide +kernel
theorem dX11_plane_29 : decode cX11_plane 29 = .ok (.ifCond .eq 5, 3) := by decide +kernel
theorem dX11_plane_32 : decode cX11_plane 32 = .ok (.iload_n 2, 1) := by decide +kernel
theorem dX11_plane_33 : decode cX11_plane 33 = .ok (.ireturn, 1) := by decide +kernel
theorem dX11_plane_34 : decode cX11_plane 34 = .ok (.iinc 2 1, 3) := by decide +kernel
theorem dX11_plane_37 : decode cX11_plane 37 = .ok (.goto (-20), 3) := by decide +kernel
theorem dX11_plane_40 : decode cX11_plane 40 = .ok (.iconst (-1), 1) := by decide +kernel
theorem dX11_plane_41 : decode cX11_plane 41 = .ok (.ireturn, 1) := by decide +kernel
theorem dX11_remember_0 : decode cX11_remember 0 = .ok (.bipush 28, 2) := by decide +kernel
theorem dX11_remember_2 : decode cX11_remember 2 = .ok (.istore_n 1, 1) := by decide +kernel
theorem dX11_remember_3 : decode cX11_remember 3 = .ok (.aload_n 0, 1) := by decide +kernel
theorem dX11_remember_4 : decode cX11_remember 4 = .ok (.getfield 284, 3) := by decide +kernel
theorem dX11_remember_7 : decode cX11_remember 7 = .ok (.bipush 40, 2) := by decide +kernel
theorem dX11_remember_9 : decode cX11_remember 9 = .ok (.if_icmp .ne 43, 3) := by decide +kernel
theorem dX11_remember_12 : decode cX11_remember 12 = .ok (.iconst 0, 1) := by decide +kernel
theorem dX11_remember_13 : decode cX11_remember 13 = .ok (.istore_n 2, 1) := by decide +kernel
theorem dX11_remember_14 : decode cX11_remember 14 = .ok (.iload_n 2, 1) := by decide +kernel
theorem dX11_remember_15 : decode cX11_remember 15 = .ok (.iload_n 1, 1) := by decide +kernel
theorem dX11_remember_16 : decode cX11_remember 16 = .ok (.bipush 39, 2) := by decide +kernel
theorem dX11_remember_18 : decode cX11_remember 18 = .ok (.imul, 1) := by decide +kernel
theorem dX11_remember_19 : decode cX11_remember 19 = .ok (.if_icmp .ge 23, 3) := by decide +kernel
theorem dX11_remember_22 : decode cX11_remember 22 = .ok (.aload_n 0, 1) := by decide +kernel
theorem dX11_remember_23 : decode cX11_remember 23 = .ok (.getfield 86, 3) := by decide +kernel
theorem dX11_remember_26 : decode cX11_remember 26 = .ok (.iload_n 2, 1) := by decide +kernel
theorem dX11_remember_27 : decode cX11_remember 27 = .ok (.aload_n 0, 1) := by decide +kernel
theorem dX11_remember_28 : decode cX11_remember 28 = .ok (.getfield 86, 3) := by decide +kernel
theorem dX11_remember_31 : decode cX11_remember 31 = .ok (.iload_n 2, 1) := by decide +kernel
theorem dX11_remember_32 : decode cX11_remember 32 = .ok (.iload_n 1, 1) := by decide +kernel
theorem dX11_remember_33 : decode cX11_remember 33 = .ok (.iadd, 1) := by decide +kernel
theorem dX11_remember_34 : decode cX11_remember 34 = .ok (.iaload, 1) := by decide +kernel
theorem dX11_remember_35 : decode cX11_remember 35 = .ok (.iastore, 1) := by decide +kernel
theorem dX11_remember_36 : decode cX11_remember 36 = .ok (.iinc 2 1, 3) := by decide +kernel
theorem dX11_remember_39 : decode cX11_remember 39 = .ok (.goto (-25), 3) := by decide +kernel
theorem dX11_remember_42 : decode cX11_remember 42 = .ok (.aload_n 0, 1) := by decide +kernel
theorem dX11_remember_43 : decode cX11_remember 43 = .ok (.dup, 1) := by decide +kernel
theorem dX11_remember_44 : decode cX11_remember 44 = .ok (.getfield 284, 3) := by decide +kernel
theorem dX11_remember_47 : decode cX11_remember 47 = .ok (.iconst 1, 1) := by decide +kernel
theorem dX11_remember_48 : decode cX11_remember 48 = .ok (.isub, 1) := by decide +kernel
theorem dX11_remember_49 : decode cX11_remember 49 = .ok (.putfield 284, 3) := by decide +kernel
theorem dX11_remember_52 : decode cX11_remember 52 = .ok (.iconst 0, 1) := by decide +kernel
theorem dX11_remember_53 : decode cX11_remember 53 = .ok (.istore_n 2, 1) := by decide +kernel
theorem dX11_remember_54 : decode cX11_remember 54 = .ok (.iload_n 2, 1) := by decide +kernel
theorem dX11_remember_55 : decode cX11_remember 55 = .ok (.bipush 24, 2) := by decide +kernel
theorem dX11_remember_57 : decode cX11_remember 57 = .ok (.if_icmp .ge 28, 3) := by decide +kernel
theorem dX11_remember_60 : decode cX11_remember 60 = .ok (.aload_n 0, 1) := by decide +kernel
theorem dX11_remember_61 : decode cX11_remember 61 = .ok (.getfield 86, 3) := by decide +kernel
theorem dX11_remember_64 : decode cX11_remember 64 = .ok (.iload_n 1, 1) := by decide +kernel
theorem dX11_remember_65 : decode cX11_remember 65 = .ok (.aload_n 0, 1) := by decide +kernel
theorem dX11_remember_66 : decode cX11_remember 66 = .ok (.getfield 284, 3) := by decide +kernel
theorem dX11_remember_69 : decode cX11_remember 69 = .ok (.imul, 1) := by decide +kernel
theorem dX11_remember_70 : decode cX11_remember 70 = .ok (.iload_n 2, 1) := by decide +kernel
theorem dX11_remember_71 : decode cX11_remember 71 = .ok (.iadd, 1) := by decide +kernel
theorem dX11_remember_72 : decode cX11_remember 72 = .ok (.aload_n 0, 1) := by decide +kernel
theorem dX11_remember_73 : decode cX11_remember 73 = .ok (.getfield 37, 3) := by decide +kernel
theorem dX11_remember_76 : decode cX11_remember 76 = .ok (.iload_n 2, 1) := by decide +kernel
theorem dX11_remember_77 : decode cX11_remember 77 = .ok (.iaload, 1) := by decide +kernel
theorem dX11_remember_78 : decode cX11_remember 78 = .ok (.iastore, 1) := by decide +kernel
theorem dX11_remember_79 : decode cX11_remember 79 = .ok (.iinc 2 1, 3) := by decide +kernel
theorem dX11_remember_82 : decode cX11_remember 82 = .ok (.goto (-28), 3) := by decide +kernel
theorem dX11_remember_85 : decode cX11_remember 85 = .ok (.iconst 0, 1) := by decide +kernel
theorem dX11_remember_86 : decode cX11_remember 86 = .ok (.istore_n 2, 1) := by decide +kernel
theorem dX11_remember_87 : decode cX11_remember 87 = .ok (.iload_n 2, 1) := by decide +kernel
theorem dX11_remember_88 : decode cX11_remember 88 = .ok (.iconst 4, 1) := by decide +kernel
theorem dX11_remember_89 : decode cX11_remember 89 = .ok (.if_icmp .ge 31, 3) := by decide +kernel
theorem dX11_remember_92 : decode cX11_remember 92 = .ok (.aload_n 0, 1) := by decide +kernel
theorem dX11_remember_93 : decode cX11_remember 93 = .ok (.getfield 86, 3) := by decide +kernel
theorem dX11_remember_96 : decode cX11_remember 96 = .ok (.iload_n 1, 1) := by decide +kernel
theorem dX11_remember_97 : decode cX11_remember 97 = .ok (.aload_n 0, 1) := by decide +kernel
theorem dX11_remember_98 : decode cX11_remember 98 = .ok (.getfield 284, 3) := by decide +kernel
theorem dX11_remember_101 : decode cX11_remember 101 = .ok (.imul, 1) := by decide +kernel
theorem dX11_remember_102 : decode cX11_remember 102 = .ok (.bipush 24, 2) := by decide +kernel
theorem dX11_remember_104 : decode cX11_remember 104 = .ok (.iadd, 1) := by decide +kernel
theorem dX11_remember_105 : decode cX11_remember 105 = .ok (.iload_n 2, 1) := by decide +kernel
theorem dX11_remember_106 : decode cX11_remember 106 = .ok (.iadd, 1) := by decide +kernel
theorem dX11_remember_107 : decode cX11_remember 107 = .ok (.aload_n 0, 1) := by decide +kernel
theorem dX11_remember_108 : decode cX11_remember 108 = .ok (.getfield 43, 3) := by decide +kernel
theorem dX11_remember_111 : decode cX11_remember 111 = .ok (.iload_n 2, 1) := by decide +kernel
theorem dX11_remember_112 : decode cX11_remember 112 = .ok (.iaload, 1) := by decide +kernel
theorem dX11_remember_113 : decode cX11_remember 113 = .ok (.iastore, 1) := by decide +kernel
theorem dX11_remember_114 : decode cX11_remember 114 = .ok (.iinc 2 1, 3) := by decide +kernel
theorem dX11_remember_117 : decode cX11_remember 117 = .ok (.goto (-30), 3) := by decide +kernel
theorem dX11_remember_120 : decode cX11_remember 120 = .ok (.aload_n 0, 1) := by decide +kernel
theorem dX11_remember_121 : decode cX11_remember 121 = .ok (.dup, 1) := by decide +kernel
theorem dX11_remember_122 : decode cX11_remember 122 = .ok (.getfield 284, 3) := by decide +kernel
theorem dX11_remember_125 : decode cX11_remember 125 = .ok (.iconst 1, 1) := by decide +kernel
theorem dX11_remember_126 : decode cX11_remember 126 = .ok (.iadd, 1) := by decide +kernel
theorem dX11_remember_127 : decode cX11_remember 127 = .ok (.putfield 284, 3) := by decide +kernel
theorem dX11_remember_130 : decode cX11_remember 130 = .ok (.return_, 1) := by decide +kernel
theorem dX11_saw_0 : decode cX11_saw 0 = .ok (.aload_n 0, 1) := by decide +kernel
theorem dX11_saw_1 : decode cX11_saw 1 = .ok (.iconst 0, 1) := by decide +kernel
theorem dX11_saw_2 : decode cX11_saw 2 = .ok (.putfield 95, 3) := by decide +kernel
theorem dX11_saw_5 : decode cX11_saw 5 = .ok (.aload_n 0, 1) := by decide +kernel
theorem dX11_saw_6 : decode cX11_saw 6 = .ok (.iload_n 1, 1) := by decide +kernel
theorem dX11_saw_7 : decode cX11_saw 7 = .ok (.invokevirtual 293, 3) := by decide +kernel
theorem dX11_saw_10 : decode cX11_saw 10 = .ok (.ifCond .eq 28, 3) := by decide +kernel
theorem dX11_saw_13 : decode cX11_saw 13 = .ok (.iload_n 2, 1) := by decide +kernel
theorem dX11_saw_14 : decode cX11_saw 14 = .ok (.i2l, 1) := by decide +kernel
theorem dX11_saw_15 : decode cX11_saw 15 = .ok (.lconst 1, 1) := by decide +kernel
theorem dX11_saw_16 : decode cX11_saw 16 = .ok (.ldc2_w 376, 3) := by decide +kernel
theorem dX11_saw_19 : decode cX11_saw 19 = .ok (.invokestatic 219, 3) := by decide +kernel
theorem dX11_saw_22 : decode cX11_saw 22 = .ok (.ifCond .eq 16, 3) := by decide +kernel
theorem dX11_saw_25 : decode cX11_saw 25 = .ok (.aload_n 0, 1) := by decide +kernel
theorem dX11_saw_26 : decode cX11_saw 26 = .ok (.getfield 43, 3) := by decide +kernel
theorem dX11_saw_29 : decode cX11_saw 29 = .ok (.iload_n 1, 1) := by decide +kernel
theorem dX11_saw_30 : decode cX11_saw 30 = .ok (.iaload, 1) := by decide +kernel
theorem dX11_saw_31 : decode cX11_saw 31 = .ok (.iload_n 2, 1) := by decide +kernel
theorem dX11_saw_32 : decode cX11_saw 32 = .ok (.iadd, 1) := by decide +kernel
theorem dX11_saw_33 : decode cX11_saw 33 = .ok (.bipush 99, 2) := by decide +kernel
theorem dX11_saw_35 : decode cX11_saw 35 = .ok (.if_icmp .le 5, 3) := by decide +kernel
theorem dX11_saw_38 : decode cX11_saw 38 = .ok (.iconst (-1), 1) := by decide +kernel
theorem dX11_saw_39 : decode cX11_saw 39 = .ok (.ireturn, 1) := by decide +kernel
theorem dX11_saw_40 : decode cX11_saw 40 = .ok (.aload_n 0, 1) := by decide +kernel
theorem dX11_saw_41 : decode cX11_saw 41 = .ok (.invokevirtual 411, 3) := by decide +kernel
theorem dX11_saw_44 : decode cX11_saw 44 = .ok (.aload_n 0, 1) := by decide +kernel
theorem dX11_saw_45 : decode cX11_saw 45 = .ok (.getfield 43, 3) := by decide +kernel
theorem dX11_saw_48 : decode cX11_saw 48 = .ok (.iload_n 1, 1) := by decide +kernel
theorem dX11_saw_49 : decode cX11_saw 49 = .ok (.dup2, 1) := by decide +kernel
theorem dX11_saw_50 : decode cX11_saw 50 = .ok (.iaload, 1) := by decide +kernel
theorem dX11_saw_51 : decode cX11_saw 51 = .ok (.iload_n 2, 1) := by decide +kernel
theorem dX11_saw_52 : decode cX11_saw 52 = .ok (.iadd, 1) := by decide +kernel
theorem dX11_saw_53 : decode cX11_saw 53 = .ok (.iastore, 1) := by decide +kernel
theorem dX11_saw_54 : decode cX11_saw 54 = .ok (.aload_n 0, 1) := by decide +kernel
theorem dX11_saw_55 : decode cX11_saw 55 = .ok (.getfield 284, 3) := by decide +kernel
theorem dX11_saw_58 : decode cX11_saw 58 = .ok (.ireturn, 1) := by decide +kernel
theorem dX11_heap_0 : decode cX11_heap 0 = .ok (.aload_n 0, 1) := by decide +kernel
theorem dX11_heap_1 : decode cX11_heap 1 = .ok (.iconst 0, 1) := by decide +kernel
theorem dX11_heap_2 : decode cX11_heap 2 = .ok (.putfield 95, 3) := by decide +kernel
theorem dX11_heap_5 : decode cX11_heap 5 = .ok (.aload_n 0, 1) := by decide +kernel
theorem dX11_heap_6 : decode cX11_heap 6 = .ok (.iload_n 1, 1) := by decide +kernel
theorem dX11_heap_7 : decode cX11_heap 7 = .ok (.invokevirtual 290, 3) := by decide +kernel
theorem dX11_heap_10 : decode cX11_heap 10 = .ok (.ifCond .eq 25, 3) := by decide +kernel
theorem dX11_heap_13 : decode cX11_heap 13 = .ok (.iload_n 2, 1) := by decide +kernel
theorem dX11_heap_14 : decode cX11_heap 14 = .ok (.i2l, 1) := by decide +kernel
theorem dX11_heap_15 : decode cX11_heap 15 = .ok (.lconst 0, 1) := by decide +kernel
theorem dX11_heap_16 : decode cX11_heap 16 = .ok (.ldc2_w 376, 3) := by decide +kernel
theorem dX11_heap_19 : decode cX11_heap 19 = .ok (.invokestatic 219, 3) := by decide +kernel
theorem dX11_heap_22 : decode cX11_heap 22 = .ok (.ifCond .eq 13, 3) := by decide +kernel
theorem dX11_heap_25 : decode cX11_heap 25 = .ok (.aload_n 0, 1) := by decide +kernel
theorem dX11_heap_26 : decode cX11_heap 26 = .ok (.getfield 37, 3) := by decide +kernel
theorem dX11_heap_29 : decode cX11_heap 29 = .ok (.iload_n 1, 1) := by decide +kernel
theorem dX11_heap_30 : decode cX11_heap 30 = .ok (.iaload, 1) := by decide +kernel
theorem dX11_heap_31 : decode cX11_heap 31 = .ok (.iload_n 2, 1) := by decide +kernel
theorem dX11_heap_32 : decode cX11_heap 32 = .ok (.if_icmp .ne 5, 3) := by decide +kernel
theorem dX11_heap_35 : decode cX11_heap 35 = .ok (.iconst (-1), 1) := by decide +kernel
theorem dX11_heap_36 : decode cX11_heap 36 = .ok (.ireturn, 1) := by decide +kernel
theorem dX11_heap_37 : decode cX11_heap 37 = .ok (.aload_n 0, 1) := by decide +kernel
theorem dX11_heap_38 : decode cX11_heap 38 = .ok (.invokevirtual 411, 3) := by decide +kernel
theorem dX11_heap_41 : decode cX11_heap 41 = .ok (.aload_n 0, 1) := by decide +kernel
theorem dX11_heap_42 : decode cX11_heap 42 = .ok (.getfield 37, 3) := by decide +kernel
theorem dX11_heap_45 : decode cX11_heap 45 = .ok (.iload_n 1, 1) := by decide +kernel
theorem dX11_heap_46 : decode cX11_heap 46 = .ok (.iload_n 2, 1) := by decide +kernel
theorem dX11_heap_47 : decode cX11_heap 47 = .ok (.iastore, 1) := by decide +kernel
theorem dX11_heap_48 : decode cX11_heap 48 = .ok (.aload_n 0, 1) := by decide +kernel
theorem dX11_heap_49 : decode cX11_heap 49 = .ok (.getfield 284, 3) := by decide +kernel
theorem dX11_heap_52 : decode cX11_heap 52 = .ok (.ireturn, 1) := by decide +kernel
theorem dX11_drawn_0 : decode cX11_drawn 0 = .ok (.aload_n 0, 1) := by decide +kernel
theorem dX11_drawn_1 : decode cX11_drawn 1 = .ok (.iconst 0, 1) := by decide +kernel
theorem dX11_drawn_2 : decode cX11_drawn 2 = .ok (.putfield 95, 3) := by decide +kernel
theorem dX11_drawn_5 : decode cX11_drawn 5 = .ok (.aload_n 0, 1) := by decide +kernel
theorem dX11_drawn_6 : decode cX11_drawn 6 = .ok (.getfield 272, 3) := by decide +kernel
theorem dX11_drawn_9 : decode cX11_drawn 9 = .ok (.ifCond .eq 15, 3) := by decide +kernel
theorem dX11_drawn_12 : decode cX11_drawn 12 = .ok (.iload_n 3, 1) := by decide +kernel
theorem dX11_drawn_13 : decode cX11_drawn 13 = .ok (.i2l, 1) := by decide +kernel
theorem dX11_drawn_14 : decode cX11_drawn 14 = .ok (.lconst 0, 1) := by decide +kernel
theorem dX11_drawn_15 : decode cX11_drawn 15 = .ok (.ldc2_w 376, 3) := by decide +kernel
theorem dX11_drawn_18 : decode cX11_drawn 18 = .ok (.invokestatic 219, 3) := by decide +kernel
theorem dX11_drawn_21 : decode cX11_drawn 21 = .ok (.ifCond .ne 5, 3) := by decide +kernel
theorem dX11_drawn_24 : decode cX11_drawn 24 = .ok (.iconst (-1), 1) := by decide +kernel
theorem dX11_drawn_25 : decode cX11_drawn 25 = .ok (.ireturn, 1) := by decide +kernel
theorem dX11_drawn_26 : decode cX11_drawn 26 = .ok (.aload_n 0, 1) := by decide +kernel
theorem dX11_drawn_27 : decode cX11_drawn 27 = .ok (.invokevirtual 411, 3) := by decide +kernel
theorem dX11_drawn_30 : decode cX11_drawn 30 = .ok (.lload_n 1, 1) := by decide +kernel
theorem dX11_drawn_31 : decode cX11_drawn 31 = .ok (.lstore 4, 2) := by decide +kernel
theorem dX11_drawn_33 : decode cX11_drawn 33 = .ok (.iconst 0, 1) := by decide +kernel
theorem dX11_drawn_34 : decode cX11_drawn 34 = .ok (.istore 6, 2) := by decide +kernel
theorem dX11_drawn_36 : decode cX11_drawn 36 = .ok (.iload 6, 2) := by decide +kernel
theorem dX11_drawn_38 : decode cX11_drawn 38 = .ok (.aload_n 0, 1) := by decide +kernel
theorem dX11_drawn_39 : decode cX11_drawn 39 = .ok (.getfield 272, 3) := by decide +kernel
theorem dX11_drawn_42 : decode cX11_drawn 42 = .ok (.if_icmp .ge 39, 3) := by decide +kernel
theorem dX11_drawn_45 : decode cX11_drawn 45 = .ok (.lload 4, 2) := by decide +kernel
theorem dX11_drawn_47 : decode cX11_drawn 47 = .ok (.ldc2_w 391, 3) := by decide +kernel
theorem dX11_drawn_50 : decode cX11_drawn 50 = .ok (.lmul, 1) := by decide +kernel
theorem dX11_drawn_51 : decode cX11_drawn 51 = .ok (.ldc2_w 393, 3) := by decide +kernel
theorem dX11_drawn_54 : decode cX11_drawn 54 = .ok (.ladd, 1) := by decide +kernel
theorem dX11_drawn_55 : decode cX11_drawn 55 = .ok (.lstore 4, 2) := by decide +kernel
theorem dX11_drawn_57 : decode cX11_drawn 57 = .ok (.aload_n 0, 1) := by decide +kernel
theorem dX11_drawn_58 : decode cX11_drawn 58 = .ok (.getfield 37, 3) := by decide +kernel
theorem dX11_drawn_61 : decode cX11_drawn 61 = .ok (.iload 6, 2) := by decide +kernel
theorem dX11_drawn_63 : decode cX11_drawn 63 = .ok (.lload 4, 2) := by decide +kernel
theorem dX11_drawn_65 : decode cX11_drawn 65 = .ok (.bipush 33, 2) := by decide +kernel
theorem dX11_drawn_67 : decode cX11_drawn 67 = .ok (.lushr, 1) := by decide +kernel
theorem dX11_drawn_68 : decode cX11_drawn 68 = .ok (.iload_n 3, 1) := by decide +kernel
theorem dX11_drawn_69 : decode cX11_drawn 69 = .ok (.iconst 1, 1) := by decide +kernel
theorem dX11_drawn_70 : decode cX11_drawn 70 = .ok (.iadd, 1) := by decide +kernel
theorem dX11_drawn_71 : decode cX11_drawn 71 = .ok (.i2l, 1) := by decide +kernel
theorem dX11_drawn_72 : decode cX11_drawn 72 = .ok (.lrem, 1) := by decide +kernel
theorem dX11_drawn_73 : decode cX11_drawn 73 = .ok (.l2i, 1) := by decide +kernel
theorem dX11_drawn_74 : decode cX11_drawn 74 = .ok (.iastore, 1) := by decide +kernel
theorem dX11_drawn_75 : decode cX11_drawn 75 = .ok (.iinc 6 1, 3) := by decide +kernel
theorem dX11_drawn_78 : decode cX11_drawn 78 = .ok (.goto (-42), 3) := by decide +kernel
theorem dX11_drawn_81 : decode cX11_drawn 81 = .ok (.aload_n 0, 1) := by decide +kernel
theorem dX11_drawn_82 : decode cX11_drawn 82 = .ok (.getfield 284, 3) := by decide +kernel
theorem dX11_drawn_85 : decode cX11_drawn 85 = .ok (.ireturn, 1) := by decide +kernel
theorem dX11_undo_0 : decode cX11_undo 0 = .ok (.aload_n 0, 1) := by decide +kernel
theorem dX11_undo_1 : decode cX11_undo 1 = .ok (.iconst 0, 1) := by decide +kernel
theorem dX11_undo_2 : decode cX11_undo 2 = .ok (.putfield 95, 3) := by decide +kernel
theorem dX11_undo_5 : decode cX11_undo 5 = .ok (.aload_n 0, 1) := by decide +kernel
theorem dX11_undo_6 : decode cX11_undo 6 = .ok (.getfield 284, 3) := by decide +kernel
theorem dX11_undo_9 : decode cX11_undo 9 = .ok (.ifCond .ne 5, 3) := by decide +kernel
theorem dX11_undo_12 : decode cX11_undo 12 = .ok (.iconst (-1), 1) := by decide +kernel
theorem dX11_undo_13 : decode cX11_undo 13 = .ok (.ireturn, 1) := by decide +kernel
theorem dX11_undo_14 : decode cX11_undo 14 = .ok (.aload_n 0, 1) := by decide +kernel
theorem dX11_undo_15 : decode cX11_undo 15 = .ok (.dup, 1) := by decide +kernel
theorem dX11_undo_16 : decode cX11_undo 16 = .ok (.getfield 284, 3) := by decide +kernel
theorem dX11_undo_19 : decode cX11_undo 19 = .ok (.iconst 1, 1) := by decide +kernel
theorem dX11_undo_20 : decode cX11_undo 20 = .ok (.isub, 1) := by decide +kernel
theorem dX11_undo_21 : decode cX11_undo 21 = .ok (.putfield 284, 3) := by decide +kernel
theorem dX11_undo_24 : decode cX11_undo 24 = .ok (.bipush 28, 2) := by decide +kernel
theorem dX11_undo_26 : decode cX11_undo 26 = .ok (.istore_n 1, 1) := by decide +kernel
theorem dX11_undo_27 : decode cX11_undo 27 = .ok (.iconst 0, 1) := by decide +kernel
theorem dX11_undo_28 : decode cX11_undo 28 = .ok (.istore_n 2, 1) := by decide +kernel
theorem dX11_undo_29 : decode cX11_undo 29 = .ok (.iload_n 2, 1) := by decide +kernel
theorem dX11_undo_30 : decode cX11_undo 30 = .ok (.bipush 24, 2) := by decide +kernel
theorem dX11_undo_32 : decode cX11_undo 32 = .ok (.if_icmp .ge 28, 3) := by decide +kernel
theorem dX11_undo_35 : decode cX11_undo 35 = .ok (.aload_n 0, 1) := by decide +kernel
theorem dX11_undo_36 : decode cX11_undo 36 = .ok (.getfield 37, 3) := by decide +kernel
theorem dX11_undo_39 : decode cX11_undo 39 = .ok (.iload_n 2, 1) := by decide +kernel
theorem dX11_undo_40 : decode cX11_undo 40 = .ok (.aload_n 0, 1) := by decide +kernel
theorem dX11_undo_41 : decode cX11_undo 41 = .ok (.getfield 86, 3) := by decide +kernel
theorem dX11_undo_44 : decode cX11_undo 44 = .ok (.iload_n 1, 1) := by decide +kernel
theorem dX11_undo_45 : decode cX11_undo 45 = .ok (.aload_n 0, 1) := by decide +kernel
theorem dX11_undo_46 : decode cX11_undo 46 = .ok (.getfield 284, 3) := by decide +kernel
theorem dX11_undo_49 : decode cX11_undo 49 = .ok (.imul, 1) := by decide +kernel
theorem dX11_undo_50 : decode cX11_undo 50 = .ok (.iload_n 2, 1) := by decide +kernel
theorem dX11_undo_51 : decode cX11_undo 51 = .ok (.iadd, 1) := by decide +kernel
theorem dX11_undo_52 : decode cX11_undo 52 = .ok (.iaload, 1) := by decide +kernel
theorem dX11_undo_53 : decode cX11_undo 53 = .ok (.iastore, 1) := by decide +kernel
theorem dX11_undo_54 : decode cX11_undo 54 = .ok (.iinc 2 1, 3) := by decide +kernel
theorem dX11_undo_57 : decode cX11_undo 57 = .ok (.goto (-28), 3) := by decide +kernel
theorem dX11_undo_60 : decode cX11_undo 60 = .ok (.iconst 0, 1) := by decide +kernel
theorem dX11_undo_61 : decode cX11_undo 61 = .ok (.istore_n 2, 1) := by decide +kernel
theorem dX11_undo_62 : decode cX11_undo 62 = .ok (.iload_n 2, 1) := by decide +kernel
theorem dX11_undo_63 : decode cX11_undo 63 = .ok (.iconst 4, 1) := by decide +kernel
theorem dX11_undo_64 : decode cX11_undo 64 = .ok (.if_icmp .ge 31, 3) := by decide +kernel
theorem dX11_undo_67 : decode cX11_undo 67 = .ok (.aload_n 0, 1) := by decide +kernel
theorem dX11_undo_68 : decode cX11_undo 68 = .ok (.getfield 43, 3) := by decide +kernel
theorem dX11_undo_71 : decode cX11_undo 71 = .ok (.iload_n 2, 1) := by decide +kernel
theorem dX11_undo_72 : decode cX11_undo 72 = .ok (.aload_n 0, 1) := by decide +kernel
theorem dX11_undo_73 : decode cX11_undo 73 = .ok (.getfield 86, 3) := by decide +kernel
theorem dX11_undo_76 : decode cX11_undo 76 = .ok (.iload_n 1, 1) := by decide +kernel
theorem dX11_undo_77 : decode cX11_undo 77 = .ok (.aload_n 0, 1) := by decide +kernel
theorem dX11_undo_78 : decode cX11_undo 78 = .ok (.getfield 284, 3) := by decide +kernel
theorem dX11_undo_81 : decode cX11_undo 81 = .ok (.imul, 1) := by decide +kernel
theorem dX11_undo_82 : decode cX11_undo 82 = .ok (.bipush 24, 2) := by decide +kernel
theorem dX11_undo_84 : decode cX11_undo 84 = .ok (.iadd, 1) := by decide +kernel
theorem dX11_undo_85 : decode cX11_undo 85 = .ok (.iload_n 2, 1) := by decide +kernel
theorem dX11_undo_86 : decode cX11_undo 86 = .ok (.iadd, 1) := by decide +kernel
theorem dX11_undo_87 : decode cX11_undo 87 = .ok (.iaload, 1) := by decide +kernel
theorem dX11_undo_88 : decode cX11_undo 88 = .ok (.iastore, 1) := by decide +kernel
theorem dX11_undo_89 : decode cX11_undo 89 = .ok (.iinc 2 1, 3) := by decide +kernel
theorem dX11_undo_92 : decode cX11_undo 92 = .ok (.goto (-30), 3) := by decide +kernel
theorem dX11_undo_95 : decode cX11_undo 95 = .ok (.aload_n 0, 1) := by decide +kernel
theorem dX11_undo_96 : decode cX11_undo 96 = .ok (.getfield 284, 3) := by decide +kernel
theorem dX11_undo_99 : decode cX11_undo 99 = .ok (.ireturn, 1) := by decide +kernel
theorem dX11_image_0 : decode cX11_image 0 = .ok (.aload_n 0, 1) := by decide +kernel
theorem dX11_image_1 : decode cX11_image 1 = .ok (.iconst 0, 1) := by decide +kernel
theorem dX11_image_2 : decode cX11_image 2 = .ok (.putfield 95, 3) := by decide +kernel
theorem dX11_image_5 : decode cX11_image 5 = .ok (.aload_n 0, 1) := by decide +kernel
theorem dX11_image_6 : decode cX11_image 6 = .ok (.getfield 272, 3) := by decide +kernel
theorem dX11_image_9 : decode cX11_image 9 = .ok (.ifCond .ne 5, 3) := by decide +kernel
theorem dX11_image_12 : decode cX11_image 12 = .ok (.iconst (-1), 1) := by decide +kernel
theorem dX11_image_13 : decode cX11_image 13 = .ok (.ireturn, 1) := by decide +kernel
theorem dX11_image_14 : decode cX11_image 14 = .ok (.iconst 0, 1) := by decide +kernel
theorem dX11_image_15 : decode cX11_image 15 = .ok (.istore_n 1, 1) := by decide +kernel
theorem dX11_image_16 : decode cX11_image 16 = .ok (.iload_n 1, 1) := by decide +kernel
theorem dX11_image_17 : decode cX11_image 17 = .ok (.bipush 24, 2) := by decide +kernel
theorem dX11_image_19 : decode cX11_image 19 = .ok (.if_icmp .ge 21, 3) := by decide +kernel
theorem dX11_image_22 : decode cX11_image 22 = .ok (.aload_n 0, 1) := by decide +kernel
theorem dX11_image_23 : decode cX11_image 23 = .ok (.getfield 89, 3) := by decide +kernel
theorem dX11_image_26 : decode cX11_image 26 = .ok (.iload_n 1, 1) := by decide +kernel
theorem dX11_image_27 : decode cX11_image 27 = .ok (.aload_n 0, 1) := by decide +kernel
theorem dX11_image_28 : decode cX11_image 28 = .ok (.getfield 37, 3) := by decide +kernel
theorem dX11_image_31 : decode cX11_image 31 = .ok (.iload_n 1, 1) := by decide +kernel
theorem dX11_image_32 : decode cX11_image 32 = .ok (.iaload, 1) := by decide +kernel
theorem dX11_image_33 : decode cX11_image 33 = .ok (.iastore, 1) := by decide +kernel
theorem dX11_image_34 : decode cX11_image 34 = .ok (.iinc 1 1, 3) := by decide +kernel
theorem dX11_image_37 : decode cX11_image 37 = .ok (.goto (-21), 3) := by decide +kernel
theorem dX11_image_40 : decode cX11_image 40 = .ok (.iconst 0, 1) := by decide +kernel
theorem dX11_image_41 : decode cX11_image 41 = .ok (.istore_n 1, 1) := by decide +kernel
theorem dX11_image_42 : decode cX11_image 42 = .ok (.iload_n 1, 1) := by decide +kernel
theorem dX11_image_43 : decode cX11_image 43 = .ok (.iconst 4, 1) := by decide +kernel
theorem dX11_image_44 : decode cX11_image 44 = .ok (.if_icmp .ge 21, 3) := by decide +kernel
theorem dX11_image_47 : decode cX11_image 47 = .ok (.aload_n 0, 1) := by decide +kernel
theorem dX11_image_48 : decode cX11_image 48 = .ok (.getfield 92, 3) := by decide +kernel
theorem dX11_image_51 : decode cX11_image 51 = .ok (.iload_n 1, 1) := by decide +kernel
theorem dX11_image_52 : decode cX11_image 52 = .ok (.aload_n 0, 1) := by decide +kernel
theorem dX11_image_53 : decode cX11_image 53 = .ok (.getfield 43, 3) := by decide +kernel
theorem dX11_image_56 : decode cX11_image 56 = .ok (.iload_n 1, 1) := by decide +kernel
theorem dX11_image_57 : decode cX11_image 57 = .ok (.iaload, 1) := by decide +kernel
theorem dX11_image_58 : decode cX11_image 58 = .ok (.iastore, 1) := by decide +kernel
theorem dX11_image_59 : decode cX11_image 59 = .ok (.iinc 1 1, 3) := by decide +kernel
theorem dX11_image_62 : decode cX11_image 62 = .ok (.goto (-20), 3) := by decide +kernel
theorem dX11_image_65 : decode cX11_image 65 = .ok (.aload_n 0, 1) := by decide +kernel
theorem dX11_image_66 : decode cX11_image 66 = .ok (.iconst 1, 1) := by decide +kernel
theorem dX11_image_67 : decode cX11_image 67 = .ok (.putfield 287, 3) := by decide +kernel
theorem dX11_image_70 : decode cX11_image 70 = .ok (.aload_n 0, 1) := by decide +kernel
theorem dX11_image_71 : decode cX11_image 71 = .ok (.getfield 272, 3) := by decide +kernel
theorem dX11_image_74 : decode cX11_image 74 = .ok (.ireturn, 1) := by decide +kernel
theorem dX11_back_0 : decode cX11_back 0 = .ok (.aload_n 0, 1) := by decide +kernel
theorem dX11_back_1 : decode cX11_back 1 = .ok (.iconst 0, 1) := by decide +kernel
theorem dX11_back_2 : decode cX11_back 2 = .ok (.putfield 95, 3) := by decide +kernel
theorem dX11_back_5 : decode cX11_back 5 = .ok (.aload_n 0, 1) := by decide +kernel
theorem dX11_back_6 : decode cX11_back 6 = .ok (.getfield 287, 3) := by decide +kernel
theorem dX11_back_9 : decode cX11_back 9 = .ok (.ifCond .ne 5, 3) := by decide +kernel
theorem dX11_back_12 : decode cX11_back 12 = .ok (.iconst (-1), 1) := by decide +kernel
theorem dX11_back_13 : decode cX11_back 13 = .ok (.ireturn, 1) := by decide +kernel
theorem dX11_back_14 : decode cX11_back 14 = .ok (.iconst 0, 1) := by decide +kernel
theorem dX11_back_15 : decode cX11_back 15 = .ok (.istore_n 1, 1) := by decide +kernel
theorem dX11_back_16 : decode cX11_back 16 = .ok (.iload_n 1, 1) := by decide +kernel
theorem dX11_back_17 : decode cX11_back 17 = .ok (.bipush 24, 2) := by decide +kernel
theorem dX11_back_19 : decode cX11_back 19 = .ok (.if_icmp .ge 21, 3) := by decide +kernel
theorem dX11_back_22 : decode cX11_back 22 = .ok (.aload_n 0, 1) := by decide +kernel
theorem dX11_back_23 : decode cX11_back 23 = .ok (.getfield 37, 3) := by decide +kernel
theorem dX11_back_26 : decode cX11_back 26 = .ok (.iload_n 1, 1) := by decide +kernel
theorem dX11_back_27 : decode cX11_back 27 = .ok (.aload_n 0, 1) := by decide +kernel
theorem dX11_back_28 : decode cX11_back 28 = .ok (.getfield 89, 3) := by decide +kernel
theorem dX11_back_31 : decode cX11_back 31 = .ok (.iload_n 1, 1) := by decide +kernel
theorem dX11_back_32 : decode cX11_back 32 = .ok (.iaload, 1) := by decide +kernel
theorem dX11_back_33 : decode cX11_back 33 = .ok (.iastore, 1) := by decide +kernel
theorem dX11_back_34 : decode cX11_back 34 = .ok (.iinc 1 1, 3) := by decide +kernel
theorem dX11_back_37 : decode cX11_back 37 = .ok (.goto (-21), 3) := by decide +kernel
theorem dX11_back_40 : decode cX11_back 40 = .ok (.iconst 0, 1) := by decide +kernel
theorem dX11_back_41 : decode cX11_back 41 = .ok (.istore_n 1, 1) := by decide +kernel
theorem dX11_back_42 : decode cX11_back 42 = .ok (.iload_n 1, 1) := by decide +kernel
theorem dX11_back_43 : decode cX11_back 43 = .ok (.iconst 4, 1) := by decide +kernel
theorem dX11_back_44 : decode cX11_back 44 = .ok (.if_icmp .ge 21, 3) := by decide +kernel
theorem dX11_back_47 : decode cX11_back 47 = .ok (.aload_n 0, 1) := by decide +kernel
theorem dX11_back_48 : decode cX11_back 48 = .ok (.getfield 43, 3) := by decide +kernel
theorem dX11_back_51 : decode cX11_back 51 = .ok (.iload_n 1, 1) := by decide +kernel
theorem dX11_back_52 : decode cX11_back 52 = .ok (.aload_n 0, 1) := by decide +kernel
theorem dX11_back_53 : decode cX11_back 53 = .ok (.getfield 92, 3) := by decide +kernel
theorem dX11_back_56 : decode cX11_back 56 = .ok (.iload_n 1, 1) := by decide +kernel
theorem dX11_back_57 : decode cX11_back 57 = .ok (.iaload, 1) := by decide +kernel
theorem dX11_back_58 : decode cX11_back 58 = .ok (.iastore, 1) := by decide +kernel
theorem dX11_back_59 : decode cX11_back 59 = .ok (.iinc 1 1, 3) := by decide +kernel
theorem dX11_back_62 : decode cX11_back 62 = .ok (.goto (-20), 3) := by decide +kernel
theorem dX11_back_65 : decode cX11_back 65 = .ok (.aload_n 0, 1) := by decide +kernel
theorem dX11_back_66 : decode cX11_back 66 = .ok (.iconst 0, 1) := by decide +kernel
theorem dX11_back_67 : decode cX11_back 67 = .ok (.putfield 284, 3) := by decide +kernel
theorem dX11_back_70 : decode cX11_back 70 = .ok (.aload_n 0, 1) := by decide +kernel
theorem dX11_back_71 : decode cX11_back 71 = .ok (.getfield 272, 3) := by decide +kernel
theorem dX11_back_74 : decode cX11_back 74 = .ok (.ireturn, 1) := by decide +kernel
theorem dX11_count_0 : decode cX11_count 0 = .ok (.aload_n 0, 1) := by decide +kernel
theorem dX11_count_1 : decode cX11_count 1 = .ok (.iconst 0, 1) := by decide +kernel
theorem dX11_count_2 : decode cX11_count 2 = .ok (.putfield 95, 3) := by decide +kernel
theorem dX11_count_5 : decode cX11_count 5 = .ok (.iload_n 1, 1) := by decide +kernel
theorem dX11_count_6 : decode cX11_count 6 = .ok (.tableswitch 108 0 7 #[46, 51, 67, 83, 88, 93, 98, 103], 46) := by decide +kernel
theorem dX11_count_52 : decode cX11_count 52 = .ok (.aload_n 0, 1) := by decide +kernel
theorem dX11_count_53 : decode cX11_count 53 = .ok (.getfield 272, 3) := by decide +kernel
theorem dX11_count_56 : decode cX11_count 56 = .ok (.ireturn, 1) := by decide +kernel
theorem dX11_count_57 : decode cX11_count 57 = .ok (.aload_n 0, 1) := by decide +kernel
theorem dX11_count_58 : decode cX11_count 58 = .ok (.getfield 272, 3) := by decide +kernel
theorem dX11_count_61 : decode cX11_count 61 = .ok (.ifCond .ne 7, 3) := by decide +kernel
theorem dX11_count_64 : decode cX11_count 64 = .ok (.iconst 0, 1) := by decide +kernel
theorem dX11_count_65 : decode cX11_count 65 = .ok (.goto 7, 3) := by decide +kernel
theorem dX11_count_68 : decode cX11_count 68 = .ok (.aload_n 0, 1) := by decide +kernel
theorem dX11_count_69 : decode cX11_count 69 = .ok (.getfield 278, 3) := by decide +kernel
theorem dX11_count_72 : decode cX11_count 72 = .ok (.ireturn, 1) := by decide +kernel
theorem dX11_count_73 : decode cX11_count 73 = .ok (.aload_n 0, 1) := by decide +kernel
theorem dX11_count_74 : decode cX11_count 74 = .ok (.getfield 272, 3) := by decide +kernel
theorem dX11_count_77 : decode cX11_count 77 = .ok (.ifCond .ne 7, 3) := by decide +kernel
theorem dX11_count_80 : decode cX11_count 80 = .ok (.iconst 0, 1) := by decide +kernel
theorem dX11_count_81 : decode cX11_count 81 = .ok (.goto 7, 3) := by decide +kernel
theorem dX11_count_84 : decode cX11_count 84 = .ok (.aload_n 0, 1) := by decide +kernel
theorem dX11_count_85 : decode cX11_count 85 = .ok (.getfield 275, 3) := by decide +kernel
theorem dX11_count_88 : decode cX11_count 88 = .ok (.ireturn, 1) := by decide +kernel
theorem dX11_count_89 : decode cX11_count 89 = .ok (.aload_n 0, 1) := by decide +kernel
theorem dX11_count_90 : decode cX11_count 90 = .ok (.getfield 267, 3) := by decide +kernel
theorem dX11_count_93 : decode cX11_count 93 = .ok (.ireturn, 1) := by decide +kernel
theorem dX11_count_94 : decode cX11_count 94 = .ok (.aload_n 0, 1) := by decide +kernel
theorem dX11_count_95 : decode cX11_count 95 = .ok (.getfield 112, 3) := by decide +kernel
theorem dX11_count_98 : decode cX11_count 98 = .ok (.ireturn, 1) := by decide +kernel
theorem dX11_count_99 : decode cX11_count 99 = .ok (.aload_n 0, 1) := by decide +kernel
theorem dX11_count_100 : decode cX11_count 100 = .ok (.getfield 55, 3) := by decide +kernel
theorem dX11_count_103 : decode cX11_count 103 = .ok (.ireturn, 1) := by decide +kernel
theorem dX11_count_104 : decode cX11_count 104 = .ok (.aload_n 0, 1) := by decide +kernel
theorem dX11_count_105 : decode cX11_count 105 = .ok (.getfield 281, 3) := by decide +kernel
theorem dX11_count_108 : decode cX11_count 108 = .ok (.ireturn, 1) := by decide +kernel
theorem dX11_count_109 : decode cX11_count 109 = .ok (.aload_n 0, 1) := by decide +kernel
theorem dX11_count_110 : decode cX11_count 110 = .ok (.getfield 284, 3) := by decide +kernel
theorem dX11_count_113 : decode cX11_count 113 = .ok (.ireturn, 1) := by decide +kernel
theorem dX11_count_114 : decode cX11_count 114 = .ok (.ldc_w 313, 3) := by decide +kernel
theorem dX11_count_117 : decode cX11_count 117 = .ok (.ireturn, 1) := by decide +kernel
theorem dL_height_0 : decode cL_height 0 = .ok (.aload_n 2, 1) := by decide +kernel
theorem dL_height_1 : decode cL_height 1 = .ok (.iconst 0, 1) := by decide +kernel
theorem dL_height_2 : decode cL_height 2 = .ok (.aload_n 0, 1) := by decide +kernel
theorem dL_height_3 : decode cL_height 3 = .ok (.iload_n 1, 1) := by decide +kernel
theorem dL_height_4 : decode cL_height 4 = .ok (.invokevirtual 7, 3) := by decide +kernel
theorem dL_height_7 : decode cL_height 7 = .ok (.i2l, 1) := by decide +kernel
theorem dL_height_8 : decode cL_height 8 = .ok (.lastore, 1) := by decide +kernel
theorem dL_height_9 : decode cL_height 9 = .ok (.goto 6, 3) := by decide +kernel
theorem dL_height_12 : decode cL_height 12 = .ok (.astore_n 3, 1) := by decide +kernel
theorem dL_height_13 : decode cL_height 13 = .ok (.iconst 1, 1) := by decide +kernel
theorem dL_height_14 : decode cL_height 14 = .ok (.ireturn, 1) := by decide +kernel
theorem dL_height_15 : decode cL_height 15 = .ok (.iconst 0, 1) := by decide +kernel
theorem dL_height_16 : decode cL_height 16 = .ok (.ireturn, 1) := by decide +kernel
theorem dL_law_0 : decode cL_law 0 = .ok (.new 8, 3) := by decide +kernel
theorem dL_law_3 : decode cL_law 3 = .ok (.dup, 1) := by decide +kernel
theorem dL_law_4 : decode cL_law 4 = .ok (.invokespecial 15, 3) := by decide +kernel
theorem dL_law_7 : decode cL_law 7 = .ok (.astore_n 1, 1) := by decide +kernel
theorem dL_law_8 : decode cL_law 8 = .ok (.new 16, 3) := by decide +kernel
theorem dL_law_11 : decode cL_law 11 = .ok (.dup, 1) := by decide +kernel
theorem dL_law_12 : decode cL_law 12 = .ok (.invokespecial 18, 3) := by decide +kernel
theorem dL_law_15 : decode cL_law 15 = .ok (.astore_n 2, 1) := by decide +kernel
theorem dL_law_16 : decode cL_law 16 = .ok (.iconst 1, 1) := by decide +kernel
theorem dL_law_17 : decode cL_law 17 = .ok (.newarray .long, 2) := by decide +kernel
theorem dL_law_19 : decode cL_law 19 = .ok (.astore_n 3, 1) := by decide +kernel
theorem dL_law_20 : decode cL_law 20 = .ok (.iconst 0, 1) := by decide +kernel
theorem dL_law_21 : decode cL_law 21 = .ok (.istore 4, 2) := by decide +kernel
theorem dL_law_23 : decode cL_law 23 = .ok (.iload 4, 2) := by decide +kernel
theorem dL_law_25 : decode cL_law 25 = .ok (.aload_n 0, 1) := by decide +kernel
theorem dL_law_26 : decode cL_law 26 = .ok (.arraylength, 1) := by decide +kernel
theorem dL_law_27 : decode cL_law 27 = .ok (.bipush 6, 2) := by decide +kernel
theorem dL_law_29 : decode cL_law 29 = .ok (.isub, 1) := by decide +kernel
theorem dL_law_30 : decode cL_law 30 = .ok (.if_icmp .gt 1511, 3) := by decide +kernel
theorem dL_law_33 : decode cL_law 33 = .ok (.aload_n 0, 1) := by decide +kernel
theorem dL_law_34 : decode cL_law 34 = .ok (.iload 4, 2) := by decide +kernel
theorem dL_law_36 : decode cL_law 36 = .ok (.iaload, 1) := by decide +kernel
theorem dL_law_37 : decode cL_law 37 = .ok (.bipush 63, 2) := by decide +kernel
theorem dL_law_39 : decode cL_law 39 = .ok (.iand, 1) := by decide +kernel
theorem dL_law_40 : decode cL_law 40 = .ok (.tableswitch 1495 0 38 #[172, 245, 270, 295, 320, 376, 401, 438, 463, 488, 513, 550, 576, 625, 650, 687, 700, 737, 774, 811, 848, 861, 886, 935, 972, 1009, 1034, 1059, 1120, 1145, 1238, 1263, 1288, 1325, 1362, 1431, 1444, 1457, 1470], 172) := by decide +kernel
theorem dL_law_212 : decode cL_law 212 = .ok (.aload_n 1, 1) := by decide +kernel
theorem dL_law_213 : decode cL_law 213 = .ok (.aload_n 0, 1) := by decide +kernel
theorem dL_law_214 : decode cL_law 214 = .ok (.iload 4, 2) := by decide +kernel
theorem dL_law_216 : decode cL_law 216 = .ok (.iconst 1, 1) := by decide +kernel
theorem dL_law_217 : decode cL_law 217 = .ok (.iadd, 1) := by decide +kernel
theorem dL_law_218 : decode cL_law 218 = .ok (.iaload, 1) := by decide +kernel
theorem dL_law_219 : decode cL_law 219 = .ok (.aload_n 0, 1) := by decide +kernel
theorem dL_law_220 : decode cL_law 220 = .ok (.iload 4, 2) := by decide +kernel
theorem dL_law_222 : decode cL_law 222 = .ok (.iconst 2, 1) := by decide +kernel
theorem dL_law_223 : decode cL_law 223 = .ok (.iadd, 1) := by decide +kernel
theorem dL_law_224 : decode cL_law 224 = .ok (.iaload, 1) := by decide +kernel
theorem dL_law_225 : decode cL_law 225 = .ok (.aload_n 0, 1) := by decide +kernel
theorem dL_law_226 : decode cL_law 226 = .ok (.iload 4, 2) := by decide +kernel
theorem dL_law_228 : decode cL_law 228 = .ok (.iconst 3, 1) := by decide +kernel
theorem dL_law_229 : decode cL_law 229 = .ok (.iadd, 1) := by decide +kernel
theorem dL_law_230 : decode cL_law 230 = .ok (.iaload, 1) := by decide +kernel
theorem dL_law_231 : decode cL_law 231 = .ok (.aload_n 0, 1) := by decide +kernel
theorem dL_law_232 : decode cL_law 232 = .ok (.iload 4, 2) := by decide +kernel
theorem dL_law_234 : decode cL_law 234 = .ok (.iconst 4, 1) := by decide +kernel
theorem dL_law_235 : decode cL_law 235 = .ok (.iadd, 1) := by decide +kernel
theorem dL_law_236 : decode cL_law 236 = .ok (.iaload, 1) := by decide +kernel
theorem dL_law_237 : decode cL_law 237 = .ok (.aload_n 0, 1) := by decide +kernel
theorem dL_law_238 : decode cL_law 238 = .ok (.iload 4, 2) := by decide +kernel
theorem dL_law_240 : decode cL_law 240 = .ok (.iconst 5, 1) := by decide +kernel
theorem dL_law_241 : decode cL_law 241 = .ok (.iadd, 1) := by decide +kernel
theorem dL_law_242 : decode cL_law 242 = .ok (.iaload, 1) := by decide +kernel
theorem dL_law_243 : decode cL_law 243 = .ok (.invokevirtual 19, 3) := by decide +kernel
theorem dL_law_246 : decode cL_law 246 = .ok (.aload_n 2, 1) := by decide +kernel
theorem dL_law_247 : decode cL_law 247 = .ok (.aload_n 0, 1) := by decide +kernel
theorem dL_law_248 : decode cL_law 248 = .ok (.iload 4, 2) := by decide +kernel
theorem dL_law_250 : decode cL_law 250 = .ok (.iconst 1, 1) := by decide +kernel
theorem dL_law_251 : decode cL_law 251 = .ok (.iadd, 1) := by decide +kernel
theorem dL_law_252 : decode cL_law 252 = .ok (.iaload, 1) := by decide +kernel
theorem dL_law_253 : decode cL_law 253 = .ok (.aload_n 0, 1) := by decide +kernel
theorem dL_law_254 : decode cL_law 254 = .ok (.iload 4, 2) := by decide +kernel
theorem dL_law_256 : decode cL_law 256 = .ok (.iconst 2, 1) := by decide +kernel
theorem dL_law_257 : decode cL_law 257 = .ok (.iadd, 1) := by decide +kernel
theorem dL_law_258 : decode cL_law 258 = .ok (.iaload, 1) := by decide +kernel
theorem dL_law_259 : decode cL_law 259 = .ok (.aload_n 0, 1) := by decide +kernel
theorem dL_law_260 : decode cL_law 260 = .ok (.iload 4, 2) := by decide +kernel
theorem dL_law_262 : decode cL_law 262 = .ok (.iconst 3, 1) := by decide +kernel
theorem dL_law_263 : decode cL_law 263 = .ok (.iadd, 1) := by decide +kernel
theorem dL_law_264 : decode cL_law 264 = .ok (.iaload, 1) := by decide +kernel
theorem dL_law_265 : decode cL_law 265 = .ok (.aload_n 0, 1) := by decide +kernel
theorem dL_law_266 : decode cL_law 266 = .ok (.iload 4, 2) := by decide +kernel
theorem dL_law_268 : decode cL_law 268 = .ok (.iconst 4, 1) := by decide +kernel
theorem dL_law_269 : decode cL_law 269 = .ok (.iadd, 1) := by decide +kernel
theorem dL_law_270 : decode cL_law 270 = .ok (.iaload, 1) := by decide +kernel
theorem dL_law_271 : decode cL_law 271 = .ok (.aload_n 0, 1) := by decide +kernel
theorem dL_law_272 : decode cL_law 272 = .ok (.iload 4, 2) := by decide +kernel
theorem dL_law_274 : decode cL_law 274 = .ok (.iconst 5, 1) := by decide +kernel
theorem dL_law_275 : decode cL_law 275 = .ok (.iadd, 1) := by decide +kernel
theorem dL_law_276 : decode cL_law 276 = .ok (.iaload, 1) := by decide +kernel
theorem dL_law_277 : decode cL_law 277 = .ok (.invokevirtual 23, 3) := by decide +kernel
theorem dL_law_280 : decode cL_law 280 = .ok (.if_icmp .eq 1255, 3) := by decide +kernel
theorem dL_law_283 : decode cL_law 283 = .ok (.iconst 0, 1) := by decide +kernel
theorem dL_law_284 : decode cL_law 284 = .ok (.ireturn, 1) := by decide +kernel
theorem dL_law_285 : decode cL_law 285 = .ok (.aload_n 1, 1) := by decide +kernel
theorem dL_law_286 : decode cL_law 286 = .ok (.aload_n 0, 1) := by decide +kernel
theorem dL_law_287 : decode cL_law 287 = .ok (.iload 4, 2) := by decide +kernel
theorem dL_law_289 : decode cL_law 289 = .ok (.iconst 1, 1) := by decide +kernel
theorem dL_law_290 : decode cL_law 290 = .ok (.iadd, 1) := by decide +kernel
theorem dL_law_291 : decode cL_law 291 = .ok (.iaload, 1) := by decide +kernel
theorem dL_law_292 : decode cL_law 292 = .ok (.invokevirtual 24, 3) := by decide +kernel
theorem dL_law_295 : decode cL_law 295 = .ok (.aload_n 2, 1) := by decide +kernel
theorem dL_law_296 : decode cL_law 296 = .ok (.aload_n 0, 1) := by decide +kernel
theorem dL_law_297 : decode cL_law 297 = .ok (.iload 4, 2) := by decide +kernel
theorem dL_law_299 : decode cL_law 299 = .ok (.iconst 1, 1) := by decide +kernel
theorem dL_law_300 : decode cL_law 300 = .ok (.iadd, 1) := by decide +kernel
theorem dL_law_301 : decode cL_law 301 = .ok (.iaload, 1) := by decide +kernel
theorem dL_law_302 : decode cL_law 302 = .ok (.invokevirtual 28, 3) := by decide +kernel
theorem dL_law_305 : decode cL_law 305 = .ok (.if_icmp .eq 1230, 3) := by decide +kernel
theorem dL_law_308 : decode cL_law 308 = .ok (.iconst 0, 1) := by decide +kernel
theorem dL_law_309 : decode cL_law 309 = .ok (.ireturn, 1) := by decide +kernel
theorem dL_law_310 : decode cL_law 310 = .ok (.aload_n 1, 1) := by decide +kernel
theorem dL_law_311 : decode cL_law 311 = .ok (.aload_n 0, 1) := by decide +kernel
theorem dL_law_312 : decode cL_law 312 = .ok (.iload 4, 2) := by decide +kernel
theorem dL_law_314 : decode cL_law 314 = .ok (.iconst 1, 1) := by decide +kernel
theorem dL_law_315 : decode cL_law 315 = .ok (.iadd, 1) := by decide +kernel
theorem dL_law_316 : decode cL_law 316 = .ok (.iaload, 1) := by decide +kernel
theorem dL_law_317 : decode cL_law 317 = .ok (.invokevirtual 29, 3) := by decide +kernel
theorem dL_law_320 : decode cL_law 320 = .ok (.aload_n 2, 1) := by decide +kernel
theorem dL_law_321 : decode cL_law 321 = .ok (.aload_n 0, 1) := by decide +kernel
theorem dL_law_322 : decode cL_law 322 = .ok (.iload 4, 2) := by decide +kernel
theorem dL_law_324 : decode cL_law 324 = .ok (.iconst 1, 1) := by decide +kernel
theorem dL_law_325 : decode cL_law 325 = .ok (.iadd, 1) := by decide +kernel
theorem dL_law_326 : decode cL_law 326 = .ok (.iaload, 1) := by decide +kernel
theorem dL_law_327 : decode cL_law 327 = .ok (.invokevirtual 32, 3) := by decide +kernel
theorem dL_law_330 : decode cL_law 330 = .ok (.if_icmp .eq 1205, 3) := by decide +kernel
theorem dL_law_333 : decode cL_law 333 = .ok (.iconst 0, 1) := by decide +kernel
theorem dL_law_334 : decode cL_law 334 = .ok (.ireturn, 1) := by decide +kernel
theorem dL_law_335 : decode cL_law 335 = .ok (.aload_n 1, 1) := by decide +kernel
theorem dL_law_336 : decode cL_law 336 = .ok (.aload_n 0, 1) := by decide +kernel
theorem dL_law_337 : decode cL_law 337 = .ok (.iload 4, 2) := by decide +kernel
theorem dL_law_339 : decode cL_law 339 = .ok (.iconst 1, 1) := by decide +kernel
theorem dL_law_340 : decode cL_law 340 = .ok (.iadd, 1) := by decide +kernel
theorem dL_law_341 : decode cL_law 341 = .ok (.iaload, 1) := by decide +kernel
theorem dL_law_342 : decode cL_law 342 = .ok (.invokevirtual 33, 3) := by decide +kernel
theorem dL_law_345 : decode cL_law 345 = .ok (.aload_n 2, 1) := by decide +kernel
theorem dL_law_346 : decode cL_law 346 = .ok (.aload_n 0, 1) := by decide +kernel
theorem dL_law_347 : decode cL_law 347 = .ok (.iload 4, 2) := by decide +kernel
theorem dL_law_349 : decode cL_law 349 = .ok (.iconst 1, 1) := by decide +kernel
theorem dL_law_350 : decode cL_law 350 = .ok (.iadd, 1) := by decide +kernel
theorem dL_law_351 : decode cL_law 351 = .ok (.iaload, 1) := by decide +kernel
theorem dL_law_352 : decode cL_law 352 = .ok (.invokevirtual 36, 3) := by decide +kernel
theorem dL_law_355 : decode cL_law 355 = .ok (.if_icmp .eq 1180, 3) := by decide +kernel
theorem dL_law_358 : decode cL_law 358 = .ok (.iconst 0, 1) := by decide +kernel
theorem dL_law_359 : decode cL_law 359 = .ok (.ireturn, 1) := by decide +kernel
theorem dL_law_360 : decode cL_law 360 = .ok (.aload_n 1, 1) := by decide +kernel
theorem dL_law_361 : decode cL_law 361 = .ok (.aload_n 0, 1) := by decide +kernel
theorem dL_law_362 : decode cL_law 362 = .ok (.iload 4, 2) := by decide +kernel
theorem dL_law_364 : decode cL_law 364 = .ok (.iconst 1, 1) := by decide +kernel
theorem dL_law_365 : decode cL_law 365 = .ok (.iadd, 1) := by decide +kernel
theorem dL_law_366 : decode cL_law 366 = .ok (.iaload, 1) := by decide +kernel
theorem dL_law_367 : decode cL_law 367 = .ok (.aload_n 3, 1) := by decide +kernel
theorem dL_law_368 : decode cL_law 368 = .ok (.invokestatic 37, 3) := by decide +kernel
theorem dL_law_371 : decode cL_law 371 = .ok (.istore 5, 2) := by decide +kernel
theorem dL_law_373 : decode cL_law 373 = .ok (.aload_n 2, 1) := by decide +kernel
theorem dL_law_374 : decode cL_law 374 = .ok (.aload_n 0, 1) := by decide +kernel
theorem dL_law_375 : decode cL_law 375 = .ok (.iload 4, 2) := by decide +kernel
theorem dL_law_377 : decode cL_law 377 = .ok (.iconst 1, 1) := by decide +kernel
theorem dL_law_378 : decode cL_law 378 = .ok (.iadd, 1) := by decide +kernel
theorem dL_law_379 : decode cL_law 379 = .ok (.iaload, 1) := by decide +kernel
theorem dL_law_380 : decode cL_law 380 = .ok (.invokevirtual 42, 3) := by decide +kernel
theorem dL_law_383 : decode cL_law 383 = .ok (.istore 6, 2) := by decide +kernel
theorem dL_law_385 : decode cL_law 385 = .ok (.aload_n 2, 1) := by decide +kernel
theorem dL_law_386 : decode cL_law 386 = .ok (.invokevirtual 43, 3) := by decide +kernel
theorem dL_law_389 : decode cL_law 389 = .ok (.iload 5, 2) := by decide +kernel
theorem dL_law_391 : decode cL_law 391 = .ok (.if_icmp .eq 5, 3) := by decide +kernel
theorem dL_law_394 : decode cL_law 394 = .ok (.iconst 0, 1) := by decide +kernel
theorem dL_law_395 : decode cL_law 395 = .ok (.ireturn, 1) := by decide +kernel
theorem dL_law_396 : decode cL_law 396 = .ok (.iload 5, 2) := by decide +kernel
theorem dL_law_398 : decode cL_law 398 = .ok (.ifCond .ne 15, 3) := by decide +kernel
theorem dL_law_401 : decode cL_law 401 = .ok (.aload_n 3, 1) := by decide +kernel
theorem dL_law_402 : decode cL_law 402 = .ok (.iconst 0, 1) := by decide +kernel
theorem dL_law_403 : decode cL_law 403 = .ok (.laload, 1) := by decide +kernel
theorem dL_law_404 : decode cL_law 404 = .ok (.iload 6, 2) := by decide +kernel
theorem dL_law_406 : decode cL_law 406 = .ok (.i2l, 1) := by decide +kernel
theorem dL_law_407 : decode cL_law 407 = .ok (.lcmp, 1) := by decide +kernel
theorem dL_law_408 : decode cL_law 408 = .ok (.ifCond .eq 5, 3) := by decide +kernel
theorem dL_law_411 : decode cL_law 411 = .ok (.iconst 0, 1) := by decide +kernel
theorem dL_law_412 : decode cL_law 412 = .ok (.ireturn, 1) := by decide +kernel
theorem dL_law_413 : decode cL_law 413 = .ok (.goto 1122, 3) := by decide +kernel
theorem dL_law_416 : decode cL_law 416 = .ok (.aload_n 1, 1) := by decide +kernel
theorem dL_law_417 : decode cL_law 417 = .ok (.aload_n 0, 1) := by decide +kernel
theorem dL_law_418 : decode cL_law 418 = .ok (.iload 4, 2) := by decide +kernel
theorem dL_law_420 : decode cL_law 420 = .ok (.iconst 1, 1) := by decide +kernel
theorem dL_law_421 : decode cL_law 421 = .ok (.iadd, 1) := by decide +kernel
theorem dL_law_422 : decode cL_law 422 = .ok (.iaload, 1) := by decide +kernel
theorem dL_law_423 : decode cL_law 423 = .ok (.invokevirtual 47, 3) := by decide +kernel
theorem dL_law_426 : decode cL_law 426 = .ok (.aload_n 2, 1) := by decide +kernel
theorem dL_law_427 : decode cL_law 427 = .ok (.aload_n 0, 1) := by decide +kernel
theorem dL_law_428 : decode cL_law 428 = .ok (.iload 4, 2) := by decide +kernel
theorem dL_law_430 : decode cL_law 430 = .ok (.iconst 1, 1) := by decide +kernel
theorem dL_law_431 : decode cL_law 431 = .ok (.iadd, 1) := by decide +kernel
theorem dL_law_432 : decode cL_law 432 = .ok (.iaload, 1) := by decide +kernel
theorem dL_law_433 : decode cL_law 433 = .ok (.invokevirtual 50, 3) := by decide +kernel
theorem dL_law_436 : decode cL_law 436 = .ok (.if_icmp .eq 1099, 3) := by decide +kernel
theorem dL_law_439 : decode cL_law 439 = .ok (.iconst 0, 1) := by decide +kernel
theorem dL_law_440 : decode cL_law 440 = .ok (.ireturn, 1) := by decide +kernel
theorem dL_law_441 : decode cL_law 441 = .ok (.aload_n 1, 1) := by decide +kernel
theorem dL_law_442 : decode cL_law 442 = .ok (.aload_n 0, 1) := by decide +kernel
theorem dL_law_443 : decode cL_law 443 = .ok (.iload 4, 2) := by decide +kernel
theorem dL_law_445 : decode cL_law 445 = .ok (.iconst 1, 1) := by decide +kernel
theorem dL_law_446 : decode cL_law 446 = .ok (.iadd, 1) := by decide +kernel
theorem dL_law_447 : decode cL_law 447 = .ok (.iaload, 1) := by decide +kernel
theorem dL_law_448 : decode cL_law 448 = .ok (.aload_n 0, 1) := by decide +kernel
theorem dL_law_449 : decode cL_law 449 = .ok (.iload 4, 2) := by decide +kernel
theorem dL_law_451 : decode cL_law 451 = .ok (.iconst 2, 1) := by decide +kernel
theorem dL_law_452 : decode cL_law 452 = .ok (.iadd, 1) := by decide +kernel
theorem dL_law_453 : decode cL_law 453 = .ok (.iaload, 1) := by decide +kernel
theorem dL_law_454 : decode cL_law 454 = .ok (.invokevirtual 51, 3) := by decide +kernel
theorem dL_law_457 : decode cL_law 457 = .ok (.aload_n 2, 1) := by decide +kernel
theorem dL_law_458 : decode cL_law 458 = .ok (.aload_n 0, 1) := by decide +kernel
theorem dL_law_459 : decode cL_law 459 = .ok (.iload 4, 2) := by decide +kernel
theorem dL_law_461 : decode cL_law 461 = .ok (.iconst 1, 1) := by decide +kernel
theorem dL_law_462 : decode cL_law 462 = .ok (.iadd, 1) := by decide +kernel
theorem dL_law_463 : decode cL_law 463 = .ok (.iaload, 1) := by decide +kernel
theorem dL_law_464 : decode cL_law 464 = .ok (.aload_n 0, 1) := by decide +kernel
theorem dL_law_465 : decode cL_law 465 = .ok (.iload 4, 2) := by decide +kernel
theorem dL_law_467 : decode cL_law 467 = .ok (.iconst 2, 1) := by decide +kernel
theorem dL_law_468 : decode cL_law 468 = .ok (.iadd, 1) := by decide +kernel
theorem dL_law_469 : decode cL_law 469 = .ok (.iaload, 1) := by decide +kernel
theorem dL_law_470 : decode cL_law 470 = .ok (.invokevirtual 55, 3) := by decide +kernel
theorem dL_law_473 : decode cL_law 473 = .ok (.if_icmp .eq 1062, 3) := by decide +kernel
theorem dL_law_476 : decode cL_law 476 = .ok (.iconst 0, 1) := by decide +kernel
theorem dL_law_477 : decode cL_law 477 = .ok (.ireturn, 1) := by decide +kernel
theorem dL_law_478 : decode cL_law 478 = .ok (.aload_n 1, 1) := by decide +kernel
theorem dL_law_479 : decode cL_law 479 = .ok (.aload_n 0, 1) := by decide +kernel
theorem dL_law_480 : decode cL_law 480 = .ok (.iload 4, 2) := by decide +kernel
theorem dL_law_482 : decode cL_law 482 = .ok (.iconst 1, 1) := by decide +kernel
theorem dL_law_483 : decode cL_law 483 = .ok (.iadd, 1) := by decide +kernel
theorem dL_law_484 : decode cL_law 484 = .ok (.iaload, 1) := by decide +kernel
theorem dL_law_485 : decode cL_law 485 = .ok (.invokevirtual 56, 3) := by decide +kernel
theorem dL_law_488 : decode cL_law 488 = .ok (.aload_n 2, 1) := by decide +kernel
theorem dL_law_489 : decode cL_law 489 = .ok (.aload_n 0, 1) := by decide +kernel
theorem dL_law_490 : decode cL_law 490 = .ok (.iload 4, 2) := by decide +kernel
theorem dL_law_492 : decode cL_law 492 = .ok (.iconst 1, 1) := by decide +kernel
theorem dL_law_493 : decode cL_law 493 = .ok (.iadd, 1) := by decide +kernel
theorem dL_law_494 : decode cL_law 494 = .ok (.iaload, 1) := by decide +kernel
theorem dL_law_495 : decode cL_law 495 = .ok (.invokevirtual 59, 3) := by decide +kernel
theorem dL_law_498 : decode cL_law 498 = .ok (.if_icmp .eq 1037, 3) := by decide +kernel
theorem dL_law_501 : decode cL_law 501 = .ok (.iconst 0, 1) := by decide +kernel
theorem dL_law_502 : decode cL_law 502 = .ok (.ireturn, 1) := by decide +kernel
theorem dL_law_503 : decode cL_law 503 = .ok (.aload_n 1, 1) := by decide +kernel
theorem dL_law_504 : decode cL_law 504 = .ok (.aload_n 0, 1) := by decide +kernel
theorem dL_law_505 : decode cL_law 505 = .ok (.iload 4, 2) := by decide +kernel
theorem dL_law_507 : decode cL_law 507 = .ok (.iconst 1, 1) := by decide +kernel
theorem dL_law_508 : decode cL_law 508 = .ok (.iadd, 1) := by decide +kernel
theorem dL_law_509 : decode cL_law 509 = .ok (.iaload, 1) := by decide +kernel
theorem dL_law_510 : decode cL_law 510 = .ok (.invokevirtual 60, 3) := by decide +kernel
theorem dL_law_513 : decode cL_law 513 = .ok (.aload_n 2, 1) := by decide +kernel
theorem dL_law_514 : decode cL_law 514 = .ok (.aload_n 0, 1) := by decide +kernel
theorem dL_law_515 : decode cL_law 515 = .ok (.iload 4, 2) := by decide +kernel
theorem dL_law_517 : decode cL_law 517 = .ok (.iconst 1, 1) := by decide +kernel
theorem dL_law_518 : decode cL_law 518 = .ok (.iadd, 1) := by decide +kernel
theorem dL_law_519 : decode cL_law 519 = .ok (.iaload, 1) := by decide +kernel
theorem dL_law_520 : decode cL_law 520 = .ok (.invokevirtual 63, 3) := by decide +kernel
theorem dL_law_523 : decode cL_law 523 = .ok (.if_icmp .eq 1012, 3) := by decide +kernel
theorem dL_law_526 : decode cL_law 526 = .ok (.iconst 0, 1) := by decide +kernel
theorem dL_law_527 : decode cL_law 527 = .ok (.ireturn, 1) := by decide +kernel
theorem dL_law_528 : decode cL_law 528 = .ok (.aload_n 1, 1) := by decide +kernel
theorem dL_law_529 : decode cL_law 529 = .ok (.aload_n 0, 1) := by decide +kernel
theorem dL_law_530 : decode cL_law 530 = .ok (.iload 4, 2) := by decide +kernel
theorem dL_law_532 : decode cL_law 532 = .ok (.iconst 1, 1) := by decide +kernel
theorem dL_law_533 : decode cL_law 533 = .ok (.iadd, 1) := by decide +kernel
theorem dL_law_534 : decode cL_law 534 = .ok (.iaload, 1) := by decide +kernel
theorem dL_law_535 : decode cL_law 535 = .ok (.invokevirtual 64, 3) := by decide +kernel
theorem dL_law_538 : decode cL_law 538 = .ok (.aload_n 2, 1) := by decide +kernel
theorem dL_law_539 : decode cL_law 539 = .ok (.aload_n 0, 1) := by decide +kernel
theorem dL_law_540 : decode cL_law 540 = .ok (.iload 4, 2) := by decide +kernel
theorem dL_law_542 : decode cL_law 542 = .ok (.iconst 1, 1) := by decide +kernel
theorem dL_law_543 : decode cL_law 543 = .ok (.iadd, 1) := by decide +kernel
theorem dL_law_544 : decode cL_law 544 = .ok (.iaload, 1) := by decide +kernel
theorem dL_law_545 : decode cL_law 545 = .ok (.invokevirtual 67, 3) := by decide +kernel
theorem dL_law_548 : decode cL_law 548 = .ok (.if_icmp .eq 987, 3) := by decide +kernel
theorem dL_law_551 : decode cL_law 551 = .ok (.iconst 0, 1) := by decide +kernel
theorem dL_law_552 : decode cL_law 552 = .ok (.ireturn, 1) := by decide +kernel
theorem dL_law_553 : decode cL_law 553 = .ok (.aload_n 1, 1) := by decide +kernel
theorem dL_law_554 : decode cL_law 554 = .ok (.aload_n 0, 1) := by decide +kernel
theorem dL_law_555 : decode cL_law 555 = .ok (.iload 4, 2) := by decide +kernel
theorem dL_law_557 : decode cL_law 557 = .ok (.iconst 1, 1) := by decide +kernel
theorem dL_law_558 : decode cL_law 558 = .ok (.iadd, 1) := by decide +kernel
theorem dL_law_559 : decode cL_law 559 = .ok (.iaload, 1) := by decide +kernel
theorem dL_law_560 : decode cL_law 560 = .ok (.aload_n 0, 1) := by decide +kernel
theorem dL_law_561 : decode cL_law 561 = .ok (.iload 4, 2) := by decide +kernel
theorem dL_law_563 : decode cL_law 563 = .ok (.iconst 2, 1) := by decide +kernel
theorem dL_law_564 : decode cL_law 564 = .ok (.iadd, 1) := by decide +kernel
theorem dL_law_565 : decode cL_law 565 = .ok (.iaload, 1) := by decide +kernel
theorem dL_law_566 : decode cL_law 566 = .ok (.invokevirtual 68, 3) := by decide +kernel
theorem dL_law_569 : decode cL_law 569 = .ok (.aload_n 2, 1) := by decide +kernel
theorem dL_law_570 : decode cL_law 570 = .ok (.aload_n 0, 1) := by decide +kernel
theorem dL_law_571 : decode cL_law 571 = .ok (.iload 4, 2) := by decide +kernel
theorem dL_law_573 : decode cL_law 573 = .ok (.iconst 1, 1) := by decide +kernel
theorem dL_law_574 : decode cL_law 574 = .ok (.iadd, 1) := by decide +kernel
theorem dL_law_575 : decode cL_law 575 = .ok (.iaload, 1) := by decide +kernel
theorem dL_law_576 : decode cL_law 576 = .ok (.aload_n 0, 1) := by decide +kernel
theorem dL_law_577 : decode cL_law 577 = .ok (.iload 4, 2) := by decide +kernel
theorem dL_law_579 : decode cL_law 579 = .ok (.iconst 2, 1) := by decide +kernel
theorem dL_law_580 : decode cL_law 580 = .ok (.iadd, 1) := by decide +kernel
theorem dL_law_581 : decode cL_law 581 = .ok (.iaload, 1) := by decide +kernel
theorem dL_law_582 : decode cL_law 582 = .ok (.invokevirtual 71, 3) := by decide +kernel
theorem dL_law_585 : decode cL_law 585 = .ok (.if_icmp .eq 950, 3) := by decide +kernel
theorem dL_law_588 : decode cL_law 588 = .ok (.iconst 0, 1) := by decide +kernel
theorem dL_law_589 : decode cL_law 589 = .ok (.ireturn, 1) := by decide +kernel
theorem dL_law_590 : decode cL_law 590 = .ok (.aload_n 1, 1) := by decide +kernel
theorem dL_law_591 : decode cL_law 591 = .ok (.aload_n 0, 1) := by decide +kernel
theorem dL_law_592 : decode cL_law 592 = .ok (.iload 4, 2) := by decide +kernel
theorem dL_law_594 : decode cL_law 594 = .ok (.iconst 1, 1) := by decide +kernel
theorem dL_law_595 : decode cL_law 595 = .ok (.iadd, 1) := by decide +kernel
theorem dL_law_596 : decode cL_law 596 = .ok (.iaload, 1) := by decide +kernel
theorem dL_law_597 : decode cL_law 597 = .ok (.invokevirtual 72, 3) := by decide +kernel
theorem dL_law_600 : decode cL_law 600 = .ok (.aload_n 2, 1) := by decide +kernel
theorem dL_law_601 : decode cL_law 601 = .ok (.aload_n 0, 1) := by decide +kernel
theorem dL_law_602 : decode cL_law 602 = .ok (.iload 4, 2) := by decide +kernel
theorem dL_law_604 : decode cL_law 604 = .ok (.iconst 1, 1) := by decide +kernel
theorem dL_law_605 : decode cL_law 605 = .ok (.iadd, 1) := by decide +kernel
theorem dL_law_606 : decode cL_law 606 = .ok (.iaload, 1) := by decide +kernel
theorem dL_law_607 : decode cL_law 607 = .ok (.invokevirtual 76, 3) := by decide +kernel
theorem dL_law_610 : decode cL_law 610 = .ok (.lcmp, 1) := by decide +kernel
theorem dL_law_611 : decode cL_law 611 = .ok (.ifCond .eq 924, 3) := by decide +kernel
theorem dL_law_614 : decode cL_law 614 = .ok (.iconst 0, 1) := by decide +kernel
theorem dL_law_615 : decode cL_law 615 = .ok (.ireturn, 1) := by decide +kernel
theorem dL_law_616 : decode cL_law 616 = .ok (.aload_n 1, 1) := by decide +kernel
theorem dL_law_617 : decode cL_law 617 = .ok (.aload_n 0, 1) := by decide +kernel
theorem dL_law_618 : decode cL_law 618 = .ok (.iload 4, 2) := by decide +kernel
theorem dL_law_620 : decode cL_law 620 = .ok (.iconst 1, 1) := by decide +kernel
theorem dL_law_621 : decode cL_law 621 = .ok (.iadd, 1) := by decide +kernel
theorem dL_law_622 : decode cL_law 622 = .ok (.iaload, 1) := by decide +kernel
theorem dL_law_623 : decode cL_law 623 = .ok (.aload_n 0, 1) := by decide +kernel
theorem dL_law_624 : decode cL_law 624 = .ok (.iload 4, 2) := by decide +kernel
theorem dL_law_626 : decode cL_law 626 = .ok (.iconst 2, 1) := by decide +kernel
theorem dL_law_627 : decode cL_law 627 = .ok (.iadd, 1) := by decide +kernel
theorem dL_law_628 : decode cL_law 628 = .ok (.iaload, 1) := by decide +kernel
theorem dL_law_629 : decode cL_law 629 = .ok (.aload_n 0, 1) := by decide +kernel
theorem dL_law_630 : decode cL_law 630 = .ok (.iload 4, 2) := by decide +kernel
theorem dL_law_632 : decode cL_law 632 = .ok (.iconst 3, 1) := by decide +kernel
theorem dL_law_633 : decode cL_law 633 = .ok (.iadd, 1) := by decide +kernel
theorem dL_law_634 : decode cL_law 634 = .ok (.iaload, 1) := by decide +kernel
theorem dL_law_635 : decode cL_law 635 = .ok (.invokevirtual 77, 3) := by decide +kernel
theorem dL_law_638 : decode cL_law 638 = .ok (.aload_n 2, 1) := by decide +kernel
theorem dL_law_639 : decode cL_law 639 = .ok (.aload_n 0, 1) := by decide +kernel
theorem dL_law_640 : decode cL_law 640 = .ok (.iload 4, 2) := by decide +kernel
theorem dL_law_642 : decode cL_law 642 = .ok (.iconst 1, 1) := by decide +kernel
theorem dL_law_643 : decode cL_law 643 = .ok (.iadd, 1) := by decide +kernel
theorem dL_law_644 : decode cL_law 644 = .ok (.iaload, 1) := by decide +kernel
theorem dL_law_645 : decode cL_law 645 = .ok (.aload_n 0, 1) := by decide +kernel
theorem dL_law_646 : decode cL_law 646 = .ok (.iload 4, 2) := by decide +kernel
theorem dL_law_648 : decode cL_law 648 = .ok (.iconst 2, 1) := by decide +kernel
theorem dL_law_649 : decode cL_law 649 = .ok (.iadd, 1) := by decide +kernel
theorem dL_law_650 : decode cL_law 650 = .ok (.iaload, 1) := by decide +kernel
theorem dL_law_651 : decode cL_law 651 = .ok (.aload_n 0, 1) := by decide +kernel
theorem dL_law_652 : decode cL_law 652 = .ok (.iload 4, 2) := by decide +kernel
theorem dL_law_654 : decode cL_law 654 = .ok (.iconst 3, 1) := by decide +kernel
theorem dL_law_655 : decode cL_law 655 = .ok (.iadd, 1) := by decide +kernel
theorem dL_law_656 : decode cL_law 656 = .ok (.iaload, 1) := by decide +kernel
theorem dL_law_657 : decode cL_law 657 = .ok (.invokevirtual 81, 3) := by decide +kernel
theorem dL_law_660 : decode cL_law 660 = .ok (.if_icmp .eq 875, 3) := by decide +kernel
theorem dL_law_663 : decode cL_law 663 = .ok (.iconst 0, 1) := by decide +kernel
theorem dL_law_664 : decode cL_law 664 = .ok (.ireturn, 1) := by decide +kernel
theorem dL_law_665 : decode cL_law 665 = .ok (.aload_n 1, 1) := by decide +kernel
theorem dL_law_666 : decode cL_law 666 = .ok (.aload_n 0, 1) := by decide +kernel
theorem dL_law_667 : decode cL_law 667 = .ok (.iload 4, 2) := by decide +kernel
theorem dL_law_669 : decode cL_law 669 = .ok (.iconst 1, 1) := by decide +kernel
theorem dL_law_670 : decode cL_law 670 = .ok (.iadd, 1) := by decide +kernel
theorem dL_law_671 : decode cL_law 671 = .ok (.iaload, 1) := by decide +kernel
theorem dL_law_672 : decode cL_law 672 = .ok (.invokevirtual 82, 3) := by decide +kernel
theorem dL_law_675 : decode cL_law 675 = .ok (.aload_n 2, 1) := by decide +kernel
theorem dL_law_676 : decode cL_law 676 = .ok (.aload_n 0, 1) := by decide +kernel
theorem dL_law_677 : decode cL_law 677 = .ok (.iload 4, 2) := by decide +kernel
theorem dL_law_679 : decode cL_law 679 = .ok (.iconst 1, 1) := by decide +kernel
theorem dL_law_680 : decode cL_law 680 = .ok (.iadd, 1) := by decide +kernel
theorem dL_law_681 : decode cL_law 681 = .ok (.iaload, 1) := by decide +kernel
theorem dL_law_682 : decode cL_law 682 = .ok (.invokevirtual 85, 3) := by decide +kernel
theorem dL_law_685 : decode cL_law 685 = .ok (.if_icmp .eq 850, 3) := by decide +kernel
theorem dL_law_688 : decode cL_law 688 = .ok (.iconst 0, 1) := by decide +kernel
theorem dL_law_689 : decode cL_law 689 = .ok (.ireturn, 1) := by decide +kernel
theorem dL_law_690 : decode cL_law 690 = .ok (.aload_n 1, 1) := by decide +kernel
theorem dL_law_691 : decode cL_law 691 = .ok (.aload_n 0, 1) := by decide +kernel
theorem dL_law_692 : decode cL_law 692 = .ok (.iload 4, 2) := by decide +kernel
theorem dL_law_694 : decode cL_law 694 = .ok (.iconst 1, 1) := by decide +kernel
theorem dL_law_695 : decode cL_law 695 = .ok (.iadd, 1) := by decide +kernel
theorem dL_law_696 : decode cL_law 696 = .ok (.iaload, 1) := by decide +kernel
theorem dL_law_697 : decode cL_law 697 = .ok (.aload_n 0, 1) := by decide +kernel
theorem dL_law_698 : decode cL_law 698 = .ok (.iload 4, 2) := by decide +kernel
theorem dL_law_700 : decode cL_law 700 = .ok (.iconst 2, 1) := by decide +kernel
theorem dL_law_701 : decode cL_law 701 = .ok (.iadd, 1) := by decide +kernel
theorem dL_law_702 : decode cL_law 702 = .ok (.iaload, 1) := by decide +kernel
theorem dL_law_703 : decode cL_law 703 = .ok (.invokevirtual 86, 3) := by decide +kernel
theorem dL_law_706 : decode cL_law 706 = .ok (.aload_n 2, 1) := by decide +kernel
theorem dL_law_707 : decode cL_law 707 = .ok (.aload_n 0, 1) := by decide +kernel
theorem dL_law_708 : decode cL_law 708 = .ok (.iload 4, 2) := by decide +kernel
theorem dL_law_710 : decode cL_law 710 = .ok (.iconst 1, 1) := by decide +kernel
theorem dL_law_711 : decode cL_law 711 = .ok (.iadd, 1) := by decide +kernel
theorem dL_law_712 : decode cL_law 712 = .ok (.iaload, 1) := by decide +kernel
theorem dL_law_713 : decode cL_law 713 = .ok (.aload_n 0, 1) := by decide +kernel
theorem dL_law_714 : decode cL_law 714 = .ok (.iload 4, 2) := by decide +kernel
theorem dL_law_716 : decode cL_law 716 = .ok (.iconst 2, 1) := by decide +kernel
theorem dL_law_717 : decode cL_law 717 = .ok (.iadd, 1) := by decide +kernel
theorem dL_law_718 : decode cL_law 718 = .ok (.iaload, 1) := by decide +kernel
theorem dL_law_719 : decode cL_law 719 = .ok (.invokevirtual 89, 3) := by decide +kernel
theorem dL_law_722 : decode cL_law 722 = .ok (.if_icmp .eq 813, 3) := by decide +kernel
theorem dL_law_725 : decode cL_law 725 = .ok (.iconst 0, 1) := by decide +kernel
theorem dL_law_726 : decode cL_law 726 = .ok (.ireturn, 1) := by decide +kernel
theorem dL_law_727 : decode cL_law 727 = .ok (.aload_n 1, 1) := by decide +kernel
theorem dL_law_728 : decode cL_law 728 = .ok (.invokevirtual 90, 3) := by decide +kernel
theorem dL_law_731 : decode cL_law 731 = .ok (.aload_n 2, 1) := by decide +kernel
theorem dL_law_732 : decode cL_law 732 = .ok (.invokevirtual 93, 3) := by decide +kernel
theorem dL_law_735 : decode cL_law 735 = .ok (.if_icmp .eq 800, 3) := by decide +kernel
theorem dL_law_738 : decode cL_law 738 = .ok (.iconst 0, 1) := by decide +kernel
theorem dL_law_739 : decode cL_law 739 = .ok (.ireturn, 1) := by decide +kernel
theorem dL_law_740 : decode cL_law 740 = .ok (.aload_n 1, 1) := by decide +kernel
theorem dL_law_741 : decode cL_law 741 = .ok (.aload_n 0, 1) := by decide +kernel
theorem dL_law_742 : decode cL_law 742 = .ok (.iload 4, 2) := by decide +kernel
theorem dL_law_744 : decode cL_law 744 = .ok (.iconst 1, 1) := by decide +kernel
theorem dL_law_745 : decode cL_law 745 = .ok (.iadd, 1) := by decide +kernel
theorem dL_law_746 : decode cL_law 746 = .ok (.iaload, 1) := by decide +kernel
theorem dL_law_747 : decode cL_law 747 = .ok (.aload_n 0, 1) := by decide +kernel
theorem dL_law_748 : decode cL_law 748 = .ok (.iload 4, 2) := by decide +kernel
theorem dL_law_750 : decode cL_law 750 = .ok (.iconst 2, 1) := by decide +kernel
theorem dL_law_751 : decode cL_law 751 = .ok (.iadd, 1) := by decide +kernel
theorem dL_law_752 : decode cL_law 752 = .ok (.iaload, 1) := by decide +kernel
theorem dL_law_753 : decode cL_law 753 = .ok (.invokevirtual 94, 3) := by decide +kernel
theorem dL_law_756 : decode cL_law 756 = .ok (.aload_n 2, 1) := by decide +kernel
theorem dL_law_757 : decode cL_law 757 = .ok (.aload_n 0, 1) := by decide +kernel
theorem dL_law_758 : decode cL_law 758 = .ok (.iload 4, 2) := by decide +kernel
theorem dL_law_760 : decode cL_law 760 = .ok (.iconst 1, 1) := by decide +kernel
theorem dL_law_761 : decode cL_law 761 = .ok (.iadd, 1) := by decide +kernel
theorem dL_law_762 : decode cL_law 762 = .ok (.iaload, 1) := by decide +kernel
theorem dL_law_763 : decode cL_law 763 = .ok (.aload_n 0, 1) := by decide +kernel
theorem dL_law_764 : decode cL_law 764 = .ok (.iload 4, 2) := by decide +kernel
theorem dL_law_766 : decode cL_law 766 = .ok (.iconst 2, 1) := by decide +kernel
theorem dL_law_767 : decode cL_law 767 = .ok (.iadd, 1) := by decide +kernel
theorem dL_law_768 : decode cL_law 768 = .ok (.iaload, 1) := by decide +kernel
theorem dL_law_769 : decode cL_law 769 = .ok (.invokevirtual 97, 3) := by decide +kernel
theorem dL_law_772 : decode cL_law 772 = .ok (.if_icmp .eq 763, 3) := by decide +kernel
theorem dL_law_775 : decode cL_law 775 = .ok (.iconst 0, 1) := by decide +kernel
theorem dL_law_776 : decode cL_law 776 = .ok (.ireturn, 1) := by decide +kernel
theorem dL_law_777 : decode cL_law 777 = .ok (.aload_n 1, 1) := by decide +kernel
theorem dL_law_778 : decode cL_law 778 = .ok (.aload_n 0, 1) := by decide +kernel
theorem dL_law_779 : decode cL_law 779 = .ok (.iload 4, 2) := by decide +kernel
theorem dL_law_781 : decode cL_law 781 = .ok (.iconst 1, 1) := by decide +kernel
theorem dL_law_782 : decode cL_law 782 = .ok (.iadd, 1) := by decide +kernel
theorem dL_law_783 : decode cL_law 783 = .ok (.iaload, 1) := by decide +kernel
theorem dL_law_784 : decode cL_law 784 = .ok (.aload_n 0, 1) := by decide +kernel
theorem dL_law_785 : decode cL_law 785 = .ok (.iload 4, 2) := by decide +kernel
theorem dL_law_787 : decode cL_law 787 = .ok (.iconst 2, 1) := by decide +kernel
theorem dL_law_788 : decode cL_law 788 = .ok (.iadd, 1) := by decide +kernel
theorem dL_law_789 : decode cL_law 789 = .ok (.iaload, 1) := by decide +kernel
theorem dL_law_790 : decode cL_law 790 = .ok (.invokevirtual 98, 3) := by decide +kernel
theorem dL_law_793 : decode cL_law 793 = .ok (.aload_n 2, 1) := by decide +kernel
theorem dL_law_794 : decode cL_law 794 = .ok (.aload_n 0, 1) := by decide +kernel
theorem dL_law_795 : decode cL_law 795 = .ok (.iload 4, 2) := by decide +kernel
theorem dL_law_797 : decode cL_law 797 = .ok (.iconst 1, 1) := by decide +kernel
theorem dL_law_798 : decode cL_law 798 = .ok (.iadd, 1) := by decide +kernel
theorem dL_law_799 : decode cL_law 799 = .ok (.iaload, 1) := by decide +kernel
theorem dL_law_800 : decode cL_law 800 = .ok (.aload_n 0, 1) := by decide +kernel
theorem dL_law_801 : decode cL_law 801 = .ok (.iload 4, 2) := by decide +kernel
theorem dL_law_803 : decode cL_law 803 = .ok (.iconst 2, 1) := by decide +kernel
theorem dL_law_804 : decode cL_law 804 = .ok (.iadd, 1) := by decide +kernel
theorem dL_law_805 : decode cL_law 805 = .ok (.iaload, 1) := by decide +kernel
theorem dL_law_806 : decode cL_law 806 = .ok (.invokevirtual 101, 3) := by decide +kernel
theorem dL_law_809 : decode cL_law 809 = .ok (.if_icmp .eq 726, 3) := by decide +kernel
theorem dL_law_812 : decode cL_law 812 = .ok (.iconst 0, 1) := by decide +kernel
theorem dL_law_813 : decode cL_law 813 = .ok (.ireturn, 1) := by decide +kernel
theorem dL_law_814 : decode cL_law 814 = .ok (.aload_n 1, 1) := by decide +kernel
theorem dL_law_815 : decode cL_law 815 = .ok (.aload_n 0, 1) := by decide +kernel
theorem dL_law_816 : decode cL_law 816 = .ok (.iload 4, 2) := by decide +kernel
theorem dL_law_818 : decode cL_law 818 = .ok (.iconst 1, 1) := by decide +kernel
theorem dL_law_819 : decode cL_law 819 = .ok (.iadd, 1) := by decide +kernel
theorem dL_law_820 : decode cL_law 820 = .ok (.iaload, 1) := by decide +kernel
theorem dL_law_821 : decode cL_law 821 = .ok (.aload_n 0, 1) := by decide +kernel
theorem dL_law_822 : decode cL_law 822 = .ok (.iload 4, 2) := by decide +kernel
theorem dL_law_824 : decode cL_law 824 = .ok (.iconst 2, 1) := by decide +kernel
theorem dL_law_825 : decode cL_law 825 = .ok (.iadd, 1) := by decide +kernel
theorem dL_law_826 : decode cL_law 826 = .ok (.iaload, 1) := by decide +kernel
theorem dL_law_827 : decode cL_law 827 = .ok (.invokevirtual 102, 3) := by decide +kernel
theorem dL_law_830 : decode cL_law 830 = .ok (.aload_n 2, 1) := by decide +kernel
theorem dL_law_831 : decode cL_law 831 = .ok (.aload_n 0, 1) := by decide +kernel
theorem dL_law_832 : decode cL_law 832 = .ok (.iload 4, 2) := by decide +kernel
theorem dL_law_834 : decode cL_law 834 = .ok (.iconst 1, 1) := by decide +kernel
theorem dL_law_835 : decode cL_law 835 = .ok (.iadd, 1) := by decide +kernel
theorem dL_law_836 : decode cL_law 836 = .ok (.iaload, 1) := by decide +kernel
theorem dL_law_837 : decode cL_law 837 = .ok (.aload_n 0, 1) := by decide +kernel
theorem dL_law_838 : decode cL_law 838 = .ok (.iload 4, 2) := by decide +kernel
theorem dL_law_840 : decode cL_law 840 = .ok (.iconst 2, 1) := by decide +kernel
theorem dL_law_841 : decode cL_law 841 = .ok (.iadd, 1) := by decide +kernel
theorem dL_law_842 : decode cL_law 842 = .ok (.iaload, 1) := by decide +kernel
theorem dL_law_843 : decode cL_law 843 = .ok (.invokevirtual 105, 3) := by decide +kernel
theorem dL_law_846 : decode cL_law 846 = .ok (.if_icmp .eq 689, 3) := by decide +kernel
theorem dL_law_849 : decode cL_law 849 = .ok (.iconst 0, 1) := by decide +kernel
theorem dL_law_850 : decode cL_law 850 = .ok (.ireturn, 1) := by decide +kernel
theorem dL_law_851 : decode cL_law 851 = .ok (.aload_n 1, 1) := by decide +kernel
theorem dL_law_852 : decode cL_law 852 = .ok (.aload_n 0, 1) := by decide +kernel
theorem dL_law_853 : decode cL_law 853 = .ok (.iload 4, 2) := by decide +kernel
theorem dL_law_855 : decode cL_law 855 = .ok (.iconst 1, 1) := by decide +kernel
theorem dL_law_856 : decode cL_law 856 = .ok (.iadd, 1) := by decide +kernel
theorem dL_law_857 : decode cL_law 857 = .ok (.iaload, 1) := by decide +kernel
theorem dL_law_858 : decode cL_law 858 = .ok (.aload_n 0, 1) := by decide +kernel
theorem dL_law_859 : decode cL_law 859 = .ok (.iload 4, 2) := by decide +kernel
theorem dL_law_861 : decode cL_law 861 = .ok (.iconst 2, 1) := by decide +kernel
theorem dL_law_862 : decode cL_law 862 = .ok (.iadd, 1) := by decide +kernel
theorem dL_law_863 : decode cL_law 863 = .ok (.iaload, 1) := by decide +kernel
theorem dL_law_864 : decode cL_law 864 = .ok (.invokevirtual 106, 3) := by decide +kernel
theorem dL_law_867 : decode cL_law 867 = .ok (.aload_n 2, 1) := by decide +kernel
theorem dL_law_868 : decode cL_law 868 = .ok (.aload_n 0, 1) := by decide +kernel
theorem dL_law_869 : decode cL_law 869 = .ok (.iload 4, 2) := by decide +kernel
theorem dL_law_871 : decode cL_law 871 = .ok (.iconst 1, 1) := by decide +kernel
theorem dL_law_872 : decode cL_law 872 = .ok (.iadd, 1) := by decide +kernel
theorem dL_law_873 : decode cL_law 873 = .ok (.iaload, 1) := by decide +kernel
theorem dL_law_874 : decode cL_law 874 = .ok (.aload_n 0, 1) := by decide +kernel
theorem dL_law_875 : decode cL_law 875 = .ok (.iload 4, 2) := by decide +kernel
theorem dL_law_877 : decode cL_law 877 = .ok (.iconst 2, 1) := by decide +kernel
theorem dL_law_878 : decode cL_law 878 = .ok (.iadd, 1) := by decide +kernel
theorem dL_law_879 : decode cL_law 879 = .ok (.iaload, 1) := by decide +kernel
theorem dL_law_880 : decode cL_law 880 = .ok (.invokevirtual 109, 3) := by decide +kernel
theorem dL_law_883 : decode cL_law 883 = .ok (.if_icmp .eq 652, 3) := by decide +kernel
theorem dL_law_886 : decode cL_law 886 = .ok (.iconst 0, 1) := by decide +kernel
theorem dL_law_887 : decode cL_law 887 = .ok (.ireturn, 1) := by decide +kernel
theorem dL_law_888 : decode cL_law 888 = .ok (.aload_n 1, 1) := by decide +kernel
theorem dL_law_889 : decode cL_law 889 = .ok (.invokevirtual 110, 3) := by decide +kernel
theorem dL_law_892 : decode cL_law 892 = .ok (.aload_n 2, 1) := by decide +kernel
theorem dL_law_893 : decode cL_law 893 = .ok (.invokevirtual 113, 3) := by decide +kernel
theorem dL_law_896 : decode cL_law 896 = .ok (.if_icmp .eq 639, 3) := by decide +kernel
theorem dL_law_899 : decode cL_law 899 = .ok (.iconst 0, 1) := by decide +kernel
theorem dL_law_900 : decode cL_law 900 = .ok (.ireturn, 1) := by decide +kernel
theorem dL_law_901 : decode cL_law 901 = .ok (.aload_n 1, 1) := by decide +kernel
theorem dL_law_902 : decode cL_law 902 = .ok (.aload_n 0, 1) := by decide +kernel
theorem dL_law_903 : decode cL_law 903 = .ok (.iload 4, 2) := by decide +kernel
theorem dL_law_905 : decode cL_law 905 = .ok (.iconst 1, 1) := by decide +kernel
theorem dL_law_906 : decode cL_law 906 = .ok (.iadd, 1) := by decide +kernel
theorem dL_law_907 : decode cL_law 907 = .ok (.iaload, 1) := by decide +kernel
theorem dL_law_908 : decode cL_law 908 = .ok (.invokevirtual 114, 3) := by decide +kernel
theorem dL_law_911 : decode cL_law 911 = .ok (.aload_n 2, 1) := by decide +kernel
theorem dL_law_912 : decode cL_law 912 = .ok (.aload_n 0, 1) := by decide +kernel
theorem dL_law_913 : decode cL_law 913 = .ok (.iload 4, 2) := by decide +kernel
theorem dL_law_915 : decode cL_law 915 = .ok (.iconst 1, 1) := by decide +kernel
theorem dL_law_916 : decode cL_law 916 = .ok (.iadd, 1) := by decide +kernel
theorem dL_law_917 : decode cL_law 917 = .ok (.iaload, 1) := by decide +kernel
theorem dL_law_918 : decode cL_law 918 = .ok (.invokevirtual 117, 3) := by decide +kernel
theorem dL_law_921 : decode cL_law 921 = .ok (.if_icmp .eq 614, 3) := by decide +kernel
theorem dL_law_924 : decode cL_law 924 = .ok (.iconst 0, 1) := by decide +kernel
theorem dL_law_925 : decode cL_law 925 = .ok (.ireturn, 1) := by decide +kernel
theorem dL_law_926 : decode cL_law 926 = .ok (.aload_n 1, 1) := by decide +kernel
theorem dL_law_927 : decode cL_law 927 = .ok (.aload_n 0, 1) := by decide +kernel
theorem dL_law_928 : decode cL_law 928 = .ok (.iload 4, 2) := by decide +kernel
theorem dL_law_930 : decode cL_law 930 = .ok (.iconst 1, 1) := by decide +kernel
theorem dL_law_931 : decode cL_law 931 = .ok (.iadd, 1) := by decide +kernel
theorem dL_law_932 : decode cL_law 932 = .ok (.iaload, 1) := by decide +kernel
theorem dL_law_933 : decode cL_law 933 = .ok (.aload_n 0, 1) := by decide +kernel
theorem dL_law_934 : decode cL_law 934 = .ok (.iload 4, 2) := by decide +kernel
theorem dL_law_936 : decode cL_law 936 = .ok (.iconst 2, 1) := by decide +kernel
theorem dL_law_937 : decode cL_law 937 = .ok (.iadd, 1) := by decide +kernel
theorem dL_law_938 : decode cL_law 938 = .ok (.iaload, 1) := by decide +kernel
theorem dL_law_939 : decode cL_law 939 = .ok (.aload_n 0, 1) := by decide +kernel
theorem dL_law_940 : decode cL_law 940 = .ok (.iload 4, 2) := by decide +kernel
theorem dL_law_942 : decode cL_law 942 = .ok (.iconst 3, 1) := by decide +kernel
theorem dL_law_943 : decode cL_law 943 = .ok (.iadd, 1) := by decide +kernel
theorem dL_law_944 : decode cL_law 944 = .ok (.iaload, 1) := by decide +kernel
theorem dL_law_945 : decode cL_law 945 = .ok (.invokevirtual 118, 3) := by decide +kernel
theorem dL_law_948 : decode cL_law 948 = .ok (.aload_n 2, 1) := by decide +kernel
theorem dL_law_949 : decode cL_law 949 = .ok (.aload_n 0, 1) := by decide +kernel
theorem dL_law_950 : decode cL_law 950 = .ok (.iload 4, 2) := by decide +kernel
theorem dL_law_952 : decode cL_law 952 = .ok (.iconst 1, 1) := by decide +kernel
theorem dL_law_953 : decode cL_law 953 = .ok (.iadd, 1) := by decide +kernel
theorem dL_law_954 : decode cL_law 954 = .ok (.iaload, 1) := by decide +kernel
theorem dL_law_955 : decode cL_law 955 = .ok (.aload_n 0, 1) := by decide +kernel
theorem dL_law_956 : decode cL_law 956 = .ok (.iload 4, 2) := by decide +kernel
theorem dL_law_958 : decode cL_law 958 = .ok (.iconst 2, 1) := by decide +kernel
theorem dL_law_959 : decode cL_law 959 = .ok (.iadd, 1) := by decide +kernel
theorem dL_law_960 : decode cL_law 960 = .ok (.iaload, 1) := by decide +kernel
theorem dL_law_961 : decode cL_law 961 = .ok (.aload_n 0, 1) := by decide +kernel
theorem dL_law_962 : decode cL_law 962 = .ok (.iload 4, 2) := by decide +kernel
theorem dL_law_964 : decode cL_law 964 = .ok (.iconst 3, 1) := by decide +kernel
theorem dL_law_965 : decode cL_law 965 = .ok (.iadd, 1) := by decide +kernel
theorem dL_law_966 : decode cL_law 966 = .ok (.iaload, 1) := by decide +kernel
theorem dL_law_967 : decode cL_law 967 = .ok (.invokevirtual 121, 3) := by decide +kernel
theorem dL_law_970 : decode cL_law 970 = .ok (.if_icmp .eq 565, 3) := by decide +kernel
theorem dL_law_973 : decode cL_law 973 = .ok (.iconst 0, 1) := by decide +kernel
theorem dL_law_974 : decode cL_law 974 = .ok (.ireturn, 1) := by decide +kernel
theorem dL_law_975 : decode cL_law 975 = .ok (.aload_n 1, 1) := by decide +kernel
theorem dL_law_976 : decode cL_law 976 = .ok (.aload_n 0, 1) := by decide +kernel
theorem dL_law_977 : decode cL_law 977 = .ok (.iload 4, 2) := by decide +kernel
theorem dL_law_979 : decode cL_law 979 = .ok (.iconst 1, 1) := by decide +kernel
theorem dL_law_980 : decode cL_law 980 = .ok (.iadd, 1) := by decide +kernel
theorem dL_law_981 : decode cL_law 981 = .ok (.iaload, 1) := by decide +kernel
theorem dL_law_982 : decode cL_law 982 = .ok (.aload_n 0, 1) := by decide +kernel
theorem dL_law_983 : decode cL_law 983 = .ok (.iload 4, 2) := by decide +kernel
theorem dL_law_985 : decode cL_law 985 = .ok (.iconst 2, 1) := by decide +kernel
theorem dL_law_986 : decode cL_law 986 = .ok (.iadd, 1) := by decide +kernel
theorem dL_law_987 : decode cL_law 987 = .ok (.iaload, 1) := by decide +kernel
theorem dL_law_988 : decode cL_law 988 = .ok (.invokevirtual 122, 3) := by decide +kernel
theorem dL_law_991 : decode cL_law 991 = .ok (.aload_n 2, 1) := by decide +kernel
theorem dL_law_992 : decode cL_law 992 = .ok (.aload_n 0, 1) := by decide +kernel
theorem dL_law_993 : decode cL_law 993 = .ok (.iload 4, 2) := by decide +kernel
theorem dL_law_995 : decode cL_law 995 = .ok (.iconst 1, 1) := by decide +kernel
theorem dL_law_996 : decode cL_law 996 = .ok (.iadd, 1) := by decide +kernel
theorem dL_law_997 : decode cL_law 997 = .ok (.iaload, 1) := by decide +kernel
theorem dL_law_998 : decode cL_law 998 = .ok (.aload_n 0, 1) := by decide +kernel
theorem dL_law_999 : decode cL_law 999 = .ok (.iload 4, 2) := by decide +kernel
theorem dL_law_1001 : decode cL_law 1001 = .ok (.iconst 2, 1) := by decide +kernel
theorem dL_law_1002 : decode cL_law 1002 = .ok (.iadd, 1) := by decide +kernel
theorem dL_law_1003 : decode cL_law 1003 = .ok (.iaload, 1) := by decide +kernel
theorem dL_law_1004 : decode cL_law 1004 = .ok (.invokevirtual 125, 3) := by decide +kernel
theorem dL_law_1007 : decode cL_law 1007 = .ok (.if_icmp .eq 528, 3) := by decide +kernel
theorem dL_law_1010 : decode cL_law 1010 = .ok (.iconst 0, 1) := by decide +kernel
theorem dL_law_1011 : decode cL_law 1011 = .ok (.ireturn, 1) := by decide +kernel
theorem dL_law_1012 : decode cL_law 1012 = .ok (.aload_n 1, 1) := by decide +kernel
theorem dL_law_1013 : decode cL_law 1013 = .ok (.aload_n 0, 1) := by decide +kernel
theorem dL_law_1014 : decode cL_law 1014 = .ok (.iload 4, 2) := by decide +kernel
theorem dL_law_1016 : decode cL_law 1016 = .ok (.iconst 1, 1) := by decide +kernel
theorem dL_law_1017 : decode cL_law 1017 = .ok (.iadd, 1) := by decide +kernel
theorem dL_law_1018 : decode cL_law 1018 = .ok (.iaload, 1) := by decide +kernel
theorem dL_law_1019 : decode cL_law 1019 = .ok (.aload_n 0, 1) := by decide +kernel
theorem dL_law_1020 : decode cL_law 1020 = .ok (.iload 4, 2) := by decide +kernel
theorem dL_law_1022 : decode cL_law 1022 = .ok (.iconst 2, 1) := by decide +kernel
theorem dL_law_1023 : decode cL_law 1023 = .ok (.iadd, 1) := by decide +kernel
theorem dL_law_1024 : decode cL_law 1024 = .ok (.iaload, 1) := by decide +kernel
theorem dL_law_1025 : decode cL_law 1025 = .ok (.invokevirtual 126, 3) := by decide +kernel
theorem dL_law_1028 : decode cL_law 1028 = .ok (.aload_n 2, 1) := by decide +kernel
theorem dL_law_1029 : decode cL_law 1029 = .ok (.aload_n 0, 1) := by decide +kernel
theorem dL_law_1030 : decode cL_law 1030 = .ok (.iload 4, 2) := by decide +kernel
theorem dL_law_1032 : decode cL_law 1032 = .ok (.iconst 1, 1) := by decide +kernel
theorem dL_law_1033 : decode cL_law 1033 = .ok (.iadd, 1) := by decide +kernel
theorem dL_law_1034 : decode cL_law 1034 = .ok (.iaload, 1) := by decide +kernel
theorem dL_law_1035 : decode cL_law 1035 = .ok (.aload_n 0, 1) := by decide +kernel
theorem dL_law_1036 : decode cL_law 1036 = .ok (.iload 4, 2) := by decide +kernel
theorem dL_law_1038 : decode cL_law 1038 = .ok (.iconst 2, 1) := by decide +kernel
theorem dL_law_1039 : decode cL_law 1039 = .ok (.iadd, 1) := by decide +kernel
theorem dL_law_1040 : decode cL_law 1040 = .ok (.iaload, 1) := by decide +kernel
theorem dL_law_1041 : decode cL_law 1041 = .ok (.invokevirtual 129, 3) := by decide +kernel
theorem dL_law_1044 : decode cL_law 1044 = .ok (.if_icmp .eq 491, 3) := by decide +kernel
theorem dL_law_1047 : decode cL_law 1047 = .ok (.iconst 0, 1) := by decide +kernel
theorem dL_law_1048 : decode cL_law 1048 = .ok (.ireturn, 1) := by decide +kernel
theorem dL_law_1049 : decode cL_law 1049 = .ok (.aload_n 1, 1) := by decide +kernel
theorem dL_law_1050 : decode cL_law 1050 = .ok (.aload_n 0, 1) := by decide +kernel
theorem dL_law_1051 : decode cL_law 1051 = .ok (.iload 4, 2) := by decide +kernel
theorem dL_law_1053 : decode cL_law 1053 = .ok (.iconst 1, 1) := by decide +kernel
theorem dL_law_1054 : decode cL_law 1054 = .ok (.iadd, 1) := by decide +kernel
theorem dL_law_1055 : decode cL_law 1055 = .ok (.iaload, 1) := by decide +kernel
theorem dL_law_1056 : decode cL_law 1056 = .ok (.invokevirtual 130, 3) := by decide +kernel
theorem dL_law_1059 : decode cL_law 1059 = .ok (.aload_n 2, 1) := by decide +kernel
theorem dL_law_1060 : decode cL_law 1060 = .ok (.aload_n 0, 1) := by decide +kernel
theorem dL_law_1061 : decode cL_law 1061 = .ok (.iload 4, 2) := by decide +kernel
theorem dL_law_1063 : decode cL_law 1063 = .ok (.iconst 1, 1) := by decide +kernel
theorem dL_law_1064 : decode cL_law 1064 = .ok (.iadd, 1) := by decide +kernel
theorem dL_law_1065 : decode cL_law 1065 = .ok (.iaload, 1) := by decide +kernel
theorem dL_law_1066 : decode cL_law 1066 = .ok (.invokevirtual 133, 3) := by decide +kernel
theorem dL_law_1069 : decode cL_law 1069 = .ok (.if_icmp .eq 466, 3) := by decide +kernel
theorem dL_law_1072 : decode cL_law 1072 = .ok (.iconst 0, 1) := by decide +kernel
theorem dL_law_1073 : decode cL_law 1073 = .ok (.ireturn, 1) := by decide +kernel
theorem dL_law_1074 : decode cL_law 1074 = .ok (.aload_n 1, 1) := by decide +kernel
theorem dL_law_1075 : decode cL_law 1075 = .ok (.aload_n 0, 1) := by decide +kernel
theorem dL_law_1076 : decode cL_law 1076 = .ok (.iload 4, 2) := by decide +kernel
theorem dL_law_1078 : decode cL_law 1078 = .ok (.iconst 1, 1) := by decide +kernel
theorem dL_law_1079 : decode cL_law 1079 = .ok (.iadd, 1) := by decide +kernel
theorem dL_law_1080 : decode cL_law 1080 = .ok (.iaload, 1) := by decide +kernel
theorem dL_law_1081 : decode cL_law 1081 = .ok (.invokevirtual 134, 3) := by decide +kernel
theorem dL_law_1084 : decode cL_law 1084 = .ok (.aload_n 2, 1) := by decide +kernel
theorem dL_law_1085 : decode cL_law 1085 = .ok (.aload_n 0, 1) := by decide +kernel
theorem dL_law_1086 : decode cL_law 1086 = .ok (.iload 4, 2) := by decide +kernel
theorem dL_law_1088 : decode cL_law 1088 = .ok (.iconst 1, 1) := by decide +kernel
theorem dL_law_1089 : decode cL_law 1089 = .ok (.iadd, 1) := by decide +kernel
theorem dL_law_1090 : decode cL_law 1090 = .ok (.iaload, 1) := by decide +kernel
theorem dL_law_1091 : decode cL_law 1091 = .ok (.invokevirtual 137, 3) := by decide +kernel
theorem dL_law_1094 : decode cL_law 1094 = .ok (.if_icmp .eq 441, 3) := by decide +kernel
theorem dL_law_1097 : decode cL_law 1097 = .ok (.iconst 0, 1) := by decide +kernel
theorem dL_law_1098 : decode cL_law 1098 = .ok (.ireturn, 1) := by decide +kernel
theorem dL_law_1099 : decode cL_law 1099 = .ok (.aload_n 1, 1) := by decide +kernel
theorem dL_law_1100 : decode cL_law 1100 = .ok (.aload_n 0, 1) := by decide +kernel
theorem dL_law_1101 : decode cL_law 1101 = .ok (.iload 4, 2) := by decide +kernel
theorem dL_law_1103 : decode cL_law 1103 = .ok (.iconst 1, 1) := by decide +kernel
theorem dL_law_1104 : decode cL_law 1104 = .ok (.iadd, 1) := by decide +kernel
theorem dL_law_1105 : decode cL_law 1105 = .ok (.iaload, 1) := by decide +kernel
theorem dL_law_1106 : decode cL_law 1106 = .ok (.aload_n 0, 1) := by decide +kernel
theorem dL_law_1107 : decode cL_law 1107 = .ok (.iload 4, 2) := by decide +kernel
theorem dL_law_1109 : decode cL_law 1109 = .ok (.iconst 2, 1) := by decide +kernel
theorem dL_law_1110 : decode cL_law 1110 = .ok (.iadd, 1) := by decide +kernel
theorem dL_law_1111 : decode cL_law 1111 = .ok (.iaload, 1) := by decide +kernel
theorem dL_law_1112 : decode cL_law 1112 = .ok (.aload_n 0, 1) := by decide +kernel
theorem dL_law_1113 : decode cL_law 1113 = .ok (.iload 4, 2) := by decide +kernel
theorem dL_law_1115 : decode cL_law 1115 = .ok (.iconst 3, 1) := by decide +kernel
theorem dL_law_1116 : decode cL_law 1116 = .ok (.iadd, 1) := by decide +kernel
theorem dL_law_1117 : decode cL_law 1117 = .ok (.iaload, 1) := by decide +kernel
theorem dL_law_1118 : decode cL_law 1118 = .ok (.aload_n 0, 1) := by decide +kernel
theorem dL_law_1119 : decode cL_law 1119 = .ok (.iload 4, 2) := by decide +kernel
theorem dL_law_1121 : decode cL_law 1121 = .ok (.iconst 4, 1) := by decide +kernel
theorem dL_law_1122 : decode cL_law 1122 = .ok (.iadd, 1) := by decide +kernel
theorem dL_law_1123 : decode cL_law 1123 = .ok (.iaload, 1) := by decide +kernel
theorem dL_law_1124 : decode cL_law 1124 = .ok (.invokevirtual 138, 3) := by decide +kernel
theorem dL_law_1127 : decode cL_law 1127 = .ok (.aload_n 2, 1) := by decide +kernel
theorem dL_law_1128 : decode cL_law 1128 = .ok (.aload_n 0, 1) := by decide +kernel
theorem dL_law_1129 : decode cL_law 1129 = .ok (.iload 4, 2) := by decide +kernel
theorem dL_law_1131 : decode cL_law 1131 = .ok (.iconst 1, 1) := by decide +kernel
theorem dL_law_1132 : decode cL_law 1132 = .ok (.iadd, 1) := by decide +kernel
theorem dL_law_1133 : decode cL_law 1133 = .ok (.iaload, 1) := by decide +kernel
theorem dL_law_1134 : decode cL_law 1134 = .ok (.aload_n 0, 1) := by decide +kernel
theorem dL_law_1135 : decode cL_law 1135 = .ok (.iload 4, 2) := by decide +kernel
theorem dL_law_1137 : decode cL_law 1137 = .ok (.iconst 2, 1) := by decide +kernel
theorem dL_law_1138 : decode cL_law 1138 = .ok (.iadd, 1) := by decide +kernel
theorem dL_law_1139 : decode cL_law 1139 = .ok (.iaload, 1) := by decide +kernel
theorem dL_law_1140 : decode cL_law 1140 = .ok (.aload_n 0, 1) := by decide +kernel
theorem dL_law_1141 : decode cL_law 1141 = .ok (.iload 4, 2) := by decide +kernel
theorem dL_law_1143 : decode cL_law 1143 = .ok (.iconst 3, 1) := by decide +kernel
theorem dL_law_1144 : decode cL_law 1144 = .ok (.iadd, 1) := by decide +kernel
theorem dL_law_1145 : decode cL_law 1145 = .ok (.iaload, 1) := by decide +kernel
theorem dL_law_1146 : decode cL_law 1146 = .ok (.aload_n 0, 1) := by decide +kernel
theorem dL_law_1147 : decode cL_law 1147 = .ok (.iload 4, 2) := by decide +kernel
theorem dL_law_1149 : decode cL_law 1149 = .ok (.iconst 4, 1) := by decide +kernel
theorem dL_law_1150 : decode cL_law 1150 = .ok (.iadd, 1) := by decide +kernel
theorem dL_law_1151 : decode cL_law 1151 = .ok (.iaload, 1) := by decide +kernel
theorem dL_law_1152 : decode cL_law 1152 = .ok (.invokevirtual 142, 3) := by decide +kernel
theorem dL_law_1155 : decode cL_law 1155 = .ok (.if_icmp .eq 380, 3) := by decide +kernel
theorem dL_law_1158 : decode cL_law 1158 = .ok (.iconst 0, 1) := by decide +kernel
theorem dL_law_1159 : decode cL_law 1159 = .ok (.ireturn, 1) := by decide +kernel
theorem dL_law_1160 : decode cL_law 1160 = .ok (.aload_n 1, 1) := by decide +kernel
theorem dL_law_1161 : decode cL_law 1161 = .ok (.aload_n 0, 1) := by decide +kernel
theorem dL_law_1162 : decode cL_law 1162 = .ok (.iload 4, 2) := by decide +kernel
theorem dL_law_1164 : decode cL_law 1164 = .ok (.iconst 1, 1) := by decide +kernel
theorem dL_law_1165 : decode cL_law 1165 = .ok (.iadd, 1) := by decide +kernel
theorem dL_law_1166 : decode cL_law 1166 = .ok (.iaload, 1) := by decide +kernel
theorem dL_law_1167 : decode cL_law 1167 = .ok (.invokevirtual 143, 3) := by decide +kernel
theorem dL_law_1170 : decode cL_law 1170 = .ok (.aload_n 2, 1) := by decide +kernel
theorem dL_law_1171 : decode cL_law 1171 = .ok (.aload_n 0, 1) := by decide +kernel
theorem dL_law_1172 : decode cL_law 1172 = .ok (.iload 4, 2) := by decide +kernel
theorem dL_law_1174 : decode cL_law 1174 = .ok (.iconst 1, 1) := by decide +kernel
theorem dL_law_1175 : decode cL_law 1175 = .ok (.iadd, 1) := by decide +kernel
theorem dL_law_1176 : decode cL_law 1176 = .ok (.iaload, 1) := by decide +kernel
theorem dL_law_1177 : decode cL_law 1177 = .ok (.invokevirtual 146, 3) := by decide +kernel
theorem dL_law_1180 : decode cL_law 1180 = .ok (.if_icmp .eq 355, 3) := by decide +kernel
theorem dL_law_1183 : decode cL_law 1183 = .ok (.iconst 0, 1) := by decide +kernel
theorem dL_law_1184 : decode cL_law 1184 = .ok (.ireturn, 1) := by decide +kernel
theorem dL_law_1185 : decode cL_law 1185 = .ok (.aload_n 1, 1) := by decide +kernel
theorem dL_law_1186 : decode cL_law 1186 = .ok (.aload_n 0, 1) := by decide +kernel
theorem dL_law_1187 : decode cL_law 1187 = .ok (.iload 4, 2) := by decide +kernel
theorem dL_law_1189 : decode cL_law 1189 = .ok (.iconst 1, 1) := by decide +kernel
theorem dL_law_1190 : decode cL_law 1190 = .ok (.iadd, 1) := by decide +kernel
theorem dL_law_1191 : decode cL_law 1191 = .ok (.iaload, 1) := by decide +kernel
theorem dL_law_1192 : decode cL_law 1192 = .ok (.aload_n 0, 1) := by decide +kernel
theorem dL_law_1193 : decode cL_law 1193 = .ok (.iload 4, 2) := by decide +kernel
theorem dL_law_1195 : decode cL_law 1195 = .ok (.iconst 2, 1) := by decide +kernel
theorem dL_law_1196 : decode cL_law 1196 = .ok (.iadd, 1) := by decide +kernel
theorem dL_law_1197 : decode cL_law 1197 = .ok (.iaload, 1) := by decide +kernel
theorem dL_law_1198 : decode cL_law 1198 = .ok (.i2l, 1) := by decide +kernel
theorem dL_law_1199 : decode cL_law 1199 = .ok (.bipush 32, 2) := by decide +kernel
theorem dL_law_1201 : decode cL_law 1201 = .ok (.lshl, 1) := by decide +kernel
theorem dL_law_1202 : decode cL_law 1202 = .ok (.aload_n 0, 1) := by decide +kernel
theorem dL_law_1203 : decode cL_law 1203 = .ok (.iload 4, 2) := by decide +kernel
theorem dL_law_1205 : decode cL_law 1205 = .ok (.iconst 3, 1) := by decide +kernel
theorem dL_law_1206 : decode cL_law 1206 = .ok (.iadd, 1) := by decide +kernel
theorem dL_law_1207 : decode cL_law 1207 = .ok (.iaload, 1) := by decide +kernel
theorem dL_law_1208 : decode cL_law 1208 = .ok (.i2l, 1) := by decide +kernel
theorem dL_law_1209 : decode cL_law 1209 = .ok (.ldc2_w 147, 3) := by decide +kernel
theorem dL_law_1212 : decode cL_law 1212 = .ok (.land, 1) := by decide +kernel
theorem dL_law_1213 : decode cL_law 1213 = .ok (.lor, 1) := by decide +kernel
theorem dL_law_1214 : decode cL_law 1214 = .ok (.aload_n 0, 1) := by decide +kernel
theorem dL_law_1215 : decode cL_law 1215 = .ok (.iload 4, 2) := by decide +kernel
theorem dL_law_1217 : decode cL_law 1217 = .ok (.iconst 4, 1) := by decide +kernel
theorem dL_law_1218 : decode cL_law 1218 = .ok (.iadd, 1) := by decide +kernel
theorem dL_law_1219 : decode cL_law 1219 = .ok (.iaload, 1) := by decide +kernel
theorem dL_law_1220 : decode cL_law 1220 = .ok (.aload_n 0, 1) := by decide +kernel
theorem dL_law_1221 : decode cL_law 1221 = .ok (.iload 4, 2) := by decide +kernel
theorem dL_law_1223 : decode cL_law 1223 = .ok (.iconst 5, 1) := by decide +kernel
theorem dL_law_1224 : decode cL_law 1224 = .ok (.iadd, 1) := by decide +kernel
theorem dL_law_1225 : decode cL_law 1225 = .ok (.iaload, 1) := by decide +kernel
theorem dL_law_1226 : decode cL_law 1226 = .ok (.invokevirtual 149, 3) := by decide +kernel
theorem dL_law_1229 : decode cL_law 1229 = .ok (.aload_n 2, 1) := by decide +kernel
theorem dL_law_1230 : decode cL_law 1230 = .ok (.aload_n 0, 1) := by decide +kernel
theorem dL_law_1231 : decode cL_law 1231 = .ok (.iload 4, 2) := by decide +kernel
theorem dL_law_1233 : decode cL_law 1233 = .ok (.iconst 1, 1) := by decide +kernel
theorem dL_law_1234 : decode cL_law 1234 = .ok (.iadd, 1) := by decide +kernel
theorem dL_law_1235 : decode cL_law 1235 = .ok (.iaload, 1) := by decide +kernel
theorem dL_law_1236 : decode cL_law 1236 = .ok (.aload_n 0, 1) := by decide +kernel
theorem dL_law_1237 : decode cL_law 1237 = .ok (.iload 4, 2) := by decide +kernel
theorem dL_law_1239 : decode cL_law 1239 = .ok (.iconst 2, 1) := by decide +kernel
theorem dL_law_1240 : decode cL_law 1240 = .ok (.iadd, 1) := by decide +kernel
theorem dL_law_1241 : decode cL_law 1241 = .ok (.iaload, 1) := by decide +kernel
theorem dL_law_1242 : decode cL_law 1242 = .ok (.i2l, 1) := by decide +kernel
theorem dL_law_1243 : decode cL_law 1243 = .ok (.bipush 32, 2) := by decide +kernel
theorem dL_law_1245 : decode cL_law 1245 = .ok (.lshl, 1) := by decide +kernel
theorem dL_law_1246 : decode cL_law 1246 = .ok (.aload_n 0, 1) := by decide +kernel
theorem dL_law_1247 : decode cL_law 1247 = .ok (.iload 4, 2) := by decide +kernel
theorem dL_law_1249 : decode cL_law 1249 = .ok (.iconst 3, 1) := by decide +kernel
theorem dL_law_1250 : decode cL_law 1250 = .ok (.iadd, 1) := by decide +kernel
theorem dL_law_1251 : decode cL_law 1251 = .ok (.iaload, 1) := by decide +kernel
theorem dL_law_1252 : decode cL_law 1252 = .ok (.i2l, 1) := by decide +kernel
theorem dL_law_1253 : decode cL_law 1253 = .ok (.ldc2_w 147, 3) := by decide +kernel
theorem dL_law_1256 : decode cL_law 1256 = .ok (.land, 1) := by decide +kernel
theorem dL_law_1257 : decode cL_law 1257 = .ok (.lor, 1) := by decide +kernel
theorem dL_law_1258 : decode cL_law 1258 = .ok (.aload_n 0, 1) := by decide +kernel
theorem dL_law_1259 : decode cL_law 1259 = .ok (.iload 4, 2) := by decide +kernel
theorem dL_law_1261 : decode cL_law 1261 = .ok (.iconst 4, 1) := by decide +kernel
theorem dL_law_1262 : decode cL_law 1262 = .ok (.iadd, 1) := by decide +kernel
theorem dL_law_1263 : decode cL_law 1263 = .ok (.iaload, 1) := by decide +kernel
theorem dL_law_1264 : decode cL_law 1264 = .ok (.aload_n 0, 1) := by decide +kernel
theorem dL_law_1265 : decode cL_law 1265 = .ok (.iload 4, 2) := by decide +kernel
theorem dL_law_1267 : decode cL_law 1267 = .ok (.iconst 5, 1) := by decide +kernel
theorem dL_law_1268 : decode cL_law 1268 = .ok (.iadd, 1) := by decide +kernel
theorem dL_law_1269 : decode cL_law 1269 = .ok (.iaload, 1) := by decide +kernel
theorem dL_law_1270 : decode cL_law 1270 = .ok (.invokevirtual 153, 3) := by decide +kernel
theorem dL_law_1273 : decode cL_law 1273 = .ok (.if_icmp .eq 262, 3) := by decide +kernel
theorem dL_law_1276 : decode cL_law 1276 = .ok (.iconst 0, 1) := by decide +kernel
theorem dL_law_1277 : decode cL_law 1277 = .ok (.ireturn, 1) := by decide +kernel
theorem dL_law_1278 : decode cL_law 1278 = .ok (.aload_n 1, 1) := by decide +kernel
theorem dL_law_1279 : decode cL_law 1279 = .ok (.aload_n 0, 1) := by decide +kernel
theorem dL_law_1280 : decode cL_law 1280 = .ok (.iload 4, 2) := by decide +kernel
theorem dL_law_1282 : decode cL_law 1282 = .ok (.iconst 1, 1) := by decide +kernel
theorem dL_law_1283 : decode cL_law 1283 = .ok (.iadd, 1) := by decide +kernel
theorem dL_law_1284 : decode cL_law 1284 = .ok (.iaload, 1) := by decide +kernel
theorem dL_law_1285 : decode cL_law 1285 = .ok (.invokevirtual 154, 3) := by decide +kernel
theorem dL_law_1288 : decode cL_law 1288 = .ok (.aload_n 2, 1) := by decide +kernel
theorem dL_law_1289 : decode cL_law 1289 = .ok (.aload_n 0, 1) := by decide +kernel
theorem dL_law_1290 : decode cL_law 1290 = .ok (.iload 4, 2) := by decide +kernel
theorem dL_law_1292 : decode cL_law 1292 = .ok (.iconst 1, 1) := by decide +kernel
theorem dL_law_1293 : decode cL_law 1293 = .ok (.iadd, 1) := by decide +kernel
theorem dL_law_1294 : decode cL_law 1294 = .ok (.iaload, 1) := by decide +kernel
theorem dL_law_1295 : decode cL_law 1295 = .ok (.invokevirtual 157, 3) := by decide +kernel
theorem dL_law_1298 : decode cL_law 1298 = .ok (.if_icmp .eq 237, 3) := by decide +kernel
theorem dL_law_1301 : decode cL_law 1301 = .ok (.iconst 0, 1) := by decide +kernel
theorem dL_law_1302 : decode cL_law 1302 = .ok (.ireturn, 1) := by decide +kernel
theorem dL_law_1303 : decode cL_law 1303 = .ok (.aload_n 1, 1) := by decide +kernel
theorem dL_law_1304 : decode cL_law 1304 = .ok (.aload_n 0, 1) := by decide +kernel
theorem dL_law_1305 : decode cL_law 1305 = .ok (.iload 4, 2) := by decide +kernel
theorem dL_law_1307 : decode cL_law 1307 = .ok (.iconst 1, 1) := by decide +kernel
theorem dL_law_1308 : decode cL_law 1308 = .ok (.iadd, 1) := by decide +kernel
theorem dL_law_1309 : decode cL_law 1309 = .ok (.iaload, 1) := by decide +kernel
theorem dL_law_1310 : decode cL_law 1310 = .ok (.invokevirtual 158, 3) := by decide +kernel
theorem dL_law_1313 : decode cL_law 1313 = .ok (.aload_n 2, 1) := by decide +kernel
theorem dL_law_1314 : decode cL_law 1314 = .ok (.aload_n 0, 1) := by decide +kernel
theorem dL_law_1315 : decode cL_law 1315 = .ok (.iload 4, 2) := by decide +kernel
theorem dL_law_1317 : decode cL_law 1317 = .ok (.iconst 1, 1) := by decide +kernel
theorem dL_law_1318 : decode cL_law 1318 = .ok (.iadd, 1) := by decide +kernel
theorem dL_law_1319 : decode cL_law 1319 = .ok (.iaload, 1) := by decide +kernel
theorem dL_law_1320 : decode cL_law 1320 = .ok (.invokevirtual 161, 3) := by decide +kernel
theorem dL_law_1323 : decode cL_law 1323 = .ok (.if_icmp .eq 212, 3) := by decide +kernel
theorem dL_law_1326 : decode cL_law 1326 = .ok (.iconst 0, 1) := by decide +kernel
theorem dL_law_1327 : decode cL_law 1327 = .ok (.ireturn, 1) := by decide +kernel
theorem dL_law_1328 : decode cL_law 1328 = .ok (.aload_n 1, 1) := by decide +kernel
theorem dL_law_1329 : decode cL_law 1329 = .ok (.aload_n 0, 1) := by decide +kernel
theorem dL_law_1330 : decode cL_law 1330 = .ok (.iload 4, 2) := by decide +kernel
theorem dL_law_1332 : decode cL_law 1332 = .ok (.iconst 1, 1) := by decide +kernel
theorem dL_law_1333 : decode cL_law 1333 = .ok (.iadd, 1) := by decide +kernel
theorem dL_law_1334 : decode cL_law 1334 = .ok (.iaload, 1) := by decide +kernel
theorem dL_law_1335 : decode cL_law 1335 = .ok (.aload_n 0, 1) := by decide +kernel
theorem dL_law_1336 : decode cL_law 1336 = .ok (.iload 4, 2) := by decide +kernel
theorem dL_law_1338 : decode cL_law 1338 = .ok (.iconst 2, 1) := by decide +kernel
theorem dL_law_1339 : decode cL_law 1339 = .ok (.iadd, 1) := by decide +kernel
theorem dL_law_1340 : decode cL_law 1340 = .ok (.iaload, 1) := by decide +kernel
theorem dL_law_1341 : decode cL_law 1341 = .ok (.invokevirtual 162, 3) := by decide +kernel
theorem dL_law_1344 : decode cL_law 1344 = .ok (.aload_n 2, 1) := by decide +kernel
theorem dL_law_1345 : decode cL_law 1345 = .ok (.aload_n 0, 1) := by decide +kernel
theorem dL_law_1346 : decode cL_law 1346 = .ok (.iload 4, 2) := by decide +kernel
theorem dL_law_1348 : decode cL_law 1348 = .ok (.iconst 1, 1) := by decide +kernel
theorem dL_law_1349 : decode cL_law 1349 = .ok (.iadd, 1) := by decide +kernel
theorem dL_law_1350 : decode cL_law 1350 = .ok (.iaload, 1) := by decide +kernel
theorem dL_law_1351 : decode cL_law 1351 = .ok (.aload_n 0, 1) := by decide +kernel
theorem dL_law_1352 : decode cL_law 1352 = .ok (.iload 4, 2) := by decide +kernel
theorem dL_law_1354 : decode cL_law 1354 = .ok (.iconst 2, 1) := by decide +kernel
theorem dL_law_1355 : decode cL_law 1355 = .ok (.iadd, 1) := by decide +kernel
theorem dL_law_1356 : decode cL_law 1356 = .ok (.iaload, 1) := by decide +kernel
theorem dL_law_1357 : decode cL_law 1357 = .ok (.invokevirtual 165, 3) := by decide +kernel
theorem dL_law_1360 : decode cL_law 1360 = .ok (.if_icmp .eq 175, 3) := by decide +kernel
theorem dL_law_1363 : decode cL_law 1363 = .ok (.iconst 0, 1) := by decide +kernel
theorem dL_law_1364 : decode cL_law 1364 = .ok (.ireturn, 1) := by decide +kernel
theorem dL_law_1365 : decode cL_law 1365 = .ok (.aload_n 1, 1) := by decide +kernel
theorem dL_law_1366 : decode cL_law 1366 = .ok (.aload_n 0, 1) := by decide +kernel
theorem dL_law_1367 : decode cL_law 1367 = .ok (.iload 4, 2) := by decide +kernel
theorem dL_law_1369 : decode cL_law 1369 = .ok (.iconst 1, 1) := by decide +kernel
theorem dL_law_1370 : decode cL_law 1370 = .ok (.iadd, 1) := by decide +kernel
theorem dL_law_1371 : decode cL_law 1371 = .ok (.iaload, 1) := by decide +kernel
theorem dL_law_1372 : decode cL_law 1372 = .ok (.aload_n 0, 1) := by decide +kernel
theorem dL_law_1373 : decode cL_law 1373 = .ok (.iload 4, 2) := by decide +kernel
theorem dL_law_1375 : decode cL_law 1375 = .ok (.iconst 2, 1) := by decide +kernel
theorem dL_law_1376 : decode cL_law 1376 = .ok (.iadd, 1) := by decide +kernel
theorem dL_law_1377 : decode cL_law 1377 = .ok (.iaload, 1) := by decide +kernel
theorem dL_law_1378 : decode cL_law 1378 = .ok (.invokevirtual 166, 3) := by decide +kernel
theorem dL_law_1381 : decode cL_law 1381 = .ok (.aload_n 2, 1) := by decide +kernel
theorem dL_law_1382 : decode cL_law 1382 = .ok (.aload_n 0, 1) := by decide +kernel
theorem dL_law_1383 : decode cL_law 1383 = .ok (.iload 4, 2) := by decide +kernel
theorem dL_law_1385 : decode cL_law 1385 = .ok (.iconst 1, 1) := by decide +kernel
theorem dL_law_1386 : decode cL_law 1386 = .ok (.iadd, 1) := by decide +kernel
theorem dL_law_1387 : decode cL_law 1387 = .ok (.iaload, 1) := by decide +kernel
theorem dL_law_1388 : decode cL_law 1388 = .ok (.aload_n 0, 1) := by decide +kernel
theorem dL_law_1389 : decode cL_law 1389 = .ok (.iload 4, 2) := by decide +kernel
theorem dL_law_1391 : decode cL_law 1391 = .ok (.iconst 2, 1) := by decide +kernel
theorem dL_law_1392 : decode cL_law 1392 = .ok (.iadd, 1) := by decide +kernel
theorem dL_law_1393 : decode cL_law 1393 = .ok (.iaload, 1) := by decide +kernel
theorem dL_law_1394 : decode cL_law 1394 = .ok (.invokevirtual 169, 3) := by decide +kernel
theorem dL_law_1397 : decode cL_law 1397 = .ok (.if_icmp .eq 138, 3) := by decide +kernel
theorem dL_law_1400 : decode cL_law 1400 = .ok (.iconst 0, 1) := by decide +kernel
theorem dL_law_1401 : decode cL_law 1401 = .ok (.ireturn, 1) := by decide +kernel
theorem dL_law_1402 : decode cL_law 1402 = .ok (.aload_n 1, 1) := by decide +kernel
theorem dL_law_1403 : decode cL_law 1403 = .ok (.aload_n 0, 1) := by decide +kernel
theorem dL_law_1404 : decode cL_law 1404 = .ok (.iload 4, 2) := by decide +kernel
theorem dL_law_1406 : decode cL_law 1406 = .ok (.iconst 1, 1) := by decide +kernel
theorem dL_law_1407 : decode cL_law 1407 = .ok (.iadd, 1) := by decide +kernel
theorem dL_law_1408 : decode cL_law 1408 = .ok (.iaload, 1) := by decide +kernel
theorem dL_law_1409 : decode cL_law 1409 = .ok (.i2l, 1) := by decide +kernel
theorem dL_law_1410 : decode cL_law 1410 = .ok (.bipush 32, 2) := by decide +kernel
theorem dL_law_1412 : decode cL_law 1412 = .ok (.lshl, 1) := by decide +kernel
theorem dL_law_1413 : decode cL_law 1413 = .ok (.aload_n 0, 1) := by decide +kernel
theorem dL_law_1414 : decode cL_law 1414 = .ok (.iload 4, 2) := by decide +kernel
theorem dL_law_1416 : decode cL_law 1416 = .ok (.iconst 2, 1) := by decide +kernel
theorem dL_law_1417 : decode cL_law 1417 = .ok (.iadd, 1) := by decide +kernel
theorem dL_law_1418 : decode cL_law 1418 = .ok (.iaload, 1) := by decide +kernel
theorem dL_law_1419 : decode cL_law 1419 = .ok (.i2l, 1) := by decide +kernel
theorem dL_law_1420 : decode cL_law 1420 = .ok (.ldc2_w 147, 3) := by decide +kernel
theorem dL_law_1423 : decode cL_law 1423 = .ok (.land, 1) := by decide +kernel
theorem dL_law_1424 : decode cL_law 1424 = .ok (.lor, 1) := by decide +kernel
theorem dL_law_1425 : decode cL_law 1425 = .ok (.aload_n 0, 1) := by decide +kernel
theorem dL_law_1426 : decode cL_law 1426 = .ok (.iload 4, 2) := by decide +kernel
theorem dL_law_1428 : decode cL_law 1428 = .ok (.iconst 3, 1) := by decide +kernel
theorem dL_law_1429 : decode cL_law 1429 = .ok (.iadd, 1) := by decide +kernel
theorem dL_law_1430 : decode cL_law 1430 = .ok (.iaload, 1) := by decide +kernel
theorem dL_law_1431 : decode cL_law 1431 = .ok (.invokevirtual 170, 3) := by decide +kernel
theorem dL_law_1434 : decode cL_law 1434 = .ok (.aload_n 2, 1) := by decide +kernel
theorem dL_law_1435 : decode cL_law 1435 = .ok (.aload_n 0, 1) := by decide +kernel
theorem dL_law_1436 : decode cL_law 1436 = .ok (.iload 4, 2) := by decide +kernel
theorem dL_law_1438 : decode cL_law 1438 = .ok (.iconst 1, 1) := by decide +kernel
theorem dL_law_1439 : decode cL_law 1439 = .ok (.iadd, 1) := by decide +kernel
theorem dL_law_1440 : decode cL_law 1440 = .ok (.iaload, 1) := by decide +kernel
theorem dL_law_1441 : decode cL_law 1441 = .ok (.i2l, 1) := by decide +kernel
theorem dL_law_1442 : decode cL_law 1442 = .ok (.bipush 32, 2) := by decide +kernel
theorem dL_law_1444 : decode cL_law 1444 = .ok (.lshl, 1) := by decide +kernel
theorem dL_law_1445 : decode cL_law 1445 = .ok (.aload_n 0, 1) := by decide +kernel
theorem dL_law_1446 : decode cL_law 1446 = .ok (.iload 4, 2) := by decide +kernel
theorem dL_law_1448 : decode cL_law 1448 = .ok (.iconst 2, 1) := by decide +kernel
theorem dL_law_1449 : decode cL_law 1449 = .ok (.iadd, 1) := by decide +kernel
theorem dL_law_1450 : decode cL_law 1450 = .ok (.iaload, 1) := by decide +kernel
theorem dL_law_1451 : decode cL_law 1451 = .ok (.i2l, 1) := by decide +kernel
theorem dL_law_1452 : decode cL_law 1452 = .ok (.ldc2_w 147, 3) := by decide +kernel
theorem dL_law_1455 : decode cL_law 1455 = .ok (.land, 1) := by decide +kernel
theorem dL_law_1456 : decode cL_law 1456 = .ok (.lor, 1) := by decide +kernel
theorem dL_law_1457 : decode cL_law 1457 = .ok (.aload_n 0, 1) := by decide +kernel
theorem dL_law_1458 : decode cL_law 1458 = .ok (.iload 4, 2) := by decide +kernel
theorem dL_law_1460 : decode cL_law 1460 = .ok (.iconst 3, 1) := by decide +kernel
theorem dL_law_1461 : decode cL_law 1461 = .ok (.iadd, 1) := by decide +kernel
theorem dL_law_1462 : decode cL_law 1462 = .ok (.iaload, 1) := by decide +kernel
theorem dL_law_1463 : decode cL_law 1463 = .ok (.invokevirtual 174, 3) := by decide +kernel
theorem dL_law_1466 : decode cL_law 1466 = .ok (.if_icmp .eq 69, 3) := by decide +kernel
theorem dL_law_1469 : decode cL_law 1469 = .ok (.iconst 0, 1) := by decide +kernel
theorem dL_law_1470 : decode cL_law 1470 = .ok (.ireturn, 1) := by decide +kernel
theorem dL_law_1471 : decode cL_law 1471 = .ok (.aload_n 1, 1) := by decide +kernel
theorem dL_law_1472 : decode cL_law 1472 = .ok (.invokevirtual 175, 3) := by decide +kernel
theorem dL_law_1475 : decode cL_law 1475 = .ok (.aload_n 2, 1) := by decide +kernel
theorem dL_law_1476 : decode cL_law 1476 = .ok (.invokevirtual 178, 3) := by decide +kernel
theorem dL_law_1479 : decode cL_law 1479 = .ok (.if_icmp .eq 56, 3) := by decide +kernel
theorem dL_law_1482 : decode cL_law 1482 = .ok (.iconst 0, 1) := by decide +kernel
theorem dL_law_1483 : decode cL_law 1483 = .ok (.ireturn, 1) := by decide +kernel
theorem dL_law_1484 : decode cL_law 1484 = .ok (.aload_n 1, 1) := by decide +kernel
theorem dL_law_1485 : decode cL_law 1485 = .ok (.invokevirtual 179, 3) := by decide +kernel
theorem dL_law_1488 : decode cL_law 1488 = .ok (.aload_n 2, 1) := by decide +kernel
theorem dL_law_1489 : decode cL_law 1489 = .ok (.invokevirtual 182, 3) := by decide +kernel
theorem dL_law_1492 : decode cL_law 1492 = .ok (.if_icmp .eq 43, 3) := by decide +kernel
theorem dL_law_1495 : decode cL_law 1495 = .ok (.iconst 0, 1) := by decide +kernel
theorem dL_law_1496 : decode cL_law 1496 = .ok (.ireturn, 1) := by decide +kernel
theorem dL_law_1497 : decode cL_law 1497 = .ok (.aload_n 1, 1) := by decide +kernel
theorem dL_law_1498 : decode cL_law 1498 = .ok (.invokevirtual 183, 3) := by decide +kernel
theorem dL_law_1501 : decode cL_law 1501 = .ok (.aload_n 2, 1) := by decide +kernel
theorem dL_law_1502 : decode cL_law 1502 = .ok (.invokevirtual 186, 3) := by decide +kernel
theorem dL_law_1505 : decode cL_law 1505 = .ok (.if_icmp .eq 30, 3) := by decide +kernel
theorem dL_law_1508 : decode cL_law 1508 = .ok (.iconst 0, 1) := by decide +kernel
theorem dL_law_1509 : decode cL_law 1509 = .ok (.ireturn, 1) := by decide +kernel
theorem dL_law_1510 : decode cL_law 1510 = .ok (.aload_n 1, 1) := by decide +kernel
theorem dL_law_1511 : decode cL_law 1511 = .ok (.aload_n 0, 1) := by decide +kernel
theorem dL_law_1512 : decode cL_law 1512 = .ok (.iload 4, 2) := by decide +kernel
theorem dL_law_1514 : decode cL_law 1514 = .ok (.iconst 1, 1) := by decide +kernel
theorem dL_law_1515 : decode cL_law 1515 = .ok (.iadd, 1) := by decide +kernel
theorem dL_law_1516 : decode cL_law 1516 = .ok (.iaload, 1) := by decide +kernel
theorem dL_law_1517 : decode cL_law 1517 = .ok (.invokevirtual 187, 3) := by decide +kernel
theorem dL_law_1520 : decode cL_law 1520 = .ok (.aload_n 2, 1) := by decide +kernel
theorem dL_law_1521 : decode cL_law 1521 = .ok (.aload_n 0, 1) := by decide +kernel
theorem dL_law_1522 : decode cL_law 1522 = .ok (.iload 4, 2) := by decide +kernel
theorem dL_law_1524 : decode cL_law 1524 = .ok (.iconst 1, 1) := by decide +kernel
theorem dL_law_1525 : decode cL_law 1525 = .ok (.iadd, 1) := by decide +kernel
theorem dL_law_1526 : decode cL_law 1526 = .ok (.iaload, 1) := by decide +kernel
theorem dL_law_1527 : decode cL_law 1527 = .ok (.invokevirtual 190, 3) := by decide +kernel
theorem dL_law_1530 : decode cL_law 1530 = .ok (.if_icmp .eq 5, 3) := by decide +kernel
theorem dL_law_1533 : decode cL_law 1533 = .ok (.iconst 0, 1) := by decide +kernel
theorem dL_law_1534 : decode cL_law 1534 = .ok (.ireturn, 1) := by decide +kernel
theorem dL_law_1535 : decode cL_law 1535 = .ok (.iinc 4 6, 3) := by decide +kernel
theorem dL_law_1538 : decode cL_law 1538 = .ok (.goto (-1515), 3) := by decide +kernel
theorem dL_law_1541 : decode cL_law 1541 = .ok (.iconst 1, 1) := by decide +kernel
theorem dL_law_1542 : decode cL_law 1542 = .ok (.ireturn, 1) := by decide +kernel
