theorem dX10_stands_26 : decode cX10_stands 26 = .ok (.iload_n 2, 1) := by decide +kernel
theorem dX10_stands_27 : decode cX10_stands 27 = .ok (.ifCond .eq 5, 3) := by decide +kernel
theorem dX10_stands_30 : decode cX10_stands 30 = .ok (.iconst (-1), 1) := by decide +kernel
theorem dX10_stands_31 : decode cX10_stands 31 = .ok (.ireturn, 1) := by decide +kernel
theorem dX10_stands_32 : decode cX10_stands 32 = .ok (.aload_n 0, 1) := by decide +kernel
theorem dX10_stands_33 : decode cX10_stands 33 = .ok (.invokevirtual 188, 3) := by decide +kernel
theorem dX10_stands_36 : decode cX10_stands 36 = .ok (.iload_n 1, 1) := by decide +kernel
theorem dX10_stands_37 : decode cX10_stands 37 = .ok (.iconst (-1), 1) := by decide +kernel
theorem dX10_stands_38 : decode cX10_stands 38 = .ok (.if_icmp .ne 11, 3) := by decide +kernel
theorem dX10_stands_41 : decode cX10_stands 41 = .ok (.aload_n 0, 1) := by decide +kernel
theorem dX10_stands_42 : decode cX10_stands 42 = .ok (.getfield 85, 3) := by decide +kernel
theorem dX10_stands_45 : decode cX10_stands 45 = .ok (.invokevirtual 191, 3) := by decide +kernel
theorem dX10_stands_48 : decode cX10_stands 48 = .ok (.ireturn, 1) := by decide +kernel
theorem dX10_stands_49 : decode cX10_stands 49 = .ok (.aload_n 0, 1) := by decide +kernel
theorem dX10_stands_50 : decode cX10_stands 50 = .ok (.getfield 85, 3) := by decide +kernel
theorem dX10_stands_53 : decode cX10_stands 53 = .ok (.iload_n 1, 1) := by decide +kernel
theorem dX10_stands_54 : decode cX10_stands 54 = .ok (.invokevirtual 194, 3) := by decide +kernel
theorem dX10_stands_57 : decode cX10_stands 57 = .ok (.istore_n 3, 1) := by decide +kernel
theorem dX10_stands_58 : decode cX10_stands 58 = .ok (.iload_n 3, 1) := by decide +kernel
theorem dX10_stands_59 : decode cX10_stands 59 = .ok (.iconst (-1), 1) := by decide +kernel
theorem dX10_stands_60 : decode cX10_stands 60 = .ok (.if_icmp .ne 7, 3) := by decide +kernel
theorem dX10_stands_63 : decode cX10_stands 63 = .ok (.iconst (-1), 1) := by decide +kernel
theorem dX10_stands_64 : decode cX10_stands 64 = .ok (.goto 12, 3) := by decide +kernel
theorem dX10_stands_67 : decode cX10_stands 67 = .ok (.aload_n 0, 1) := by decide +kernel
theorem dX10_stands_68 : decode cX10_stands 68 = .ok (.getfield 85, 3) := by decide +kernel
theorem dX10_stands_71 : decode cX10_stands 71 = .ok (.iload_n 3, 1) := by decide +kernel
theorem dX10_stands_72 : decode cX10_stands 72 = .ok (.iload_n 2, 1) := by decide +kernel
theorem dX10_stands_73 : decode cX10_stands 73 = .ok (.invokevirtual 197, 3) := by decide +kernel
theorem dX10_stands_76 : decode cX10_stands 76 = .ok (.ireturn, 1) := by decide +kernel
theorem dX10_level_0 : decode cX10_level 0 = .ok (.aload_n 0, 1) := by decide +kernel
theorem dX10_level_1 : decode cX10_level 1 = .ok (.invokevirtual 148, 3) := by decide +kernel
theorem dX10_level_4 : decode cX10_level 4 = .ok (.ifCond .ne 12, 3) := by decide +kernel
theorem dX10_level_7 : decode cX10_level 7 = .ok (.iload_n 1, 1) := by decide +kernel
theorem dX10_level_8 : decode cX10_level 8 = .ok (.ifCond .lt 8, 3) := by decide +kernel
theorem dX10_level_11 : decode cX10_level 11 = .ok (.iload_n 1, 1) := by decide +kernel
theorem dX10_level_12 : decode cX10_level 12 = .ok (.iconst 4, 1) := by decide +kernel
theorem dX10_level_13 : decode cX10_level 13 = .ok (.if_icmp .le 7, 3) := by decide +kernel
theorem dX10_level_16 : decode cX10_level 16 = .ok (.ldc2_w 201, 3) := by decide +kernel
theorem dX10_level_19 : decode cX10_level 19 = .ok (.lreturn, 1) := by decide +kernel
theorem dX10_level_20 : decode cX10_level 20 = .ok (.aload_n 0, 1) := by decide +kernel
theorem dX10_level_21 : decode cX10_level 21 = .ok (.invokevirtual 188, 3) := by decide +kernel
theorem dX10_level_24 : decode cX10_level 24 = .ok (.aload_n 0, 1) := by decide +kernel
theorem dX10_level_25 : decode cX10_level 25 = .ok (.invokevirtual 203, 3) := by decide +kernel
theorem dX10_level_28 : decode cX10_level 28 = .ok (.istore_n 2, 1) := by decide +kernel
theorem dX10_level_29 : decode cX10_level 29 = .ok (.iload_n 2, 1) := by decide +kernel
theorem dX10_level_30 : decode cX10_level 30 = .ok (.iconst (-1), 1) := by decide +kernel
theorem dX10_level_31 : decode cX10_level 31 = .ok (.if_icmp .ne 7, 3) := by decide +kernel
theorem dX10_level_34 : decode cX10_level 34 = .ok (.ldc2_w 201, 3) := by decide +kernel
theorem dX10_level_37 : decode cX10_level 37 = .ok (.lreturn, 1) := by decide +kernel
theorem dX10_level_38 : decode cX10_level 38 = .ok (.iload_n 1, 1) := by decide +kernel
theorem dX10_level_39 : decode cX10_level 39 = .ok (.iconst 2, 1) := by decide +kernel
theorem dX10_level_40 : decode cX10_level 40 = .ok (.if_icmp .gt 14, 3) := by decide +kernel
theorem dX10_level_43 : decode cX10_level 43 = .ok (.aload_n 0, 1) := by decide +kernel
theorem dX10_level_44 : decode cX10_level 44 = .ok (.getfield 85, 3) := by decide +kernel
theorem dX10_level_47 : decode cX10_level 47 = .ok (.iload_n 2, 1) := by decide +kernel
theorem dX10_level_48 : decode cX10_level 48 = .ok (.iload_n 1, 1) := by decide +kernel
theorem dX10_level_49 : decode cX10_level 49 = .ok (.invokevirtual 197, 3) := by decide +kernel
theorem dX10_level_52 : decode cX10_level 52 = .ok (.i2l, 1) := by decide +kernel
theorem dX10_level_53 : decode cX10_level 53 = .ok (.lreturn, 1) := by decide +kernel
theorem dX10_level_54 : decode cX10_level 54 = .ok (.aload_n 0, 1) := by decide +kernel
theorem dX10_level_55 : decode cX10_level 55 = .ok (.getfield 85, 3) := by decide +kernel
theorem dX10_level_58 : decode cX10_level 58 = .ok (.iload_n 2, 1) := by decide +kernel
theorem dX10_level_59 : decode cX10_level 59 = .ok (.iconst 2, 1) := by decide +kernel
theorem dX10_level_60 : decode cX10_level 60 = .ok (.invokevirtual 197, 3) := by decide +kernel
theorem dX10_level_63 : decode cX10_level 63 = .ok (.istore_n 3, 1) := by decide +kernel
theorem dX10_level_64 : decode cX10_level 64 = .ok (.aload_n 0, 1) := by decide +kernel
theorem dX10_level_65 : decode cX10_level 65 = .ok (.iload_n 2, 1) := by decide +kernel
theorem dX10_level_66 : decode cX10_level 66 = .ok (.aload_n 0, 1) := by decide +kernel
theorem dX10_level_67 : decode cX10_level 67 = .ok (.getfield 85, 3) := by decide +kernel
theorem dX10_level_70 : decode cX10_level 70 = .ok (.iload_n 2, 1) := by decide +kernel
theorem dX10_level_71 : decode cX10_level 71 = .ok (.iconst 1, 1) := by decide +kernel
theorem dX10_level_72 : decode cX10_level 72 = .ok (.invokevirtual 197, 3) := by decide +kernel
theorem dX10_level_75 : decode cX10_level 75 = .ok (.iload_n 3, 1) := by decide +kernel
theorem dX10_level_76 : decode cX10_level 76 = .ok (.invokevirtual 206, 3) := by decide +kernel
theorem dX10_level_79 : decode cX10_level 79 = .ok (.istore 4, 2) := by decide +kernel
theorem dX10_level_81 : decode cX10_level 81 = .ok (.iload 4, 2) := by decide +kernel
theorem dX10_level_83 : decode cX10_level 83 = .ok (.iload_n 3, 1) := by decide +kernel
theorem dX10_level_84 : decode cX10_level 84 = .ok (.invokestatic 210, 3) := by decide +kernel
theorem dX10_level_87 : decode cX10_level 87 = .ok (.istore 5, 2) := by decide +kernel
theorem dX10_level_89 : decode cX10_level 89 = .ok (.iload 5, 2) := by decide +kernel
theorem dX10_level_91 : decode cX10_level 91 = .ok (.ifCond .ne 9, 3) := by decide +kernel
theorem dX10_level_94 : decode cX10_level 94 = .ok (.ldc2_w 201, 3) := by decide +kernel
theorem dX10_level_97 : decode cX10_level 97 = .ok (.goto 18, 3) := by decide +kernel
theorem dX10_level_100 : decode cX10_level 100 = .ok (.iload_n 1, 1) := by decide +kernel
theorem dX10_level_101 : decode cX10_level 101 = .ok (.iconst 3, 1) := by decide +kernel
theorem dX10_level_102 : decode cX10_level 102 = .ok (.if_icmp .ne 8, 3) := by decide +kernel
theorem dX10_level_105 : decode cX10_level 105 = .ok (.iload 4, 2) := by decide +kernel
theorem dX10_level_107 : decode cX10_level 107 = .ok (.goto 4, 3) := by decide +kernel
theorem dX10_level_110 : decode cX10_level 110 = .ok (.iload_n 3, 1) := by decide +kernel
theorem dX10_level_111 : decode cX10_level 111 = .ok (.iload 5, 2) := by decide +kernel
theorem dX10_level_113 : decode cX10_level 113 = .ok (.idiv, 1) := by decide +kernel
theorem dX10_level_114 : decode cX10_level 114 = .ok (.i2l, 1) := by decide +kernel
theorem dX10_level_115 : decode cX10_level 115 = .ok (.lreturn, 1) := by decide +kernel
theorem dX10_levellest_0 : decode cX10_levellest 0 = .ok (.iconst (-1), 1) := by decide +kernel
theorem dX10_levellest_1 : decode cX10_levellest 1 = .ok (.istore_n 1, 1) := by decide +kernel
theorem dX10_levellest_2 : decode cX10_levellest 2 = .ok (.lconst 0, 1) := by decide +kernel
theorem dX10_levellest_3 : decode cX10_levellest 3 = .ok (.lstore_n 2, 1) := by decide +kernel
theorem dX10_levellest_4 : decode cX10_levellest 4 = .ok (.lconst 1, 1) := by decide +kernel
theorem dX10_levellest_5 : decode cX10_levellest 5 = .ok (.lstore 4, 2) := by decide +kernel
theorem dX10_levellest_7 : decode cX10_levellest 7 = .ok (.iconst 0, 1) := by decide +kernel
theorem dX10_levellest_8 : decode cX10_levellest 8 = .ok (.istore 6, 2) := by decide +kernel
theorem dX10_levellest_10 : decode cX10_levellest 10 = .ok (.iload 6, 2) := by decide +kernel
theorem dX10_levellest_12 : decode cX10_levellest 12 = .ok (.aload_n 0, 1) := by decide +kernel
theorem dX10_levellest_13 : decode cX10_levellest 13 = .ok (.getfield 46, 3) := by decide +kernel
theorem dX10_levellest_16 : decode cX10_levellest 16 = .ok (.getfield 137, 3) := by decide +kernel
theorem dX10_levellest_19 : decode cX10_levellest 19 = .ok (.if_icmp .ge 85, 3) := by decide +kernel
theorem dX10_levellest_22 : decode cX10_levellest 22 = .ok (.aload_n 0, 1) := by decide +kernel
theorem dX10_levellest_23 : decode cX10_levellest 23 = .ok (.getfield 85, 3) := by decide +kernel
theorem dX10_levellest_26 : decode cX10_levellest 26 = .ok (.iload 6, 2) := by decide +kernel
theorem dX10_levellest_28 : decode cX10_levellest 28 = .ok (.invokevirtual 213, 3) := by decide +kernel
theorem dX10_levellest_31 : decode cX10_levellest 31 = .ok (.ifCond .eq 67, 3) := by decide +kernel
theorem dX10_levellest_34 : decode cX10_levellest 34 = .ok (.aload_n 0, 1) := by decide +kernel
theorem dX10_levellest_35 : decode cX10_levellest 35 = .ok (.getfield 85, 3) := by decide +kernel
theorem dX10_levellest_38 : decode cX10_levellest 38 = .ok (.iload 6, 2) := by decide +kernel
theorem dX10_levellest_40 : decode cX10_levellest 40 = .ok (.iconst 2, 1) := by decide +kernel
theorem dX10_levellest_41 : decode cX10_levellest 41 = .ok (.invokevirtual 197, 3) := by decide +kernel
theorem dX10_levellest_44 : decode cX10_levellest 44 = .ok (.istore 7, 2) := by decide +kernel
theorem dX10_levellest_46 : decode cX10_levellest 46 = .ok (.aload_n 0, 1) := by decide +kernel
theorem dX10_levellest_47 : decode cX10_levellest 47 = .ok (.iload 6, 2) := by decide +kernel
theorem dX10_levellest_49 : decode cX10_levellest 49 = .ok (.aload_n 0, 1) := by decide +kernel
theorem dX10_levellest_50 : decode cX10_levellest 50 = .ok (.getfield 85, 3) := by decide +kernel
theorem dX10_levellest_53 : decode cX10_levellest 53 = .ok (.iload 6, 2) := by decide +kernel
theorem dX10_levellest_55 : decode cX10_levellest 55 = .ok (.iconst 1, 1) := by decide +kernel
theorem dX10_levellest_56 : decode cX10_levellest 56 = .ok (.invokevirtual 197, 3) := by decide +kernel
theorem dX10_levellest_59 : decode cX10_levellest 59 = .ok (.iload 7, 2) := by decide +kernel
theorem dX10_levellest_61 : decode cX10_levellest 61 = .ok (.invokevirtual 206, 3) := by decide +kernel
theorem dX10_levellest_64 : decode cX10_levellest 64 = .ok (.istore 8, 2) := by decide +kernel
theorem dX10_levellest_66 : decode cX10_levellest 66 = .ok (.iload_n 1, 1) := by decide +kernel
theorem dX10_levellest_67 : decode cX10_levellest 67 = .ok (.iconst (-1), 1) := by decide +kernel
theorem dX10_levellest_68 : decode cX10_levellest 68 = .ok (.if_icmp .eq 18, 3) := by decide +kernel
theorem dX10_levellest_71 : decode cX10_levellest 71 = .ok (.iload 8, 2) := by decide +kernel
theorem dX10_levellest_73 : decode cX10_levellest 73 = .ok (.i2l, 1) := by decide +kernel
theorem dX10_levellest_74 : decode cX10_levellest 74 = .ok (.lload 4, 2) := by decide +kernel
theorem dX10_levellest_76 : decode cX10_levellest 76 = .ok (.lmul, 1) := by decide +kernel
theorem dX10_levellest_77 : decode cX10_levellest 77 = .ok (.lload_n 2, 1) := by decide +kernel
theorem dX10_levellest_78 : decode cX10_levellest 78 = .ok (.iload 7, 2) := by decide +kernel
theorem dX10_levellest_80 : decode cX10_levellest 80 = .ok (.i2l, 1) := by decide +kernel
theorem dX10_levellest_81 : decode cX10_levellest 81 = .ok (.lmul, 1) := by decide +kernel
theorem dX10_levellest_82 : decode cX10_levellest 82 = .ok (.lcmp, 1) := by decide +kernel
theorem dX10_levellest_83 : decode cX10_levellest 83 = .ok (.ifCond .ge 15, 3) := by decide +kernel
theorem dX10_levellest_86 : decode cX10_levellest 86 = .ok (.iload 6, 2) := by decide +kernel
theorem dX10_levellest_88 : decode cX10_levellest 88 = .ok (.istore_n 1, 1) := by decide +kernel
theorem dX10_levellest_89 : decode cX10_levellest 89 = .ok (.iload 8, 2) := by decide +kernel
theorem dX10_levellest_91 : decode cX10_levellest 91 = .ok (.i2l, 1) := by decide +kernel
theorem dX10_levellest_92 : decode cX10_levellest 92 = .ok (.lstore_n 2, 1) := by decide +kernel
theorem dX10_levellest_93 : decode cX10_levellest 93 = .ok (.iload 7, 2) := by decide +kernel
theorem dX10_levellest_95 : decode cX10_levellest 95 = .ok (.i2l, 1) := by decide +kernel
theorem dX10_levellest_96 : decode cX10_levellest 96 = .ok (.lstore 4, 2) := by decide +kernel
theorem dX10_levellest_98 : decode cX10_levellest 98 = .ok (.iinc 6 1, 3) := by decide +kernel
theorem dX10_levellest_101 : decode cX10_levellest 101 = .ok (.goto (-91), 3) := by decide +kernel
theorem dX10_levellest_104 : decode cX10_levellest 104 = .ok (.iload_n 1, 1) := by decide +kernel
theorem dX10_levellest_105 : decode cX10_levellest 105 = .ok (.ireturn, 1) := by decide +kernel
theorem dX10_tiltParts_0 : decode cX10_tiltParts 0 = .ok (.aload_n 0, 1) := by decide +kernel
theorem dX10_tiltParts_1 : decode cX10_tiltParts 1 = .ok (.getfield 46, 3) := by decide +kernel
theorem dX10_tiltParts_4 : decode cX10_tiltParts 4 = .ok (.iload_n 1, 1) := by decide +kernel
theorem dX10_tiltParts_5 : decode cX10_tiltParts 5 = .ok (.iconst 1, 1) := by decide +kernel
theorem dX10_tiltParts_6 : decode cX10_tiltParts 6 = .ok (.iadd, 1) := by decide +kernel
theorem dX10_tiltParts_7 : decode cX10_tiltParts 7 = .ok (.invokevirtual 216, 3) := by decide +kernel
theorem dX10_tiltParts_10 : decode cX10_tiltParts 10 = .ok (.istore 4, 2) := by decide +kernel
theorem dX10_tiltParts_12 : decode cX10_tiltParts 12 = .ok (.aload_n 0, 1) := by decide +kernel
theorem dX10_tiltParts_13 : decode cX10_tiltParts 13 = .ok (.getfield 46, 3) := by decide +kernel
theorem dX10_tiltParts_16 : decode cX10_tiltParts 16 = .ok (.iload_n 1, 1) := by decide +kernel
theorem dX10_tiltParts_17 : decode cX10_tiltParts 17 = .ok (.iconst 0, 1) := by decide +kernel
theorem dX10_tiltParts_18 : decode cX10_tiltParts 18 = .ok (.invokevirtual 219, 3) := by decide +kernel
theorem dX10_tiltParts_21 : decode cX10_tiltParts 21 = .ok (.iload_n 3, 1) := by decide +kernel
theorem dX10_tiltParts_22 : decode cX10_tiltParts 22 = .ok (.iload_n 2, 1) := by decide +kernel
theorem dX10_tiltParts_23 : decode cX10_tiltParts 23 = .ok (.isub, 1) := by decide +kernel
theorem dX10_tiltParts_24 : decode cX10_tiltParts 24 = .ok (.imul, 1) := by decide +kernel
theorem dX10_tiltParts_25 : decode cX10_tiltParts 25 = .ok (.aload_n 0, 1) := by decide +kernel
theorem dX10_tiltParts_26 : decode cX10_tiltParts 26 = .ok (.getfield 46, 3) := by decide +kernel
theorem dX10_tiltParts_29 : decode cX10_tiltParts 29 = .ok (.iload 4, 2) := by decide +kernel
theorem dX10_tiltParts_31 : decode cX10_tiltParts 31 = .ok (.iconst 0, 1) := by decide +kernel
theorem dX10_tiltParts_32 : decode cX10_tiltParts 32 = .ok (.invokevirtual 219, 3) := by decide +kernel
theorem dX10_tiltParts_35 : decode cX10_tiltParts 35 = .ok (.iload_n 2, 1) := by decide +kernel
theorem dX10_tiltParts_36 : decode cX10_tiltParts 36 = .ok (.imul, 1) := by decide +kernel
theorem dX10_tiltParts_37 : decode cX10_tiltParts 37 = .ok (.iadd, 1) := by decide +kernel
theorem dX10_tiltParts_38 : decode cX10_tiltParts 38 = .ok (.istore 5, 2) := by decide +kernel
theorem dX10_tiltParts_40 : decode cX10_tiltParts 40 = .ok (.aload_n 0, 1) := by decide +kernel
theorem dX10_tiltParts_41 : decode cX10_tiltParts 41 = .ok (.getfield 46, 3) := by decide +kernel
theorem dX10_tiltParts_44 : decode cX10_tiltParts 44 = .ok (.iload_n 1, 1) := by decide +kernel
theorem dX10_tiltParts_45 : decode cX10_tiltParts 45 = .ok (.iconst 1, 1) := by decide +kernel
theorem dX10_tiltParts_46 : decode cX10_tiltParts 46 = .ok (.invokevirtual 219, 3) := by decide +kernel
theorem dX10_tiltParts_49 : decode cX10_tiltParts 49 = .ok (.iload_n 3, 1) := by decide +kernel
theorem dX10_tiltParts_50 : decode cX10_tiltParts 50 = .ok (.iload_n 2, 1) := by decide +kernel
theorem dX10_tiltParts_51 : decode cX10_tiltParts 51 = .ok (.isub, 1) := by decide +kernel
theorem dX10_tiltParts_52 : decode cX10_tiltParts 52 = .ok (.imul, 1) := by decide +kernel
theorem dX10_tiltParts_53 : decode cX10_tiltParts 53 = .ok (.aload_n 0, 1) := by decide +kernel
theorem dX10_tiltParts_54 : decode cX10_tiltParts 54 = .ok (.getfield 46, 3) := by decide +kernel
theorem dX10_tiltParts_57 : decode cX10_tiltParts 57 = .ok (.iload 4, 2) := by decide +kernel
theorem dX10_tiltParts_59 : decode cX10_tiltParts 59 = .ok (.iconst 1, 1) := by decide +kernel
theorem dX10_tiltParts_60 : decode cX10_tiltParts 60 = .ok (.invokevirtual 219, 3) := by decide +kernel
theorem dX10_tiltParts_63 : decode cX10_tiltParts 63 = .ok (.iload_n 2, 1) := by decide +kernel
theorem dX10_tiltParts_64 : decode cX10_tiltParts 64 = .ok (.imul, 1) := by decide +kernel
theorem dX10_tiltParts_65 : decode cX10_tiltParts 65 = .ok (.iadd, 1) := by decide +kernel
theorem dX10_tiltParts_66 : decode cX10_tiltParts 66 = .ok (.istore 6, 2) := by decide +kernel
theorem dX10_tiltParts_68 : decode cX10_tiltParts 68 = .ok (.iload 5, 2) := by decide +kernel
theorem dX10_tiltParts_70 : decode cX10_tiltParts 70 = .ok (.invokestatic 222, 3) := by decide +kernel
theorem dX10_tiltParts_73 : decode cX10_tiltParts 73 = .ok (.iload 6, 2) := by decide +kernel
theorem dX10_tiltParts_75 : decode cX10_tiltParts 75 = .ok (.invokestatic 222, 3) := by decide +kernel
theorem dX10_tiltParts_78 : decode cX10_tiltParts 78 = .ok (.invokestatic 227, 3) := by decide +kernel
theorem dX10_tiltParts_81 : decode cX10_tiltParts 81 = .ok (.ireturn, 1) := by decide +kernel
theorem dX10_within_0 : decode cX10_within 0 = .ok (.aload_n 0, 1) := by decide +kernel
theorem dX10_within_1 : decode cX10_within 1 = .ok (.getfield 46, 3) := by decide +kernel
theorem dX10_within_4 : decode cX10_within 4 = .ok (.iload_n 1, 1) := by decide +kernel
theorem dX10_within_5 : decode cX10_within 5 = .ok (.invokevirtual 152, 3) := by decide +kernel
theorem dX10_within_8 : decode cX10_within 8 = .ok (.ifCond .eq 27, 3) := by decide +kernel
theorem dX10_within_11 : decode cX10_within 11 = .ok (.iload_n 2, 1) := by decide +kernel
theorem dX10_within_12 : decode cX10_within 12 = .ok (.ifCond .lt 23, 3) := by decide +kernel
theorem dX10_within_15 : decode cX10_within 15 = .ok (.iload_n 2, 1) := by decide +kernel
theorem dX10_within_16 : decode cX10_within 16 = .ok (.aload_n 0, 1) := by decide +kernel
theorem dX10_within_17 : decode cX10_within 17 = .ok (.getfield 46, 3) := by decide +kernel
theorem dX10_within_20 : decode cX10_within 20 = .ok (.getfield 137, 3) := by decide +kernel
theorem dX10_within_23 : decode cX10_within 23 = .ok (.if_icmp .gt 12, 3) := by decide +kernel
theorem dX10_within_26 : decode cX10_within 26 = .ok (.iload_n 3, 1) := by decide +kernel
theorem dX10_within_27 : decode cX10_within 27 = .ok (.ifCond .lt 8, 3) := by decide +kernel
theorem dX10_within_30 : decode cX10_within 30 = .ok (.iload_n 3, 1) := by decide +kernel
theorem dX10_within_31 : decode cX10_within 31 = .ok (.iconst 2, 1) := by decide +kernel
theorem dX10_within_32 : decode cX10_within 32 = .ok (.if_icmp .le 5, 3) := by decide +kernel
theorem dX10_within_35 : decode cX10_within 35 = .ok (.iconst (-1), 1) := by decide +kernel
theorem dX10_within_36 : decode cX10_within 36 = .ok (.ireturn, 1) := by decide +kernel
theorem dX10_within_37 : decode cX10_within 37 = .ok (.aload_n 0, 1) := by decide +kernel
theorem dX10_within_38 : decode cX10_within 38 = .ok (.invokevirtual 188, 3) := by decide +kernel
theorem dX10_within_41 : decode cX10_within 41 = .ok (.aload_n 0, 1) := by decide +kernel
theorem dX10_within_42 : decode cX10_within 42 = .ok (.getfield 85, 3) := by decide +kernel
theorem dX10_within_45 : decode cX10_within 45 = .ok (.iload_n 1, 1) := by decide +kernel
theorem dX10_within_46 : decode cX10_within 46 = .ok (.iload_n 2, 1) := by decide +kernel
theorem dX10_within_47 : decode cX10_within 47 = .ok (.invokevirtual 230, 3) := by decide +kernel
theorem dX10_within_50 : decode cX10_within 50 = .ok (.istore 4, 2) := by decide +kernel
theorem dX10_within_52 : decode cX10_within 52 = .ok (.iload 4, 2) := by decide +kernel
theorem dX10_within_54 : decode cX10_within 54 = .ok (.iconst (-1), 1) := by decide +kernel
theorem dX10_within_55 : decode cX10_within 55 = .ok (.if_icmp .ne 7, 3) := by decide +kernel
theorem dX10_within_58 : decode cX10_within 58 = .ok (.iconst (-1), 1) := by decide +kernel
theorem dX10_within_59 : decode cX10_within 59 = .ok (.goto 13, 3) := by decide +kernel
theorem dX10_within_62 : decode cX10_within 62 = .ok (.aload_n 0, 1) := by decide +kernel
theorem dX10_within_63 : decode cX10_within 63 = .ok (.getfield 85, 3) := by decide +kernel
theorem dX10_within_66 : decode cX10_within 66 = .ok (.iload 4, 2) := by decide +kernel
theorem dX10_within_68 : decode cX10_within 68 = .ok (.iload_n 3, 1) := by decide +kernel
theorem dX10_within_69 : decode cX10_within 69 = .ok (.invokevirtual 197, 3) := by decide +kernel
theorem dX10_within_72 : decode cX10_within 72 = .ok (.ireturn, 1) := by decide +kernel
theorem dX10_best_0 : decode cX10_best 0 = .ok (.aload_n 0, 1) := by decide +kernel
theorem dX10_best_1 : decode cX10_best 1 = .ok (.invokevirtual 148, 3) := by decide +kernel
theorem dX10_best_4 : decode cX10_best 4 = .ok (.ifCond .ne 12, 3) := by decide +kernel
theorem dX10_best_7 : decode cX10_best 7 = .ok (.iload_n 1, 1) := by decide +kernel
theorem dX10_best_8 : decode cX10_best 8 = .ok (.ifCond .lt 8, 3) := by decide +kernel
theorem dX10_best_11 : decode cX10_best 11 = .ok (.iload_n 1, 1) := by decide +kernel
theorem dX10_best_12 : decode cX10_best 12 = .ok (.iconst 1, 1) := by decide +kernel
theorem dX10_best_13 : decode cX10_best 13 = .ok (.if_icmp .le 6, 3) := by decide +kernel
theorem dX10_best_16 : decode cX10_best 16 = .ok (.ldc 181, 2) := by decide +kernel
theorem dX10_best_18 : decode cX10_best 18 = .ok (.ireturn, 1) := by decide +kernel
theorem dX10_best_19 : decode cX10_best 19 = .ok (.iconst 0, 1) := by decide +kernel
theorem dX10_best_20 : decode cX10_best 20 = .ok (.istore_n 2, 1) := by decide +kernel
theorem dX10_best_21 : decode cX10_best 21 = .ok (.aload_n 0, 1) := by decide +kernel
theorem dX10_best_22 : decode cX10_best 22 = .ok (.iconst 0, 1) := by decide +kernel
theorem dX10_best_23 : decode cX10_best 23 = .ok (.invokevirtual 233, 3) := by decide +kernel
theorem dX10_best_26 : decode cX10_best 26 = .ok (.istore_n 3, 1) := by decide +kernel
theorem dX10_best_27 : decode cX10_best 27 = .ok (.iconst 1, 1) := by decide +kernel
theorem dX10_best_28 : decode cX10_best 28 = .ok (.istore 4, 2) := by decide +kernel
theorem dX10_best_30 : decode cX10_best 30 = .ok (.iload 4, 2) := by decide +kernel
theorem dX10_best_32 : decode cX10_best 32 = .ok (.aload_n 0, 1) := by decide +kernel
theorem dX10_best_33 : decode cX10_best 33 = .ok (.getfield 46, 3) := by decide +kernel
theorem dX10_best_36 : decode cX10_best 36 = .ok (.getfield 137, 3) := by decide +kernel
theorem dX10_best_39 : decode cX10_best 39 = .ok (.if_icmp .ge 29, 3) := by decide +kernel
theorem dX10_best_42 : decode cX10_best 42 = .ok (.aload_n 0, 1) := by decide +kernel
theorem dX10_best_43 : decode cX10_best 43 = .ok (.iload 4, 2) := by decide +kernel
theorem dX10_best_45 : decode cX10_best 45 = .ok (.invokevirtual 233, 3) := by decide +kernel
theorem dX10_best_48 : decode cX10_best 48 = .ok (.istore 5, 2) := by decide +kernel
theorem dX10_best_50 : decode cX10_best 50 = .ok (.iload 5, 2) := by decide +kernel
theorem dX10_best_52 : decode cX10_best 52 = .ok (.iload_n 3, 1) := by decide +kernel
theorem dX10_best_53 : decode cX10_best 53 = .ok (.if_icmp .ge 9, 3) := by decide +kernel
theorem dX10_best_56 : decode cX10_best 56 = .ok (.iload 4, 2) := by decide +kernel
theorem dX10_best_58 : decode cX10_best 58 = .ok (.istore_n 2, 1) := by decide +kernel
theorem dX10_best_59 : decode cX10_best 59 = .ok (.iload 5, 2) := by decide +kernel
theorem dX10_best_61 : decode cX10_best 61 = .ok (.istore_n 3, 1) := by decide +kernel
theorem dX10_best_62 : decode cX10_best 62 = .ok (.iinc 4 1, 3) := by decide +kernel
theorem dX10_best_65 : decode cX10_best 65 = .ok (.goto (-35), 3) := by decide +kernel
theorem dX10_best_68 : decode cX10_best 68 = .ok (.iload_n 1, 1) := by decide +kernel
theorem dX10_best_69 : decode cX10_best 69 = .ok (.ifCond .ne 7, 3) := by decide +kernel
theorem dX10_best_72 : decode cX10_best 72 = .ok (.iload_n 2, 1) := by decide +kernel
theorem dX10_best_73 : decode cX10_best 73 = .ok (.goto 4, 3) := by decide +kernel
theorem dX10_best_76 : decode cX10_best 76 = .ok (.iload_n 3, 1) := by decide +kernel
theorem dX10_best_77 : decode cX10_best 77 = .ok (.ireturn, 1) := by decide +kernel
theorem dX10_worthOf_0 : decode cX10_worthOf 0 = .ok (.aload_n 0, 1) := by decide +kernel
theorem dX10_worthOf_1 : decode cX10_worthOf 1 = .ok (.getfield 46, 3) := by decide +kernel
theorem dX10_worthOf_4 : decode cX10_worthOf 4 = .ok (.iload_n 1, 1) := by decide +kernel
theorem dX10_worthOf_5 : decode cX10_worthOf 5 = .ok (.invokevirtual 182, 3) := by decide +kernel
theorem dX10_worthOf_8 : decode cX10_worthOf 8 = .ok (.istore_n 2, 1) := by decide +kernel
theorem dX10_worthOf_9 : decode cX10_worthOf 9 = .ok (.aload_n 0, 1) := by decide +kernel
theorem dX10_worthOf_10 : decode cX10_worthOf 10 = .ok (.getfield 40, 3) := by decide +kernel
theorem dX10_worthOf_13 : decode cX10_worthOf 13 = .ok (.ifCond .lt 15, 3) := by decide +kernel
theorem dX10_worthOf_16 : decode cX10_worthOf 16 = .ok (.aload_n 0, 1) := by decide +kernel
theorem dX10_worthOf_17 : decode cX10_worthOf 17 = .ok (.getfield 40, 3) := by decide +kernel
theorem dX10_worthOf_20 : decode cX10_worthOf 20 = .ok (.aload_n 0, 1) := by decide +kernel
theorem dX10_worthOf_21 : decode cX10_worthOf 21 = .ok (.getfield 32, 3) := by decide +kernel
theorem dX10_worthOf_24 : decode cX10_worthOf 24 = .ok (.arraylength, 1) := by decide +kernel
theorem dX10_worthOf_25 : decode cX10_worthOf 25 = .ok (.if_icmp .lt 8, 3) := by decide +kernel
theorem dX10_worthOf_28 : decode cX10_worthOf 28 = .ok (.iload_n 2, 1) := by decide +kernel
theorem dX10_worthOf_29 : decode cX10_worthOf 29 = .ok (.invokestatic 222, 3) := by decide +kernel
theorem dX10_worthOf_32 : decode cX10_worthOf 32 = .ok (.ireturn, 1) := by decide +kernel
theorem dX10_worthOf_33 : decode cX10_worthOf 33 = .ok (.aload_n 0, 1) := by decide +kernel
theorem dX10_worthOf_34 : decode cX10_worthOf 34 = .ok (.getfield 32, 3) := by decide +kernel
theorem dX10_worthOf_37 : decode cX10_worthOf 37 = .ok (.aload_n 0, 1) := by decide +kernel
theorem dX10_worthOf_38 : decode cX10_worthOf 38 = .ok (.getfield 40, 3) := by decide +kernel
theorem dX10_worthOf_41 : decode cX10_worthOf 41 = .ok (.aaload, 1) := by decide +kernel
theorem dX10_worthOf_42 : decode cX10_worthOf 42 = .ok (.iload_n 2, 1) := by decide +kernel
theorem dX10_worthOf_43 : decode cX10_worthOf 43 = .ok (.iload_n 1, 1) := by decide +kernel
theorem dX10_worthOf_44 : decode cX10_worthOf 44 = .ok (.aload_n 0, 1) := by decide +kernel
theorem dX10_worthOf_45 : decode cX10_worthOf 45 = .ok (.getfield 46, 3) := by decide +kernel
theorem dX10_worthOf_48 : decode cX10_worthOf 48 = .ok (.iload_n 1, 1) := by decide +kernel
theorem dX10_worthOf_49 : decode cX10_worthOf 49 = .ok (.invokevirtual 185, 3) := by decide +kernel
theorem dX10_worthOf_52 : decode cX10_worthOf 52 = .ok (.aload_n 0, 1) := by decide +kernel
theorem dX10_worthOf_53 : decode cX10_worthOf 53 = .ok (.getfield 46, 3) := by decide +kernel
theorem dX10_worthOf_56 : decode cX10_worthOf 56 = .ok (.iload_n 1, 1) := by decide +kernel
theorem dX10_worthOf_57 : decode cX10_worthOf 57 = .ok (.invokevirtual 236, 3) := by decide +kernel
theorem dX10_worthOf_60 : decode cX10_worthOf 60 = .ok (.aload_n 0, 1) := by decide +kernel
theorem dX10_worthOf_61 : decode cX10_worthOf 61 = .ok (.getfield 46, 3) := by decide +kernel
theorem dX10_worthOf_64 : decode cX10_worthOf 64 = .ok (.getfield 137, 3) := by decide +kernel
theorem dX10_worthOf_67 : decode cX10_worthOf 67 = .ok (.invokevirtual 239, 3) := by decide +kernel
theorem dX10_worthOf_70 : decode cX10_worthOf 70 = .ok (.ireturn, 1) := by decide +kernel
theorem dX10_sawn_0 : decode cX10_sawn 0 = .ok (.aload_n 0, 1) := by decide +kernel
theorem dX10_sawn_1 : decode cX10_sawn 1 = .ok (.getfield 46, 3) := by decide +kernel
theorem dX10_sawn_4 : decode cX10_sawn 4 = .ok (.iload_n 1, 1) := by decide +kernel
theorem dX10_sawn_5 : decode cX10_sawn 5 = .ok (.invokevirtual 152, 3) := by decide +kernel
theorem dX10_sawn_8 : decode cX10_sawn 8 = .ok (.ifCond .eq 12, 3) := by decide +kernel
theorem dX10_sawn_11 : decode cX10_sawn 11 = .ok (.iload_n 2, 1) := by decide +kernel
theorem dX10_sawn_12 : decode cX10_sawn 12 = .ok (.ifCond .lt 8, 3) := by decide +kernel
theorem dX10_sawn_15 : decode cX10_sawn 15 = .ok (.iload_n 2, 1) := by decide +kernel
theorem dX10_sawn_16 : decode cX10_sawn 16 = .ok (.iconst 1, 1) := by decide +kernel
theorem dX10_sawn_17 : decode cX10_sawn 17 = .ok (.if_icmp .le 5, 3) := by decide +kernel
theorem dX10_sawn_20 : decode cX10_sawn 20 = .ok (.iconst (-1), 1) := by decide +kernel
theorem dX10_sawn_21 : decode cX10_sawn 21 = .ok (.ireturn, 1) := by decide +kernel
theorem dX10_sawn_22 : decode cX10_sawn 22 = .ok (.aload_n 0, 1) := by decide +kernel
theorem dX10_sawn_23 : decode cX10_sawn 23 = .ok (.getfield 46, 3) := by decide +kernel
theorem dX10_sawn_26 : decode cX10_sawn 26 = .ok (.iload_n 1, 1) := by decide +kernel
theorem dX10_sawn_27 : decode cX10_sawn 27 = .ok (.invokevirtual 182, 3) := by decide +kernel
theorem dX10_sawn_30 : decode cX10_sawn 30 = .ok (.istore_n 3, 1) := by decide +kernel
theorem dX10_sawn_31 : decode cX10_sawn 31 = .ok (.iload_n 3, 1) := by decide +kernel
theorem dX10_sawn_32 : decode cX10_sawn 32 = .ok (.ifCond .ne 5, 3) := by decide +kernel
theorem dX10_sawn_35 : decode cX10_sawn 35 = .ok (.iconst 0, 1) := by decide +kernel
theorem dX10_sawn_36 : decode cX10_sawn 36 = .ok (.ireturn, 1) := by decide +kernel
theorem dX10_sawn_37 : decode cX10_sawn 37 = .ok (.iload_n 3, 1) := by decide +kernel
theorem dX10_sawn_38 : decode cX10_sawn 38 = .ok (.invokestatic 222, 3) := by decide +kernel
theorem dX10_sawn_41 : decode cX10_sawn 41 = .ok (.istore 4, 2) := by decide +kernel
theorem dX10_sawn_43 : decode cX10_sawn 43 = .ok (.iload_n 3, 1) := by decide +kernel
theorem dX10_sawn_44 : decode cX10_sawn 44 = .ok (.ifCond .le 7, 3) := by decide +kernel
theorem dX10_sawn_47 : decode cX10_sawn 47 = .ok (.iconst 0, 1) := by decide +kernel
theorem dX10_sawn_48 : decode cX10_sawn 48 = .ok (.goto 4, 3) := by decide +kernel
theorem dX10_sawn_51 : decode cX10_sawn 51 = .ok (.iconst 1, 1) := by decide +kernel
theorem dX10_sawn_52 : decode cX10_sawn 52 = .ok (.istore 5, 2) := by decide +kernel
theorem dX10_sawn_54 : decode cX10_sawn 54 = .ok (.iload 5, 2) := by decide +kernel
theorem dX10_sawn_56 : decode cX10_sawn 56 = .ok (.iconst 4, 1) := by decide +kernel
theorem dX10_sawn_57 : decode cX10_sawn 57 = .ok (.if_icmp .ge 38, 3) := by decide +kernel
theorem dX10_sawn_60 : decode cX10_sawn 60 = .ok (.aload_n 0, 1) := by decide +kernel
theorem dX10_sawn_61 : decode cX10_sawn 61 = .ok (.getfield 46, 3) := by decide +kernel
theorem dX10_sawn_64 : decode cX10_sawn 64 = .ok (.iload 5, 2) := by decide +kernel
theorem dX10_sawn_66 : decode cX10_sawn 66 = .ok (.invokevirtual 165, 3) := by decide +kernel
theorem dX10_sawn_69 : decode cX10_sawn 69 = .ok (.iload 4, 2) := by decide +kernel
theorem dX10_sawn_71 : decode cX10_sawn 71 = .ok (.iadd, 1) := by decide +kernel
theorem dX10_sawn_72 : decode cX10_sawn 72 = .ok (.bipush 99, 2) := by decide +kernel
theorem dX10_sawn_74 : decode cX10_sawn 74 = .ok (.if_icmp .gt 15, 3) := by decide +kernel
theorem dX10_sawn_77 : decode cX10_sawn 77 = .ok (.iload_n 2, 1) := by decide +kernel
theorem dX10_sawn_78 : decode cX10_sawn 78 = .ok (.ifCond .ne 8, 3) := by decide +kernel
theorem dX10_sawn_81 : decode cX10_sawn 81 = .ok (.iload 5, 2) := by decide +kernel
theorem dX10_sawn_83 : decode cX10_sawn 83 = .ok (.goto 5, 3) := by decide +kernel
theorem dX10_sawn_86 : decode cX10_sawn 86 = .ok (.iload 4, 2) := by decide +kernel
theorem dX10_sawn_88 : decode cX10_sawn 88 = .ok (.ireturn, 1) := by decide +kernel
theorem dX10_sawn_89 : decode cX10_sawn 89 = .ok (.iinc 5 2, 3) := by decide +kernel
theorem dX10_sawn_92 : decode cX10_sawn 92 = .ok (.goto (-38), 3) := by decide +kernel
theorem dX10_sawn_95 : decode cX10_sawn 95 = .ok (.iconst (-1), 1) := by decide +kernel
theorem dX10_sawn_96 : decode cX10_sawn 96 = .ok (.ireturn, 1) := by decide +kernel
theorem dX10_less_0 : decode cX10_less 0 = .ok (.aload_n 0, 1) := by decide +kernel
theorem dX10_less_1 : decode cX10_less 1 = .ok (.invokevirtual 148, 3) := by decide +kernel
theorem dX10_less_4 : decode cX10_less 4 = .ok (.ifCond .eq 5, 3) := by decide +kernel
theorem dX10_less_7 : decode cX10_less 7 = .ok (.iconst (-1), 1) := by decide +kernel
theorem dX10_less_8 : decode cX10_less 8 = .ok (.ireturn, 1) := by decide +kernel
theorem dX10_less_9 : decode cX10_less 9 = .ok (.iconst 0, 1) := by decide +kernel
theorem dX10_less_10 : decode cX10_less 10 = .ok (.istore_n 1, 1) := by decide +kernel
theorem dX10_less_11 : decode cX10_less 11 = .ok (.iconst 0, 1) := by decide +kernel
theorem dX10_less_12 : decode cX10_less 12 = .ok (.istore_n 2, 1) := by decide +kernel
theorem dX10_less_13 : decode cX10_less 13 = .ok (.iload_n 2, 1) := by decide +kernel
theorem dX10_less_14 : decode cX10_less 14 = .ok (.iconst 4, 1) := by decide +kernel
theorem dX10_less_15 : decode cX10_less 15 = .ok (.if_icmp .ge 20, 3) := by decide +kernel
theorem dX10_less_18 : decode cX10_less 18 = .ok (.iload_n 1, 1) := by decide +kernel
theorem dX10_less_19 : decode cX10_less 19 = .ok (.aload_n 0, 1) := by decide +kernel
theorem dX10_less_20 : decode cX10_less 20 = .ok (.getfield 46, 3) := by decide +kernel
theorem dX10_less_23 : decode cX10_less 23 = .ok (.iload_n 2, 1) := by decide +kernel
theorem dX10_less_24 : decode cX10_less 24 = .ok (.invokevirtual 165, 3) := by decide +kernel
theorem dX10_less_27 : decode cX10_less 27 = .ok (.iadd, 1) := by decide +kernel
theorem dX10_less_28 : decode cX10_less 28 = .ok (.istore_n 1, 1) := by decide +kernel
theorem dX10_less_29 : decode cX10_less 29 = .ok (.iinc 2 1, 3) := by decide +kernel
theorem dX10_less_32 : decode cX10_less 32 = .ok (.goto (-19), 3) := by decide +kernel
theorem dX10_less_35 : decode cX10_less 35 = .ok (.iload_n 1, 1) := by decide +kernel
theorem dX10_less_36 : decode cX10_less 36 = .ok (.ireturn, 1) := by decide +kernel
theorem dX10_wedges_0 : decode cX10_wedges 0 = .ok (.aload_n 0, 1) := by decide +kernel
theorem dX10_wedges_1 : decode cX10_wedges 1 = .ok (.getfield 46, 3) := by decide +kernel
theorem dX10_wedges_4 : decode cX10_wedges 4 = .ok (.iload_n 1, 1) := by decide +kernel
theorem dX10_wedges_5 : decode cX10_wedges 5 = .ok (.invokevirtual 152, 3) := by decide +kernel
theorem dX10_wedges_8 : decode cX10_wedges 8 = .ok (.ifCond .eq 24, 3) := by decide +kernel
theorem dX10_wedges_11 : decode cX10_wedges 11 = .ok (.iload_n 2, 1) := by decide +kernel
theorem dX10_wedges_12 : decode cX10_wedges 12 = .ok (.iconst (-1), 1) := by decide +kernel
theorem dX10_wedges_13 : decode cX10_wedges 13 = .ok (.if_icmp .lt 19, 3) := by decide +kernel
theorem dX10_wedges_16 : decode cX10_wedges 16 = .ok (.iload_n 2, 1) := by decide +kernel
theorem dX10_wedges_17 : decode cX10_wedges 17 = .ok (.aload_n 0, 1) := by decide +kernel
theorem dX10_wedges_18 : decode cX10_wedges 18 = .ok (.getfield 46, 3) := by decide +kernel
theorem dX10_wedges_21 : decode cX10_wedges 21 = .ok (.getfield 168, 3) := by decide +kernel
theorem dX10_wedges_24 : decode cX10_wedges 24 = .ok (.if_icmp .ge 8, 3) := by decide +kernel
theorem dX10_wedges_27 : decode cX10_wedges 27 = .ok (.iload_n 2, 1) := by decide +kernel
theorem dX10_wedges_28 : decode cX10_wedges 28 = .ok (.iconst 4, 1) := by decide +kernel
theorem dX10_wedges_29 : decode cX10_wedges 29 = .ok (.if_icmp .lt 6, 3) := by decide +kernel
theorem dX10_wedges_32 : decode cX10_wedges 32 = .ok (.ldc 181, 2) := by decide +kernel
theorem dX10_wedges_34 : decode cX10_wedges 34 = .ok (.ireturn, 1) := by decide +kernel
theorem dX10_wedges_35 : decode cX10_wedges 35 = .ok (.aload_n 0, 1) := by decide +kernel
theorem dX10_wedges_36 : decode cX10_wedges 36 = .ok (.getfield 78, 3) := by decide +kernel
theorem dX10_wedges_39 : decode cX10_wedges 39 = .ok (.aload_n 0, 1) := by decide +kernel
theorem dX10_wedges_40 : decode cX10_wedges 40 = .ok (.getfield 46, 3) := by decide +kernel
theorem dX10_wedges_43 : decode cX10_wedges 43 = .ok (.aload_n 0, 1) := by decide +kernel
theorem dX10_wedges_44 : decode cX10_wedges 44 = .ok (.getfield 46, 3) := by decide +kernel
theorem dX10_wedges_47 : decode cX10_wedges 47 = .ok (.iload_n 1, 1) := by decide +kernel
theorem dX10_wedges_48 : decode cX10_wedges 48 = .ok (.invokevirtual 182, 3) := by decide +kernel
theorem dX10_wedges_51 : decode cX10_wedges 51 = .ok (.invokevirtual 243, 3) := by decide +kernel
theorem dX10_wedges_54 : decode cX10_wedges 54 = .ok (.istore_n 3, 1) := by decide +kernel
theorem dX10_wedges_55 : decode cX10_wedges 55 = .ok (.iload_n 3, 1) := by decide +kernel
theorem dX10_wedges_56 : decode cX10_wedges 56 = .ok (.iconst (-1), 1) := by decide +kernel
theorem dX10_wedges_57 : decode cX10_wedges 57 = .ok (.if_icmp .ne 6, 3) := by decide +kernel
theorem dX10_wedges_60 : decode cX10_wedges 60 = .ok (.ldc 181, 2) := by decide +kernel
theorem dX10_wedges_62 : decode cX10_wedges 62 = .ok (.ireturn, 1) := by decide +kernel
theorem dX10_wedges_63 : decode cX10_wedges 63 = .ok (.iload_n 2, 1) := by decide +kernel
theorem dX10_wedges_64 : decode cX10_wedges 64 = .ok (.iconst (-1), 1) := by decide +kernel
theorem dX10_wedges_65 : decode cX10_wedges 65 = .ok (.if_icmp .ne 7, 3) := by decide +kernel
theorem dX10_wedges_68 : decode cX10_wedges 68 = .ok (.iload_n 3, 1) := by decide +kernel
theorem dX10_wedges_69 : decode cX10_wedges 69 = .ok (.goto 12, 3) := by decide +kernel
theorem dX10_wedges_72 : decode cX10_wedges 72 = .ok (.aload_n 0, 1) := by decide +kernel
theorem dX10_wedges_73 : decode cX10_wedges 73 = .ok (.getfield 78, 3) := by decide +kernel
theorem dX10_wedges_76 : decode cX10_wedges 76 = .ok (.getfield 247, 3) := by decide +kernel
theorem dX10_wedges_79 : decode cX10_wedges 79 = .ok (.iload_n 2, 1) := by decide +kernel
theorem dX10_wedges_80 : decode cX10_wedges 80 = .ok (.iaload, 1) := by decide +kernel
theorem dX10_wedges_81 : decode cX10_wedges 81 = .ok (.ireturn, 1) := by decide +kernel
theorem dX10_piles_0 : decode cX10_piles 0 = .ok (.aload_n 0, 1) := by decide +kernel
theorem dX10_piles_1 : decode cX10_piles 1 = .ok (.getfield 46, 3) := by decide +kernel
theorem dX10_piles_4 : decode cX10_piles 4 = .ok (.iload_n 1, 1) := by decide +kernel
theorem dX10_piles_5 : decode cX10_piles 5 = .ok (.invokevirtual 152, 3) := by decide +kernel
theorem dX10_piles_8 : decode cX10_piles 8 = .ok (.ifCond .eq 25, 3) := by decide +kernel
theorem dX10_piles_11 : decode cX10_piles 11 = .ok (.aload_n 0, 1) := by decide +kernel
theorem dX10_piles_12 : decode cX10_piles 12 = .ok (.getfield 78, 3) := by decide +kernel
theorem dX10_piles_15 : decode cX10_piles 15 = .ok (.aload_n 0, 1) := by decide +kernel
theorem dX10_piles_16 : decode cX10_piles 16 = .ok (.getfield 46, 3) := by decide +kernel
theorem dX10_piles_19 : decode cX10_piles 19 = .ok (.aload_n 0, 1) := by decide +kernel
theorem dX10_piles_20 : decode cX10_piles 20 = .ok (.getfield 46, 3) := by decide +kernel
theorem dX10_piles_23 : decode cX10_piles 23 = .ok (.iload_n 1, 1) := by decide +kernel
theorem dX10_piles_24 : decode cX10_piles 24 = .ok (.invokevirtual 182, 3) := by decide +kernel
theorem dX10_piles_27 : decode cX10_piles 27 = .ok (.invokevirtual 250, 3) := by decide +kernel
theorem dX10_piles_30 : decode cX10_piles 30 = .ok (.goto 4, 3) := by decide +kernel
theorem dX10_piles_33 : decode cX10_piles 33 = .ok (.iconst (-1), 1) := by decide +kernel
theorem dX10_piles_34 : decode cX10_piles 34 = .ok (.ireturn, 1) := by decide +kernel
theorem dX10_cheap_0 : decode cX10_cheap 0 = .ok (.aload_n 0, 1) := by decide +kernel
theorem dX10_cheap_1 : decode cX10_cheap 1 = .ok (.getfield 46, 3) := by decide +kernel
theorem dX10_cheap_4 : decode cX10_cheap 4 = .ok (.iload_n 1, 1) := by decide +kernel
theorem dX10_cheap_5 : decode cX10_cheap 5 = .ok (.invokevirtual 152, 3) := by decide +kernel
theorem dX10_cheap_8 : decode cX10_cheap 8 = .ok (.ifCond .eq 28, 3) := by decide +kernel
theorem dX10_cheap_11 : decode cX10_cheap 11 = .ok (.iload_n 2, 1) := by decide +kernel
theorem dX10_cheap_12 : decode cX10_cheap 12 = .ok (.invokestatic 253, 3) := by decide +kernel
theorem dX10_cheap_15 : decode cX10_cheap 15 = .ok (.ifCond .eq 21, 3) := by decide +kernel
theorem dX10_cheap_18 : decode cX10_cheap 18 = .ok (.iload_n 3, 1) := by decide +kernel
theorem dX10_cheap_19 : decode cX10_cheap 19 = .ok (.invokestatic 253, 3) := by decide +kernel
theorem dX10_cheap_22 : decode cX10_cheap 22 = .ok (.ifCond .eq 14, 3) := by decide +kernel
theorem dX10_cheap_25 : decode cX10_cheap 25 = .ok (.iload 4, 2) := by decide +kernel
theorem dX10_cheap_27 : decode cX10_cheap 27 = .ok (.ifCond .lt 9, 3) := by decide +kernel
theorem dX10_cheap_30 : decode cX10_cheap 30 = .ok (.iload 4, 2) := by decide +kernel
theorem dX10_cheap_32 : decode cX10_cheap 32 = .ok (.iconst 1, 1) := by decide +kernel
theorem dX10_cheap_33 : decode cX10_cheap 33 = .ok (.if_icmp .le 5, 3) := by decide +kernel
theorem dX10_cheap_36 : decode cX10_cheap 36 = .ok (.iconst (-1), 1) := by decide +kernel
theorem dX10_cheap_37 : decode cX10_cheap 37 = .ok (.ireturn, 1) := by decide +kernel
theorem dX10_cheap_38 : decode cX10_cheap 38 = .ok (.iconst (-1), 1) := by decide +kernel
theorem dX10_cheap_39 : decode cX10_cheap 39 = .ok (.istore 5, 2) := by decide +kernel
theorem dX10_cheap_41 : decode cX10_cheap 41 = .ok (.iconst 0, 1) := by decide +kernel
theorem dX10_cheap_42 : decode cX10_cheap 42 = .ok (.istore 6, 2) := by decide +kernel
theorem dX10_cheap_44 : decode cX10_cheap 44 = .ok (.iconst 0, 1) := by decide +kernel
theorem dX10_cheap_45 : decode cX10_cheap 45 = .ok (.istore 7, 2) := by decide +kernel
theorem dX10_cheap_47 : decode cX10_cheap 47 = .ok (.iload 7, 2) := by decide +kernel
theorem dX10_cheap_49 : decode cX10_cheap 49 = .ok (.aload_n 0, 1) := by decide +kernel
theorem dX10_cheap_50 : decode cX10_cheap 50 = .ok (.getfield 46, 3) := by decide +kernel
theorem dX10_cheap_53 : decode cX10_cheap 53 = .ok (.getfield 137, 3) := by decide +kernel
theorem dX10_cheap_56 : decode cX10_cheap 56 = .ok (.if_icmp .ge 91, 3) := by decide +kernel
theorem dX10_cheap_59 : decode cX10_cheap 59 = .ok (.aload_n 0, 1) := by decide +kernel
theorem dX10_cheap_60 : decode cX10_cheap 60 = .ok (.getfield 78, 3) := by decide +kernel
theorem dX10_cheap_63 : decode cX10_cheap 63 = .ok (.aload_n 0, 1) := by decide +kernel
theorem dX10_cheap_64 : decode cX10_cheap 64 = .ok (.getfield 46, 3) := by decide +kernel
theorem dX10_cheap_67 : decode cX10_cheap 67 = .ok (.aload_n 0, 1) := by decide +kernel
theorem dX10_cheap_68 : decode cX10_cheap 68 = .ok (.getfield 46, 3) := by decide +kernel
theorem dX10_cheap_71 : decode cX10_cheap 71 = .ok (.iload 7, 2) := by decide +kernel
theorem dX10_cheap_73 : decode cX10_cheap 73 = .ok (.invokevirtual 182, 3) := by decide +kernel
theorem dX10_cheap_76 : decode cX10_cheap 76 = .ok (.invokevirtual 243, 3) := by decide +kernel
theorem dX10_cheap_79 : decode cX10_cheap 79 = .ok (.istore 8, 2) := by decide +kernel
theorem dX10_cheap_81 : decode cX10_cheap 81 = .ok (.iload 8, 2) := by decide +kernel
theorem dX10_cheap_83 : decode cX10_cheap 83 = .ok (.iconst (-1), 1) := by decide +kernel
theorem dX10_cheap_84 : decode cX10_cheap 84 = .ok (.if_icmp .eq 57, 3) := by decide +kernel
theorem dX10_cheap_87 : decode cX10_cheap 87 = .ok (.iload 7, 2) := by decide +kernel
theorem dX10_cheap_89 : decode cX10_cheap 89 = .ok (.iload_n 1, 1) := by decide +kernel
theorem dX10_cheap_90 : decode cX10_cheap 90 = .ok (.isub, 1) := by decide +kernel
theorem dX10_cheap_91 : decode cX10_cheap 91 = .ok (.invokestatic 222, 3) := by decide +kernel
theorem dX10_cheap_94 : decode cX10_cheap 94 = .ok (.istore 9, 2) := by decide +kernel
theorem dX10_cheap_96 : decode cX10_cheap 96 = .ok (.iload_n 2, 1) := by decide +kernel
theorem dX10_cheap_97 : decode cX10_cheap 97 = .ok (.iload 9, 2) := by decide +kernel
theorem dX10_cheap_99 : decode cX10_cheap 99 = .ok (.aload_n 0, 1) := by decide +kernel
theorem dX10_cheap_100 : decode cX10_cheap 100 = .ok (.getfield 46, 3) := by decide +kernel
theorem dX10_cheap_103 : decode cX10_cheap 103 = .ok (.getfield 137, 3) := by decide +kernel
theorem dX10_cheap_106 : decode cX10_cheap 106 = .ok (.iload 9, 2) := by decide +kernel
theorem dX10_cheap_108 : decode cX10_cheap 108 = .ok (.isub, 1) := by decide +kernel
theorem dX10_cheap_109 : decode cX10_cheap 109 = .ok (.invokestatic 256, 3) := by decide +kernel
theorem dX10_cheap_112 : decode cX10_cheap 112 = .ok (.imul, 1) := by decide +kernel
theorem dX10_cheap_113 : decode cX10_cheap 113 = .ok (.iload_n 3, 1) := by decide +kernel
theorem dX10_cheap_114 : decode cX10_cheap 114 = .ok (.iload 8, 2) := by decide +kernel
theorem dX10_cheap_116 : decode cX10_cheap 116 = .ok (.imul, 1) := by decide +kernel
theorem dX10_cheap_117 : decode cX10_cheap 117 = .ok (.iadd, 1) := by decide +kernel
theorem dX10_cheap_118 : decode cX10_cheap 118 = .ok (.istore 10, 2) := by decide +kernel
theorem dX10_cheap_120 : decode cX10_cheap 120 = .ok (.iload 5, 2) := by decide +kernel
theorem dX10_cheap_122 : decode cX10_cheap 122 = .ok (.iconst (-1), 1) := by decide +kernel
theorem dX10_cheap_123 : decode cX10_cheap 123 = .ok (.if_icmp .eq 10, 3) := by decide +kernel
theorem dX10_cheap_126 : decode cX10_cheap 126 = .ok (.iload 10, 2) := by decide +kernel
theorem dX10_cheap_128 : decode cX10_cheap 128 = .ok (.iload 6, 2) := by decide +kernel
theorem dX10_cheap_130 : decode cX10_cheap 130 = .ok (.if_icmp .ge 11, 3) := by decide +kernel
theorem dX10_cheap_133 : decode cX10_cheap 133 = .ok (.iload 7, 2) := by decide +kernel
theorem dX10_cheap_135 : decode cX10_cheap 135 = .ok (.istore 5, 2) := by decide +kernel
theorem dX10_cheap_137 : decode cX10_cheap 137 = .ok (.iload 10, 2) := by decide +kernel
theorem dX10_cheap_139 : decode cX10_cheap 139 = .ok (.istore 6, 2) := by decide +kernel
theorem dX10_cheap_141 : decode cX10_cheap 141 = .ok (.iinc 7 1, 3) := by decide +kernel
theorem dX10_cheap_144 : decode cX10_cheap 144 = .ok (.goto (-97), 3) := by decide +kernel
theorem dX10_cheap_147 : decode cX10_cheap 147 = .ok (.iload 5, 2) := by decide +kernel
theorem dX10_cheap_149 : decode cX10_cheap 149 = .ok (.iconst (-1), 1) := by decide +kernel
theorem dX10_cheap_150 : decode cX10_cheap 150 = .ok (.if_icmp .eq 8, 3) := by decide +kernel
theorem dX10_cheap_153 : decode cX10_cheap 153 = .ok (.iload 4, 2) := by decide +kernel
theorem dX10_cheap_155 : decode cX10_cheap 155 = .ok (.ifCond .ne 8, 3) := by decide +kernel
theorem dX10_cheap_158 : decode cX10_cheap 158 = .ok (.iload 5, 2) := by decide +kernel
theorem dX10_cheap_160 : decode cX10_cheap 160 = .ok (.goto 5, 3) := by decide +kernel
theorem dX10_cheap_163 : decode cX10_cheap 163 = .ok (.iload 6, 2) := by decide +kernel
theorem dX10_cheap_165 : decode cX10_cheap 165 = .ok (.ireturn, 1) := by decide +kernel
theorem dX10_plane_0 : decode cX10_plane 0 = .ok (.aload_n 0, 1) := by decide +kernel
theorem dX10_plane_1 : decode cX10_plane 1 = .ok (.getfield 46, 3) := by decide +kernel
theorem dX10_plane_4 : decode cX10_plane 4 = .ok (.iload_n 1, 1) := by decide +kernel
theorem dX10_plane_5 : decode cX10_plane 5 = .ok (.invokevirtual 152, 3) := by decide +kernel
theorem dX10_plane_8 : decode cX10_plane 8 = .ok (.ifCond .ne 5, 3) := by decide +kernel
theorem dX10_plane_11 : decode cX10_plane 11 = .ok (.iconst (-1), 1) := by decide +kernel
theorem dX10_plane_12 : decode cX10_plane 12 = .ok (.ireturn, 1) := by decide +kernel
theorem dX10_plane_13 : decode cX10_plane 13 = .ok (.aload_n 0, 1) := by decide +kernel
theorem dX10_plane_14 : decode cX10_plane 14 = .ok (.getfield 46, 3) := by decide +kernel
theorem dX10_plane_17 : decode cX10_plane 17 = .ok (.iload_n 1, 1) := by decide +kernel
theorem dX10_plane_18 : decode cX10_plane 18 = .ok (.iconst 1, 1) := by decide +kernel
theorem dX10_plane_19 : decode cX10_plane 19 = .ok (.iadd, 1) := by decide +kernel
theorem dX10_plane_20 : decode cX10_plane 20 = .ok (.invokevirtual 216, 3) := by decide +kernel
theorem dX10_plane_23 : decode cX10_plane 23 = .ok (.istore_n 2, 1) := by decide +kernel
theorem dX10_plane_24 : decode cX10_plane 24 = .ok (.aload_n 0, 1) := by decide +kernel
theorem dX10_plane_25 : decode cX10_plane 25 = .ok (.getfield 46, 3) := by decide +kernel
theorem dX10_plane_28 : decode cX10_plane 28 = .ok (.iload_n 1, 1) := by decide +kernel
theorem dX10_plane_29 : decode cX10_plane 29 = .ok (.invokevirtual 182, 3) := by decide +kernel
theorem dX10_plane_32 : decode cX10_plane 32 = .ok (.istore_n 3, 1) := by decide +kernel
theorem dX10_plane_33 : decode cX10_plane 33 = .ok (.aload_n 0, 1) := by decide +kernel
theorem dX10_plane_34 : decode cX10_plane 34 = .ok (.getfield 46, 3) := by decide +kernel
theorem dX10_plane_37 : decode cX10_plane 37 = .ok (.iload_n 2, 1) := by decide +kernel
theorem dX10_plane_38 : decode cX10_plane 38 = .ok (.invokevirtual 182, 3) := by decide +kernel
theorem dX10_plane_41 : decode cX10_plane 41 = .ok (.istore 4, 2) := by decide +kernel
theorem dX10_plane_43 : decode cX10_plane 43 = .ok (.iload_n 3, 1) := by decide +kernel
theorem dX10_plane_44 : decode cX10_plane 44 = .ok (.ifCond .ne 10, 3) := by decide +kernel
theorem dX10_plane_47 : decode cX10_plane 47 = .ok (.iload 4, 2) := by decide +kernel
theorem dX10_plane_49 : decode cX10_plane 49 = .ok (.ifCond .ne 5, 3) := by decide +kernel
theorem dX10_plane_52 : decode cX10_plane 52 = .ok (.iconst 0, 1) := by decide +kernel
theorem dX10_plane_53 : decode cX10_plane 53 = .ok (.ireturn, 1) := by decide +kernel
theorem dX10_plane_54 : decode cX10_plane 54 = .ok (.aload_n 0, 1) := by decide +kernel
theorem dX10_plane_55 : decode cX10_plane 55 = .ok (.getfield 46, 3) := by decide +kernel
theorem dX10_plane_58 : decode cX10_plane 58 = .ok (.iload_n 1, 1) := by decide +kernel
theorem dX10_plane_59 : decode cX10_plane 59 = .ok (.aload_n 0, 1) := by decide +kernel
theorem dX10_plane_60 : decode cX10_plane 60 = .ok (.getfield 96, 3) := by decide +kernel
theorem dX10_plane_63 : decode cX10_plane 63 = .ok (.invokevirtual 259, 3) := by decide +kernel
theorem dX10_plane_66 : decode cX10_plane 66 = .ok (.aload_n 0, 1) := by decide +kernel
theorem dX10_plane_67 : decode cX10_plane 67 = .ok (.getfield 46, 3) := by decide +kernel
theorem dX10_plane_70 : decode cX10_plane 70 = .ok (.iload_n 2, 1) := by decide +kernel
theorem dX10_plane_71 : decode cX10_plane 71 = .ok (.aload_n 0, 1) := by decide +kernel
theorem dX10_plane_72 : decode cX10_plane 72 = .ok (.getfield 99, 3) := by decide +kernel
theorem dX10_plane_75 : decode cX10_plane 75 = .ok (.invokevirtual 259, 3) := by decide +kernel
theorem dX10_plane_78 : decode cX10_plane 78 = .ok (.aload_n 0, 1) := by decide +kernel
theorem dX10_plane_79 : decode cX10_plane 79 = .ok (.getfield 46, 3) := by decide +kernel
theorem dX10_plane_82 : decode cX10_plane 82 = .ok (.getfield 137, 3) := by decide +kernel
theorem dX10_plane_85 : decode cX10_plane 85 = .ok (.bipush 24, 2) := by decide +kernel
theorem dX10_plane_87 : decode cX10_plane 87 = .ok (.invokestatic 256, 3) := by decide +kernel
theorem dX10_plane_90 : decode cX10_plane 90 = .ok (.istore 5, 2) := by decide +kernel
theorem dX10_plane_92 : decode cX10_plane 92 = .ok (.iconst 0, 1) := by decide +kernel
theorem dX10_plane_93 : decode cX10_plane 93 = .ok (.istore 6, 2) := by decide +kernel
theorem dX10_plane_95 : decode cX10_plane 95 = .ok (.iload 6, 2) := by decide +kernel
theorem dX10_plane_97 : decode cX10_plane 97 = .ok (.iload 5, 2) := by decide +kernel
theorem dX10_plane_99 : decode cX10_plane 99 = .ok (.if_icmp .ge 23, 3) := by decide +kernel
theorem dX10_plane_102 : decode cX10_plane 102 = .ok (.aload_n 0, 1) := by decide +kernel
theorem dX10_plane_103 : decode cX10_plane 103 = .ok (.iload 6, 2) := by decide +kernel
theorem dX10_plane_105 : decode cX10_plane 105 = .ok (.iload_n 3, 1) := by decide +kernel
theorem dX10_plane_106 : decode cX10_plane 106 = .ok (.iload 4, 2) := by decide +kernel
theorem dX10_plane_108 : decode cX10_plane 108 = .ok (.invokevirtual 263, 3) := by decide +kernel
theorem dX10_plane_111 : decode cX10_plane 111 = .ok (.ifCond .eq 5, 3) := by decide +kernel
theorem dX10_plane_114 : decode cX10_plane 114 = .ok (.iconst 1, 1) := by decide +kernel
theorem dX10_plane_115 : decode cX10_plane 115 = .ok (.ireturn, 1) := by decide +kernel
theorem dX10_plane_116 : decode cX10_plane 116 = .ok (.iinc 6 1, 3) := by decide +kernel
theorem dX10_plane_119 : decode cX10_plane 119 = .ok (.goto (-24), 3) := by decide +kernel
theorem dX10_plane_122 : decode cX10_plane 122 = .ok (.iconst 0, 1) := by decide +kernel
theorem dX10_plane_123 : decode cX10_plane 123 = .ok (.istore 6, 2) := by decide +kernel
theorem dX10_plane_125 : decode cX10_plane 125 = .ok (.iload 6, 2) := by decide +kernel
theorem dX10_plane_127 : decode cX10_plane 127 = .ok (.iload 5, 2) := by decide +kernel
theorem dX10_plane_129 : decode cX10_plane 129 = .ok (.if_icmp .ge 44, 3) := by decide +kernel
theorem dX10_plane_132 : decode cX10_plane 132 = .ok (.iload 6, 2) := by decide +kernel
theorem dX10_plane_134 : decode cX10_plane 134 = .ok (.iconst 1, 1) := by decide +kernel
theorem dX10_plane_135 : decode cX10_plane 135 = .ok (.iadd, 1) := by decide +kernel
theorem dX10_plane_136 : decode cX10_plane 136 = .ok (.istore 7, 2) := by decide +kernel
theorem dX10_plane_138 : decode cX10_plane 138 = .ok (.iload 7, 2) := by decide +kernel
theorem dX10_plane_140 : decode cX10_plane 140 = .ok (.iload 5, 2) := by decide +kernel
theorem dX10_plane_142 : decode cX10_plane 142 = .ok (.if_icmp .ge 25, 3) := by decide +kernel
theorem dX10_plane_145 : decode cX10_plane 145 = .ok (.aload_n 0, 1) := by decide +kernel
theorem dX10_plane_146 : decode cX10_plane 146 = .ok (.iload 6, 2) := by decide +kernel
theorem dX10_plane_148 : decode cX10_plane 148 = .ok (.iload 7, 2) := by decide +kernel
theorem dX10_plane_150 : decode cX10_plane 150 = .ok (.iload_n 3, 1) := by decide +kernel
theorem dX10_plane_151 : decode cX10_plane 151 = .ok (.iload 4, 2) := by decide +kernel
theorem dX10_plane_153 : decode cX10_plane 153 = .ok (.invokevirtual 267, 3) := by decide +kernel
theorem dX10_plane_156 : decode cX10_plane 156 = .ok (.ifCond .eq 5, 3) := by decide +kernel
theorem dX10_plane_159 : decode cX10_plane 159 = .ok (.iconst 2, 1) := by decide +kernel
theorem dX10_plane_160 : decode cX10_plane 160 = .ok (.ireturn, 1) := by decide +kernel
theorem dX10_plane_161 : decode cX10_plane 161 = .ok (.iinc 7 1, 3) := by decide +kernel
theorem dX10_plane_164 : decode cX10_plane 164 = .ok (.goto (-26), 3) := by decide +kernel
theorem dX10_plane_167 : decode cX10_plane 167 = .ok (.iinc 6 1, 3) := by decide +kernel
theorem dX10_plane_170 : decode cX10_plane 170 = .ok (.goto (-45), 3) := by decide +kernel
theorem dX10_plane_173 : decode cX10_plane 173 = .ok (.iconst (-1), 1) := by decide +kernel
theorem dX10_plane_174 : decode cX10_plane 174 = .ok (.ireturn, 1) := by decide +kernel
theorem dX10_evenedByOne_0 : decode cX10_evenedByOne 0 = .ok (.aload_n 0, 1) := by decide +kernel
theorem dX10_evenedByOne_1 : decode cX10_evenedByOne 1 = .ok (.iload_n 1, 1) := by decide +kernel
theorem dX10_evenedByOne_2 : decode cX10_evenedByOne 2 = .ok (.iload_n 2, 1) := by decide +kernel
theorem dX10_evenedByOne_3 : decode cX10_evenedByOne 3 = .ok (.iload_n 3, 1) := by decide +kernel
theorem dX10_evenedByOne_4 : decode cX10_evenedByOne 4 = .ok (.invokevirtual 271, 3) := by decide +kernel
theorem dX10_evenedByOne_7 : decode cX10_evenedByOne 7 = .ok (.istore 4, 2) := by decide +kernel
theorem dX10_evenedByOne_9 : decode cX10_evenedByOne 9 = .ok (.aload_n 0, 1) := by decide +kernel
theorem dX10_evenedByOne_10 : decode cX10_evenedByOne 10 = .ok (.getfield 96, 3) := by decide +kernel
theorem dX10_evenedByOne_13 : decode cX10_evenedByOne 13 = .ok (.iload_n 1, 1) := by decide +kernel
theorem dX10_evenedByOne_14 : decode cX10_evenedByOne 14 = .ok (.iaload, 1) := by decide +kernel
theorem dX10_evenedByOne_15 : decode cX10_evenedByOne 15 = .ok (.iload 4, 2) := by decide +kernel
theorem dX10_evenedByOne_17 : decode cX10_evenedByOne 17 = .ok (.imul, 1) := by decide +kernel
theorem dX10_evenedByOne_18 : decode cX10_evenedByOne 18 = .ok (.iload_n 2, 1) := by decide +kernel
theorem dX10_evenedByOne_19 : decode cX10_evenedByOne 19 = .ok (.ineg, 1) := by decide +kernel
theorem dX10_evenedByOne_20 : decode cX10_evenedByOne 20 = .ok (.if_icmp .ne 38, 3) := by decide +kernel
theorem dX10_evenedByOne_23 : decode cX10_evenedByOne 23 = .ok (.aload_n 0, 1) := by decide +kernel
theorem dX10_evenedByOne_24 : decode cX10_evenedByOne 24 = .ok (.getfield 99, 3) := by decide +kernel
theorem dX10_evenedByOne_27 : decode cX10_evenedByOne 27 = .ok (.iload_n 1, 1) := by decide +kernel
theorem dX10_evenedByOne_28 : decode cX10_evenedByOne 28 = .ok (.iaload, 1) := by decide +kernel
theorem dX10_evenedByOne_29 : decode cX10_evenedByOne 29 = .ok (.iload 4, 2) := by decide +kernel
theorem dX10_evenedByOne_31 : decode cX10_evenedByOne 31 = .ok (.imul, 1) := by decide +kernel
theorem dX10_evenedByOne_32 : decode cX10_evenedByOne 32 = .ok (.iload_n 3, 1) := by decide +kernel
theorem dX10_evenedByOne_33 : decode cX10_evenedByOne 33 = .ok (.ineg, 1) := by decide +kernel
theorem dX10_evenedByOne_34 : decode cX10_evenedByOne 34 = .ok (.if_icmp .ne 24, 3) := by decide +kernel
theorem dX10_evenedByOne_37 : decode cX10_evenedByOne 37 = .ok (.aload_n 0, 1) := by decide +kernel
theorem dX10_evenedByOne_38 : decode cX10_evenedByOne 38 = .ok (.getfield 46, 3) := by decide +kernel
theorem dX10_evenedByOne_41 : decode cX10_evenedByOne 41 = .ok (.iload_n 1, 1) := by decide +kernel
theorem dX10_evenedByOne_42 : decode cX10_evenedByOne 42 = .ok (.invokevirtual 159, 3) := by decide +kernel
theorem dX10_evenedByOne_45 : decode cX10_evenedByOne 45 = .ok (.iload 4, 2) := by decide +kernel
theorem dX10_evenedByOne_47 : decode cX10_evenedByOne 47 = .ok (.iadd, 1) := by decide +kernel
theorem dX10_evenedByOne_48 : decode cX10_evenedByOne 48 = .ok (.invokestatic 253, 3) := by decide +kernel
theorem dX10_evenedByOne_51 : decode cX10_evenedByOne 51 = .ok (.ifCond .eq 7, 3) := by decide +kernel
theorem dX10_evenedByOne_54 : decode cX10_evenedByOne 54 = .ok (.iconst 1, 1) := by decide +kernel
theorem dX10_evenedByOne_55 : decode cX10_evenedByOne 55 = .ok (.goto 4, 3) := by decide +kernel
theorem dX10_evenedByOne_58 : decode cX10_evenedByOne 58 = .ok (.iconst 0, 1) := by decide +kernel
theorem dX10_evenedByOne_59 : decode cX10_evenedByOne 59 = .ok (.ireturn, 1) := by decide +kernel
theorem dX10_changeAlong_0 : decode cX10_changeAlong 0 = .ok (.aload_n 0, 1) := by decide +kernel
theorem dX10_changeAlong_1 : decode cX10_changeAlong 1 = .ok (.getfield 96, 3) := by decide +kernel
theorem dX10_changeAlong_4 : decode cX10_changeAlong 4 = .ok (.iload_n 1, 1) := by decide +kernel
theorem dX10_changeAlong_5 : decode cX10_changeAlong 5 = .ok (.iaload, 1) := by decide +kernel
theorem dX10_changeAlong_6 : decode cX10_changeAlong 6 = .ok (.ifCond .eq 15, 3) := by decide +kernel
theorem dX10_changeAlong_9 : decode cX10_changeAlong 9 = .ok (.iload_n 2, 1) := by decide +kernel
theorem dX10_changeAlong_10 : decode cX10_changeAlong 10 = .ok (.ineg, 1) := by decide +kernel
theorem dX10_changeAlong_11 : decode cX10_changeAlong 11 = .ok (.aload_n 0, 1) := by decide +kernel
theorem dX10_changeAlong_12 : decode cX10_changeAlong 12 = .ok (.getfield 96, 3) := by decide +kernel
theorem dX10_changeAlong_15 : decode cX10_changeAlong 15 = .ok (.iload_n 1, 1) := by decide +kernel
theorem dX10_changeAlong_16 : decode cX10_changeAlong 16 = .ok (.iaload, 1) := by decide +kernel
theorem dX10_changeAlong_17 : decode cX10_changeAlong 17 = .ok (.imul, 1) := by decide +kernel
theorem dX10_changeAlong_18 : decode cX10_changeAlong 18 = .ok (.goto 12, 3) := by decide +kernel
theorem dX10_changeAlong_21 : decode cX10_changeAlong 21 = .ok (.iload_n 3, 1) := by decide +kernel
theorem dX10_changeAlong_22 : decode cX10_changeAlong 22 = .ok (.ineg, 1) := by decide +kernel
theorem dX10_changeAlong_23 : decode cX10_changeAlong 23 = .ok (.aload_n 0, 1) := by decide +kernel
theorem dX10_changeAlong_24 : decode cX10_changeAlong 24 = .ok (.getfield 99, 3) := by decide +kernel
theorem dX10_changeAlong_27 : decode cX10_changeAlong 27 = .ok (.iload_n 1, 1) := by decide +kernel
theorem dX10_changeAlong_28 : decode cX10_changeAlong 28 = .ok (.iaload, 1) := by decide +kernel
theorem dX10_changeAlong_29 : decode cX10_changeAlong 29 = .ok (.imul, 1) := by decide +kernel
theorem dX10_changeAlong_30 : decode cX10_changeAlong 30 = .ok (.ireturn, 1) := by decide +kernel
theorem dX10_evenedByTwo_0 : decode cX10_evenedByTwo 0 = .ok (.aload_n 0, 1) := by decide +kernel
theorem dX10_evenedByTwo_1 : decode cX10_evenedByTwo 1 = .ok (.getfield 96, 3) := by decide +kernel
theorem dX10_evenedByTwo_4 : decode cX10_evenedByTwo 4 = .ok (.iload_n 1, 1) := by decide +kernel
theorem dX10_evenedByTwo_5 : decode cX10_evenedByTwo 5 = .ok (.iaload, 1) := by decide +kernel
theorem dX10_evenedByTwo_6 : decode cX10_evenedByTwo 6 = .ok (.ifCond .ne 12, 3) := by decide +kernel
theorem dX10_evenedByTwo_9 : decode cX10_evenedByTwo 9 = .ok (.aload_n 0, 1) := by decide +kernel
theorem dX10_evenedByTwo_10 : decode cX10_evenedByTwo 10 = .ok (.getfield 99, 3) := by decide +kernel
theorem dX10_evenedByTwo_13 : decode cX10_evenedByTwo 13 = .ok (.iload_n 1, 1) := by decide +kernel
theorem dX10_evenedByTwo_14 : decode cX10_evenedByTwo 14 = .ok (.iaload, 1) := by decide +kernel
theorem dX10_evenedByTwo_15 : decode cX10_evenedByTwo 15 = .ok (.ifCond .eq 21, 3) := by decide +kernel
theorem dX10_evenedByTwo_18 : decode cX10_evenedByTwo 18 = .ok (.aload_n 0, 1) := by decide +kernel
theorem dX10_evenedByTwo_19 : decode cX10_evenedByTwo 19 = .ok (.getfield 96, 3) := by decide +kernel
theorem dX10_evenedByTwo_22 : decode cX10_evenedByTwo 22 = .ok (.iload_n 2, 1) := by decide +kernel
theorem dX10_evenedByTwo_23 : decode cX10_evenedByTwo 23 = .ok (.iaload, 1) := by decide +kernel
theorem dX10_evenedByTwo_24 : decode cX10_evenedByTwo 24 = .ok (.ifCond .ne 16, 3) := by decide +kernel
theorem dX10_evenedByTwo_27 : decode cX10_evenedByTwo 27 = .ok (.aload_n 0, 1) := by decide +kernel
theorem dX10_evenedByTwo_28 : decode cX10_evenedByTwo 28 = .ok (.getfield 99, 3) := by decide +kernel
theorem dX10_evenedByTwo_31 : decode cX10_evenedByTwo 31 = .ok (.iload_n 2, 1) := by decide +kernel
theorem dX10_evenedByTwo_32 : decode cX10_evenedByTwo 32 = .ok (.iaload, 1) := by decide +kernel
theorem dX10_evenedByTwo_33 : decode cX10_evenedByTwo 33 = .ok (.ifCond .ne 7, 3) := by decide +kernel
theorem dX10_evenedByTwo_36 : decode cX10_evenedByTwo 36 = .ok (.iconst 1, 1) := by decide +kernel
theorem dX10_evenedByTwo_37 : decode cX10_evenedByTwo 37 = .ok (.goto 4, 3) := by decide +kernel
theorem dX10_evenedByTwo_40 : decode cX10_evenedByTwo 40 = .ok (.iconst 0, 1) := by decide +kernel
theorem dX10_evenedByTwo_41 : decode cX10_evenedByTwo 41 = .ok (.istore 5, 2) := by decide +kernel
theorem dX10_evenedByTwo_43 : decode cX10_evenedByTwo 43 = .ok (.iload 5, 2) := by decide +kernel
theorem dX10_evenedByTwo_45 : decode cX10_evenedByTwo 45 = .ok (.ifCond .eq 5, 3) := by decide +kernel
theorem dX10_evenedByTwo_48 : decode cX10_evenedByTwo 48 = .ok (.iconst 0, 1) := by decide +kernel
theorem dX10_evenedByTwo_49 : decode cX10_evenedByTwo 49 = .ok (.ireturn, 1) := by decide +kernel
theorem dX10_evenedByTwo_50 : decode cX10_evenedByTwo 50 = .ok (.aload_n 0, 1) := by decide +kernel
theorem dX10_evenedByTwo_51 : decode cX10_evenedByTwo 51 = .ok (.getfield 96, 3) := by decide +kernel
theorem dX10_evenedByTwo_54 : decode cX10_evenedByTwo 54 = .ok (.iload_n 1, 1) := by decide +kernel
theorem dX10_evenedByTwo_55 : decode cX10_evenedByTwo 55 = .ok (.iaload, 1) := by decide +kernel
theorem dX10_evenedByTwo_56 : decode cX10_evenedByTwo 56 = .ok (.aload_n 0, 1) := by decide +kernel
theorem dX10_evenedByTwo_57 : decode cX10_evenedByTwo 57 = .ok (.getfield 99, 3) := by decide +kernel
theorem dX10_evenedByTwo_60 : decode cX10_evenedByTwo 60 = .ok (.iload_n 2, 1) := by decide +kernel
theorem dX10_evenedByTwo_61 : decode cX10_evenedByTwo 61 = .ok (.iaload, 1) := by decide +kernel
theorem dX10_evenedByTwo_62 : decode cX10_evenedByTwo 62 = .ok (.imul, 1) := by decide +kernel
theorem dX10_evenedByTwo_63 : decode cX10_evenedByTwo 63 = .ok (.aload_n 0, 1) := by decide +kernel
theorem dX10_evenedByTwo_64 : decode cX10_evenedByTwo 64 = .ok (.getfield 96, 3) := by decide +kernel
theorem dX10_evenedByTwo_67 : decode cX10_evenedByTwo 67 = .ok (.iload_n 2, 1) := by decide +kernel
theorem dX10_evenedByTwo_68 : decode cX10_evenedByTwo 68 = .ok (.iaload, 1) := by decide +kernel
theorem dX10_evenedByTwo_69 : decode cX10_evenedByTwo 69 = .ok (.aload_n 0, 1) := by decide +kernel
theorem dX10_evenedByTwo_70 : decode cX10_evenedByTwo 70 = .ok (.getfield 99, 3) := by decide +kernel
theorem dX10_evenedByTwo_73 : decode cX10_evenedByTwo 73 = .ok (.iload_n 1, 1) := by decide +kernel
theorem dX10_evenedByTwo_74 : decode cX10_evenedByTwo 74 = .ok (.iaload, 1) := by decide +kernel
theorem dX10_evenedByTwo_75 : decode cX10_evenedByTwo 75 = .ok (.imul, 1) := by decide +kernel
theorem dX10_evenedByTwo_76 : decode cX10_evenedByTwo 76 = .ok (.isub, 1) := by decide +kernel
theorem dX10_evenedByTwo_77 : decode cX10_evenedByTwo 77 = .ok (.istore 6, 2) := by decide +kernel
theorem dX10_evenedByTwo_79 : decode cX10_evenedByTwo 79 = .ok (.iload 6, 2) := by decide +kernel
theorem dX10_evenedByTwo_81 : decode cX10_evenedByTwo 81 = .ok (.ifCond .ne 13, 3) := by decide +kernel
theorem dX10_evenedByTwo_84 : decode cX10_evenedByTwo 84 = .ok (.aload_n 0, 1) := by decide +kernel
theorem dX10_evenedByTwo_85 : decode cX10_evenedByTwo 85 = .ok (.iload_n 1, 1) := by decide +kernel
theorem dX10_evenedByTwo_86 : decode cX10_evenedByTwo 86 = .ok (.iload_n 2, 1) := by decide +kernel
theorem dX10_evenedByTwo_87 : decode cX10_evenedByTwo 87 = .ok (.iload_n 3, 1) := by decide +kernel
theorem dX10_evenedByTwo_88 : decode cX10_evenedByTwo 88 = .ok (.iload 4, 2) := by decide +kernel
theorem dX10_evenedByTwo_90 : decode cX10_evenedByTwo 90 = .ok (.invokevirtual 274, 3) := by decide +kernel
theorem dX10_evenedByTwo_93 : decode cX10_evenedByTwo 93 = .ok (.ireturn, 1) := by decide +kernel
theorem dX10_evenedByTwo_94 : decode cX10_evenedByTwo 94 = .ok (.aload_n 0, 1) := by decide +kernel
theorem dX10_evenedByTwo_95 : decode cX10_evenedByTwo 95 = .ok (.getfield 96, 3) := by decide +kernel
theorem dX10_evenedByTwo_98 : decode cX10_evenedByTwo 98 = .ok (.iload_n 2, 1) := by decide +kernel
theorem dX10_evenedByTwo_99 : decode cX10_evenedByTwo 99 = .ok (.iaload, 1) := by decide +kernel
theorem dX10_evenedByTwo_100 : decode cX10_evenedByTwo 100 = .ok (.iload 4, 2) := by decide +kernel
theorem dX10_evenedByTwo_102 : decode cX10_evenedByTwo 102 = .ok (.imul, 1) := by decide +kernel
theorem dX10_evenedByTwo_103 : decode cX10_evenedByTwo 103 = .ok (.iload_n 3, 1) := by decide +kernel
theorem dX10_evenedByTwo_104 : decode cX10_evenedByTwo 104 = .ok (.aload_n 0, 1) := by decide +kernel
theorem dX10_evenedByTwo_105 : decode cX10_evenedByTwo 105 = .ok (.getfield 99, 3) := by decide +kernel
theorem dX10_evenedByTwo_108 : decode cX10_evenedByTwo 108 = .ok (.iload_n 2, 1) := by decide +kernel
theorem dX10_evenedByTwo_109 : decode cX10_evenedByTwo 109 = .ok (.iaload, 1) := by decide +kernel
theorem dX10_evenedByTwo_110 : decode cX10_evenedByTwo 110 = .ok (.imul, 1) := by decide +kernel
theorem dX10_evenedByTwo_111 : decode cX10_evenedByTwo 111 = .ok (.isub, 1) := by decide +kernel
theorem dX10_evenedByTwo_112 : decode cX10_evenedByTwo 112 = .ok (.iload 6, 2) := by decide +kernel
theorem dX10_evenedByTwo_114 : decode cX10_evenedByTwo 114 = .ok (.idiv, 1) := by decide +kernel
theorem dX10_evenedByTwo_115 : decode cX10_evenedByTwo 115 = .ok (.istore 7, 2) := by decide +kernel
theorem dX10_evenedByTwo_117 : decode cX10_evenedByTwo 117 = .ok (.iload_n 3, 1) := by decide +kernel
theorem dX10_evenedByTwo_118 : decode cX10_evenedByTwo 118 = .ok (.aload_n 0, 1) := by decide +kernel
theorem dX10_evenedByTwo_119 : decode cX10_evenedByTwo 119 = .ok (.getfield 99, 3) := by decide +kernel
theorem dX10_evenedByTwo_122 : decode cX10_evenedByTwo 122 = .ok (.iload_n 1, 1) := by decide +kernel
theorem dX10_evenedByTwo_123 : decode cX10_evenedByTwo 123 = .ok (.iaload, 1) := by decide +kernel
theorem dX10_evenedByTwo_124 : decode cX10_evenedByTwo 124 = .ok (.imul, 1) := by decide +kernel
theorem dX10_evenedByTwo_125 : decode cX10_evenedByTwo 125 = .ok (.aload_n 0, 1) := by decide +kernel
theorem dX10_evenedByTwo_126 : decode cX10_evenedByTwo 126 = .ok (.getfield 96, 3) := by decide +kernel
theorem dX10_evenedByTwo_129 : decode cX10_evenedByTwo 129 = .ok (.iload_n 1, 1) := by decide +kernel
theorem dX10_evenedByTwo_130 : decode cX10_evenedByTwo 130 = .ok (.iaload, 1) := by decide +kernel
theorem dX10_evenedByTwo_131 : decode cX10_evenedByTwo 131 = .ok (.iload 4, 2) := by decide +kernel
theorem dX10_evenedByTwo_133 : decode cX10_evenedByTwo 133 = .ok (.imul, 1) := by decide +kernel
theorem dX10_evenedByTwo_134 : decode cX10_evenedByTwo 134 = .ok (.isub, 1) := by decide +kernel
theorem dX10_evenedByTwo_135 : decode cX10_evenedByTwo 135 = .ok (.iload 6, 2) := by decide +kernel
theorem dX10_evenedByTwo_137 : decode cX10_evenedByTwo 137 = .ok (.idiv, 1) := by decide +kernel
theorem dX10_evenedByTwo_138 : decode cX10_evenedByTwo 138 = .ok (.istore 8, 2) := by decide +kernel
theorem dX10_evenedByTwo_140 : decode cX10_evenedByTwo 140 = .ok (.aload_n 0, 1) := by decide +kernel
theorem dX10_evenedByTwo_141 : decode cX10_evenedByTwo 141 = .ok (.getfield 96, 3) := by decide +kernel
theorem dX10_evenedByTwo_144 : decode cX10_evenedByTwo 144 = .ok (.iload_n 1, 1) := by decide +kernel
theorem dX10_evenedByTwo_145 : decode cX10_evenedByTwo 145 = .ok (.iaload, 1) := by decide +kernel
theorem dX10_evenedByTwo_146 : decode cX10_evenedByTwo 146 = .ok (.iload 7, 2) := by decide +kernel
theorem dX10_evenedByTwo_148 : decode cX10_evenedByTwo 148 = .ok (.imul, 1) := by decide +kernel
theorem dX10_evenedByTwo_149 : decode cX10_evenedByTwo 149 = .ok (.aload_n 0, 1) := by decide +kernel
theorem dX10_evenedByTwo_150 : decode cX10_evenedByTwo 150 = .ok (.getfield 96, 3) := by decide +kernel
theorem dX10_evenedByTwo_153 : decode cX10_evenedByTwo 153 = .ok (.iload_n 2, 1) := by decide +kernel
theorem dX10_evenedByTwo_154 : decode cX10_evenedByTwo 154 = .ok (.iaload, 1) := by decide +kernel
theorem dX10_evenedByTwo_155 : decode cX10_evenedByTwo 155 = .ok (.iload 8, 2) := by decide +kernel
theorem dX10_evenedByTwo_157 : decode cX10_evenedByTwo 157 = .ok (.imul, 1) := by decide +kernel
theorem dX10_evenedByTwo_158 : decode cX10_evenedByTwo 158 = .ok (.iadd, 1) := by decide +kernel
theorem dX10_evenedByTwo_159 : decode cX10_evenedByTwo 159 = .ok (.iload_n 3, 1) := by decide +kernel
theorem dX10_evenedByTwo_160 : decode cX10_evenedByTwo 160 = .ok (.ineg, 1) := by decide +kernel
theorem dX10_evenedByTwo_161 : decode cX10_evenedByTwo 161 = .ok (.if_icmp .ne 66, 3) := by decide +kernel
theorem dX10_evenedByTwo_164 : decode cX10_evenedByTwo 164 = .ok (.aload_n 0, 1) := by decide +kernel
theorem dX10_evenedByTwo_165 : decode cX10_evenedByTwo 165 = .ok (.getfield 99, 3) := by decide +kernel
theorem dX10_evenedByTwo_168 : decode cX10_evenedByTwo 168 = .ok (.iload_n 1, 1) := by decide +kernel
theorem dX10_evenedByTwo_169 : decode cX10_evenedByTwo 169 = .ok (.iaload, 1) := by decide +kernel
theorem dX10_evenedByTwo_170 : decode cX10_evenedByTwo 170 = .ok (.iload 7, 2) := by decide +kernel
theorem dX10_evenedByTwo_172 : decode cX10_evenedByTwo 172 = .ok (.imul, 1) := by decide +kernel
theorem dX10_evenedByTwo_173 : decode cX10_evenedByTwo 173 = .ok (.aload_n 0, 1) := by decide +kernel
theorem dX10_evenedByTwo_174 : decode cX10_evenedByTwo 174 = .ok (.getfield 99, 3) := by decide +kernel
theorem dX10_evenedByTwo_177 : decode cX10_evenedByTwo 177 = .ok (.iload_n 2, 1) := by decide +kernel
theorem dX10_evenedByTwo_178 : decode cX10_evenedByTwo 178 = .ok (.iaload, 1) := by decide +kernel
theorem dX10_evenedByTwo_179 : decode cX10_evenedByTwo 179 = .ok (.iload 8, 2) := by decide +kernel
theorem dX10_evenedByTwo_181 : decode cX10_evenedByTwo 181 = .ok (.imul, 1) := by decide +kernel
theorem dX10_evenedByTwo_182 : decode cX10_evenedByTwo 182 = .ok (.iadd, 1) := by decide +kernel
theorem dX10_evenedByTwo_183 : decode cX10_evenedByTwo 183 = .ok (.iload 4, 2) := by decide +kernel
theorem dX10_evenedByTwo_185 : decode cX10_evenedByTwo 185 = .ok (.ineg, 1) := by decide +kernel
theorem dX10_evenedByTwo_186 : decode cX10_evenedByTwo 186 = .ok (.if_icmp .ne 41, 3) := by decide +kernel
theorem dX10_evenedByTwo_189 : decode cX10_evenedByTwo 189 = .ok (.aload_n 0, 1) := by decide +kernel
theorem dX10_evenedByTwo_190 : decode cX10_evenedByTwo 190 = .ok (.getfield 46, 3) := by decide +kernel
theorem dX10_evenedByTwo_193 : decode cX10_evenedByTwo 193 = .ok (.iload_n 1, 1) := by decide +kernel
theorem dX10_evenedByTwo_194 : decode cX10_evenedByTwo 194 = .ok (.invokevirtual 159, 3) := by decide +kernel
theorem dX10_evenedByTwo_197 : decode cX10_evenedByTwo 197 = .ok (.iload 7, 2) := by decide +kernel
theorem dX10_evenedByTwo_199 : decode cX10_evenedByTwo 199 = .ok (.iadd, 1) := by decide +kernel
theorem dX10_evenedByTwo_200 : decode cX10_evenedByTwo 200 = .ok (.invokestatic 253, 3) := by decide +kernel
theorem dX10_evenedByTwo_203 : decode cX10_evenedByTwo 203 = .ok (.ifCond .eq 24, 3) := by decide +kernel
theorem dX10_evenedByTwo_206 : decode cX10_evenedByTwo 206 = .ok (.aload_n 0, 1) := by decide +kernel
theorem dX10_evenedByTwo_207 : decode cX10_evenedByTwo 207 = .ok (.getfield 46, 3) := by decide +kernel
theorem dX10_evenedByTwo_210 : decode cX10_evenedByTwo 210 = .ok (.iload_n 2, 1) := by decide +kernel
theorem dX10_evenedByTwo_211 : decode cX10_evenedByTwo 211 = .ok (.invokevirtual 159, 3) := by decide +kernel
theorem dX10_evenedByTwo_214 : decode cX10_evenedByTwo 214 = .ok (.iload 8, 2) := by decide +kernel
theorem dX10_evenedByTwo_216 : decode cX10_evenedByTwo 216 = .ok (.iadd, 1) := by decide +kernel
theorem dX10_evenedByTwo_217 : decode cX10_evenedByTwo 217 = .ok (.invokestatic 253, 3) := by decide +kernel
theorem dX10_evenedByTwo_220 : decode cX10_evenedByTwo 220 = .ok (.ifCond .eq 7, 3) := by decide +kernel
theorem dX10_evenedByTwo_223 : decode cX10_evenedByTwo 223 = .ok (.iconst 1, 1) := by decide +kernel
theorem dX10_evenedByTwo_224 : decode cX10_evenedByTwo 224 = .ok (.goto 4, 3) := by decide +kernel
theorem dX10_evenedByTwo_227 : decode cX10_evenedByTwo 227 = .ok (.iconst 0, 1) := by decide +kernel
theorem dX10_evenedByTwo_228 : decode cX10_evenedByTwo 228 = .ok (.ireturn, 1) := by decide +kernel
theorem dX10_evenedAlongOneLine_0 : decode cX10_evenedAlongOneLine 0 = .ok (.aload_n 0, 1) := by decide +kernel
theorem dX10_evenedAlongOneLine_1 : decode cX10_evenedAlongOneLine 1 = .ok (.iload_n 1, 1) := by decide +kernel
theorem dX10_evenedAlongOneLine_2 : decode cX10_evenedAlongOneLine 2 = .ok (.iload_n 3, 1) := by decide +kernel
theorem dX10_evenedAlongOneLine_3 : decode cX10_evenedAlongOneLine 3 = .ok (.iload 4, 2) := by decide +kernel
theorem dX10_evenedAlongOneLine_5 : decode cX10_evenedAlongOneLine 5 = .ok (.invokevirtual 271, 3) := by decide +kernel
theorem dX10_evenedAlongOneLine_8 : decode cX10_evenedAlongOneLine 8 = .ok (.istore 5, 2) := by decide +kernel
theorem dX10_evenedAlongOneLine_10 : decode cX10_evenedAlongOneLine 10 = .ok (.aload_n 0, 1) := by decide +kernel
theorem dX10_evenedAlongOneLine_11 : decode cX10_evenedAlongOneLine 11 = .ok (.getfield 96, 3) := by decide +kernel
theorem dX10_evenedAlongOneLine_14 : decode cX10_evenedAlongOneLine 14 = .ok (.iload_n 1, 1) := by decide +kernel
theorem dX10_evenedAlongOneLine_15 : decode cX10_evenedAlongOneLine 15 = .ok (.iaload, 1) := by decide +kernel
theorem dX10_evenedAlongOneLine_16 : decode cX10_evenedAlongOneLine 16 = .ok (.iload 5, 2) := by decide +kernel
theorem dX10_evenedAlongOneLine_18 : decode cX10_evenedAlongOneLine 18 = .ok (.imul, 1) := by decide +kernel
theorem dX10_evenedAlongOneLine_19 : decode cX10_evenedAlongOneLine 19 = .ok (.iload_n 3, 1) := by decide +kernel
theorem dX10_evenedAlongOneLine_20 : decode cX10_evenedAlongOneLine 20 = .ok (.ineg, 1) := by decide +kernel
theorem dX10_evenedAlongOneLine_21 : decode cX10_evenedAlongOneLine 21 = .ok (.if_icmp .ne 18, 3) := by decide +kernel
theorem dX10_evenedAlongOneLine_24 : decode cX10_evenedAlongOneLine 24 = .ok (.aload_n 0, 1) := by decide +kernel
theorem dX10_evenedAlongOneLine_25 : decode cX10_evenedAlongOneLine 25 = .ok (.getfield 99, 3) := by decide +kernel
theorem dX10_evenedAlongOneLine_28 : decode cX10_evenedAlongOneLine 28 = .ok (.iload_n 1, 1) := by decide +kernel
theorem dX10_evenedAlongOneLine_29 : decode cX10_evenedAlongOneLine 29 = .ok (.iaload, 1) := by decide +kernel
theorem dX10_evenedAlongOneLine_30 : decode cX10_evenedAlongOneLine 30 = .ok (.iload 5, 2) := by decide +kernel
theorem dX10_evenedAlongOneLine_32 : decode cX10_evenedAlongOneLine 32 = .ok (.imul, 1) := by decide +kernel
theorem dX10_evenedAlongOneLine_33 : decode cX10_evenedAlongOneLine 33 = .ok (.iload 4, 2) := by decide +kernel
theorem dX10_evenedAlongOneLine_35 : decode cX10_evenedAlongOneLine 35 = .ok (.ineg, 1) := by decide +kernel
theorem dX10_evenedAlongOneLine_36 : decode cX10_evenedAlongOneLine 36 = .ok (.if_icmp .eq 5, 3) := by decide +kernel
theorem dX10_evenedAlongOneLine_39 : decode cX10_evenedAlongOneLine 39 = .ok (.iconst 0, 1) := by decide +kernel
theorem dX10_evenedAlongOneLine_40 : decode cX10_evenedAlongOneLine 40 = .ok (.ireturn, 1) := by decide +kernel
theorem dX10_evenedAlongOneLine_41 : decode cX10_evenedAlongOneLine 41 = .ok (.aload_n 0, 1) := by decide +kernel
theorem dX10_evenedAlongOneLine_42 : decode cX10_evenedAlongOneLine 42 = .ok (.getfield 96, 3) := by decide +kernel
theorem dX10_evenedAlongOneLine_45 : decode cX10_evenedAlongOneLine 45 = .ok (.iload_n 1, 1) := by decide +kernel
theorem dX10_evenedAlongOneLine_46 : decode cX10_evenedAlongOneLine 46 = .ok (.iaload, 1) := by decide +kernel
theorem dX10_evenedAlongOneLine_47 : decode cX10_evenedAlongOneLine 47 = .ok (.aload_n 0, 1) := by decide +kernel
theorem dX10_evenedAlongOneLine_48 : decode cX10_evenedAlongOneLine 48 = .ok (.getfield 96, 3) := by decide +kernel
theorem dX10_evenedAlongOneLine_51 : decode cX10_evenedAlongOneLine 51 = .ok (.iload_n 2, 1) := by decide +kernel
theorem dX10_evenedAlongOneLine_52 : decode cX10_evenedAlongOneLine 52 = .ok (.iaload, 1) := by decide +kernel
theorem dX10_evenedAlongOneLine_53 : decode cX10_evenedAlongOneLine 53 = .ok (.if_icmp .ne 22, 3) := by decide +kernel
theorem dX10_evenedAlongOneLine_56 : decode cX10_evenedAlongOneLine 56 = .ok (.aload_n 0, 1) := by decide +kernel
theorem dX10_evenedAlongOneLine_57 : decode cX10_evenedAlongOneLine 57 = .ok (.getfield 99, 3) := by decide +kernel
theorem dX10_evenedAlongOneLine_60 : decode cX10_evenedAlongOneLine 60 = .ok (.iload_n 1, 1) := by decide +kernel
theorem dX10_evenedAlongOneLine_61 : decode cX10_evenedAlongOneLine 61 = .ok (.iaload, 1) := by decide +kernel
theorem dX10_evenedAlongOneLine_62 : decode cX10_evenedAlongOneLine 62 = .ok (.aload_n 0, 1) := by decide +kernel
theorem dX10_evenedAlongOneLine_63 : decode cX10_evenedAlongOneLine 63 = .ok (.getfield 99, 3) := by decide +kernel
theorem dX10_evenedAlongOneLine_66 : decode cX10_evenedAlongOneLine 66 = .ok (.iload_n 2, 1) := by decide +kernel
theorem dX10_evenedAlongOneLine_67 : decode cX10_evenedAlongOneLine 67 = .ok (.iaload, 1) := by decide +kernel
theorem dX10_evenedAlongOneLine_68 : decode cX10_evenedAlongOneLine 68 = .ok (.if_icmp .ne 7, 3) := by decide +kernel
theorem dX10_evenedAlongOneLine_71 : decode cX10_evenedAlongOneLine 71 = .ok (.iconst 1, 1) := by decide +kernel
theorem dX10_evenedAlongOneLine_72 : decode cX10_evenedAlongOneLine 72 = .ok (.goto 4, 3) := by decide +kernel
theorem dX10_evenedAlongOneLine_75 : decode cX10_evenedAlongOneLine 75 = .ok (.iconst 0, 1) := by decide +kernel
theorem dX10_evenedAlongOneLine_76 : decode cX10_evenedAlongOneLine 76 = .ok (.istore 6, 2) := by decide +kernel
theorem dX10_evenedAlongOneLine_78 : decode cX10_evenedAlongOneLine 78 = .ok (.aload_n 0, 1) := by decide +kernel
theorem dX10_evenedAlongOneLine_79 : decode cX10_evenedAlongOneLine 79 = .ok (.getfield 46, 3) := by decide +kernel
theorem dX10_evenedAlongOneLine_82 : decode cX10_evenedAlongOneLine 82 = .ok (.iload_n 1, 1) := by decide +kernel
theorem dX10_evenedAlongOneLine_83 : decode cX10_evenedAlongOneLine 83 = .ok (.invokevirtual 159, 3) := by decide +kernel
theorem dX10_evenedAlongOneLine_86 : decode cX10_evenedAlongOneLine 86 = .ok (.istore 7, 2) := by decide +kernel
theorem dX10_evenedAlongOneLine_88 : decode cX10_evenedAlongOneLine 88 = .ok (.aload_n 0, 1) := by decide +kernel
theorem dX10_evenedAlongOneLine_89 : decode cX10_evenedAlongOneLine 89 = .ok (.getfield 46, 3) := by decide +kernel
theorem dX10_evenedAlongOneLine_92 : decode cX10_evenedAlongOneLine 92 = .ok (.iload_n 2, 1) := by decide +kernel
theorem dX10_evenedAlongOneLine_93 : decode cX10_evenedAlongOneLine 93 = .ok (.invokevirtual 159, 3) := by decide +kernel
theorem dX10_evenedAlongOneLine_96 : decode cX10_evenedAlongOneLine 96 = .ok (.istore 8, 2) := by decide +kernel
theorem dX10_evenedAlongOneLine_98 : decode cX10_evenedAlongOneLine 98 = .ok (.iload 7, 2) := by decide +kernel
theorem dX10_evenedAlongOneLine_100 : decode cX10_evenedAlongOneLine 100 = .ok (.ineg, 1) := by decide +kernel
theorem dX10_evenedAlongOneLine_101 : decode cX10_evenedAlongOneLine 101 = .ok (.iload 6, 2) := by decide +kernel
theorem dX10_evenedAlongOneLine_103 : decode cX10_evenedAlongOneLine 103 = .ok (.ifCond .eq 9, 3) := by decide +kernel
theorem dX10_evenedAlongOneLine_106 : decode cX10_evenedAlongOneLine 106 = .ok (.iload 8, 2) := by decide +kernel
theorem dX10_evenedAlongOneLine_108 : decode cX10_evenedAlongOneLine 108 = .ok (.ineg, 1) := by decide +kernel
theorem dX10_evenedAlongOneLine_109 : decode cX10_evenedAlongOneLine 109 = .ok (.goto 8, 3) := by decide +kernel
theorem dX10_evenedAlongOneLine_112 : decode cX10_evenedAlongOneLine 112 = .ok (.iload 8, 2) := by decide +kernel
theorem dX10_evenedAlongOneLine_114 : decode cX10_evenedAlongOneLine 114 = .ok (.bipush 99, 2) := by decide +kernel
theorem dX10_evenedAlongOneLine_116 : decode cX10_evenedAlongOneLine 116 = .ok (.isub, 1) := by decide +kernel
theorem dX10_evenedAlongOneLine_117 : decode cX10_evenedAlongOneLine 117 = .ok (.iadd, 1) := by decide +kernel
theorem dX10_evenedAlongOneLine_118 : decode cX10_evenedAlongOneLine 118 = .ok (.istore 9, 2) := by decide +kernel
theorem dX10_evenedAlongOneLine_120 : decode cX10_evenedAlongOneLine 120 = .ok (.bipush 99, 2) := by decide +kernel
theorem dX10_evenedAlongOneLine_122 : decode cX10_evenedAlongOneLine 122 = .ok (.iload 7, 2) := by decide +kernel
theorem dX10_evenedAlongOneLine_124 : decode cX10_evenedAlongOneLine 124 = .ok (.isub, 1) := by decide +kernel
theorem dX10_evenedAlongOneLine_125 : decode cX10_evenedAlongOneLine 125 = .ok (.iload 6, 2) := by decide +kernel
theorem dX10_evenedAlongOneLine_127 : decode cX10_evenedAlongOneLine 127 = .ok (.ifCond .eq 11, 3) := by decide +kernel
theorem dX10_evenedAlongOneLine_130 : decode cX10_evenedAlongOneLine 130 = .ok (.bipush 99, 2) := by decide +kernel
theorem dX10_evenedAlongOneLine_132 : decode cX10_evenedAlongOneLine 132 = .ok (.iload 8, 2) := by decide +kernel
theorem dX10_evenedAlongOneLine_134 : decode cX10_evenedAlongOneLine 134 = .ok (.isub, 1) := by decide +kernel
theorem dX10_evenedAlongOneLine_135 : decode cX10_evenedAlongOneLine 135 = .ok (.goto 5, 3) := by decide +kernel
theorem dX10_evenedAlongOneLine_138 : decode cX10_evenedAlongOneLine 138 = .ok (.iload 8, 2) := by decide +kernel
theorem dX10_evenedAlongOneLine_140 : decode cX10_evenedAlongOneLine 140 = .ok (.iadd, 1) := by decide +kernel
theorem dX10_evenedAlongOneLine_141 : decode cX10_evenedAlongOneLine 141 = .ok (.istore 10, 2) := by decide +kernel
theorem dX10_evenedAlongOneLine_143 : decode cX10_evenedAlongOneLine 143 = .ok (.iload 5, 2) := by decide +kernel
theorem dX10_evenedAlongOneLine_145 : decode cX10_evenedAlongOneLine 145 = .ok (.iload 9, 2) := by decide +kernel
theorem dX10_evenedAlongOneLine_147 : decode cX10_evenedAlongOneLine 147 = .ok (.if_icmp .lt 14, 3) := by decide +kernel
theorem dX10_evenedAlongOneLine_150 : decode cX10_evenedAlongOneLine 150 = .ok (.iload 5, 2) := by decide +kernel
theorem dX10_evenedAlongOneLine_152 : decode cX10_evenedAlongOneLine 152 = .ok (.iload 10, 2) := by decide +kernel
theorem dX10_evenedAlongOneLine_154 : decode cX10_evenedAlongOneLine 154 = .ok (.if_icmp .gt 7, 3) := by decide +kernel
theorem dX10_evenedAlongOneLine_157 : decode cX10_evenedAlongOneLine 157 = .ok (.iconst 1, 1) := by decide +kernel
theorem dX10_evenedAlongOneLine_158 : decode cX10_evenedAlongOneLine 158 = .ok (.goto 4, 3) := by decide +kernel
theorem dX10_evenedAlongOneLine_161 : decode cX10_evenedAlongOneLine 161 = .ok (.iconst 0, 1) := by decide +kernel
theorem dX10_evenedAlongOneLine_162 : decode cX10_evenedAlongOneLine 162 = .ok (.ireturn, 1) := by decide +kernel
theorem dX10_rock_0 : decode cX10_rock 0 = .ok (.aload_n 0, 1) := by decide +kernel
theorem dX10_rock_1 : decode cX10_rock 1 = .ok (.getfield 46, 3) := by decide +kernel
theorem dX10_rock_4 : decode cX10_rock 4 = .ok (.iload_n 1, 1) := by decide +kernel
theorem dX10_rock_5 : decode cX10_rock 5 = .ok (.invokevirtual 152, 3) := by decide +kernel
theorem dX10_rock_8 : decode cX10_rock 8 = .ok (.ifCond .eq 13, 3) := by decide +kernel
theorem dX10_rock_11 : decode cX10_rock 11 = .ok (.iload_n 2, 1) := by decide +kernel
theorem dX10_rock_12 : decode cX10_rock 12 = .ok (.iconst (-1), 1) := by decide +kernel
theorem dX10_rock_13 : decode cX10_rock 13 = .ok (.if_icmp .lt 8, 3) := by decide +kernel
theorem dX10_rock_16 : decode cX10_rock 16 = .ok (.iload_n 2, 1) := by decide +kernel
theorem dX10_rock_17 : decode cX10_rock 17 = .ok (.iconst 1, 1) := by decide +kernel
theorem dX10_rock_18 : decode cX10_rock 18 = .ok (.if_icmp .le 5, 3) := by decide +kernel
theorem dX10_rock_21 : decode cX10_rock 21 = .ok (.iconst (-1), 1) := by decide +kernel
theorem dX10_rock_22 : decode cX10_rock 22 = .ok (.ireturn, 1) := by decide +kernel
theorem dX10_rock_23 : decode cX10_rock 23 = .ok (.aload_n 0, 1) := by decide +kernel
theorem dX10_rock_24 : decode cX10_rock 24 = .ok (.getfield 56, 3) := by decide +kernel
theorem dX10_rock_27 : decode cX10_rock 27 = .ok (.iload_n 1, 1) := by decide +kernel
theorem dX10_rock_28 : decode cX10_rock 28 = .ok (.iload_n 2, 1) := by decide +kernel
theorem dX10_rock_29 : decode cX10_rock 29 = .ok (.invokevirtual 277, 3) := by decide +kernel
theorem dX10_rock_32 : decode cX10_rock 32 = .ok (.ireturn, 1) := by decide +kernel
theorem dX10_shorts_0 : decode cX10_shorts 0 = .ok (.aload_n 0, 1) := by decide +kernel
theorem dX10_shorts_1 : decode cX10_shorts 1 = .ok (.invokevirtual 148, 3) := by decide +kernel
theorem dX10_shorts_4 : decode cX10_shorts 4 = .ok (.ifCond .ne 19, 3) := by decide +kernel
theorem dX10_shorts_7 : decode cX10_shorts 7 = .ok (.iload_n 1, 1) := by decide +kernel
theorem dX10_shorts_8 : decode cX10_shorts 8 = .ok (.invokestatic 162, 3) := by decide +kernel
theorem dX10_shorts_11 : decode cX10_shorts 11 = .ok (.ifCond .eq 12, 3) := by decide +kernel
theorem dX10_shorts_14 : decode cX10_shorts 14 = .ok (.iload_n 2, 1) := by decide +kernel
theorem dX10_shorts_15 : decode cX10_shorts 15 = .ok (.ifCond .lt 8, 3) := by decide +kernel
theorem dX10_shorts_18 : decode cX10_shorts 18 = .ok (.iload_n 2, 1) := by decide +kernel
theorem dX10_shorts_19 : decode cX10_shorts 19 = .ok (.iconst 2, 1) := by decide +kernel
theorem dX10_shorts_20 : decode cX10_shorts 20 = .ok (.if_icmp .le 6, 3) := by decide +kernel
theorem dX10_shorts_23 : decode cX10_shorts 23 = .ok (.ldc 181, 2) := by decide +kernel
theorem dX10_shorts_25 : decode cX10_shorts 25 = .ok (.ireturn, 1) := by decide +kernel
theorem dX10_shorts_26 : decode cX10_shorts 26 = .ok (.iload_n 1, 1) := by decide +kernel
theorem dX10_shorts_27 : decode cX10_shorts 27 = .ok (.iconst 2, 1) := by decide +kernel
theorem dX10_shorts_28 : decode cX10_shorts 28 = .ok (.irem, 1) := by decide +kernel
theorem dX10_shorts_29 : decode cX10_shorts 29 = .ok (.ifCond .ne 7, 3) := by decide +kernel
theorem dX10_shorts_32 : decode cX10_shorts 32 = .ok (.iconst (-1), 1) := by decide +kernel
theorem dX10_shorts_33 : decode cX10_shorts 33 = .ok (.goto 4, 3) := by decide +kernel
theorem dX10_shorts_36 : decode cX10_shorts 36 = .ok (.iconst 1, 1) := by decide +kernel
theorem dX10_shorts_37 : decode cX10_shorts 37 = .ok (.istore_n 3, 1) := by decide +kernel
theorem dX10_shorts_38 : decode cX10_shorts 38 = .ok (.aload_n 0, 1) := by decide +kernel
theorem dX10_shorts_39 : decode cX10_shorts 39 = .ok (.getfield 56, 3) := by decide +kernel
theorem dX10_shorts_42 : decode cX10_shorts 42 = .ok (.invokevirtual 279, 3) := by decide +kernel
theorem dX10_shorts_45 : decode cX10_shorts 45 = .ok (.iconst 0, 1) := by decide +kernel
theorem dX10_shorts_46 : decode cX10_shorts 46 = .ok (.istore 4, 2) := by decide +kernel
theorem dX10_shorts_48 : decode cX10_shorts 48 = .ok (.iload 4, 2) := by decide +kernel
theorem dX10_shorts_50 : decode cX10_shorts 50 = .ok (.aload_n 0, 1) := by decide +kernel
theorem dX10_shorts_51 : decode cX10_shorts 51 = .ok (.getfield 56, 3) := by decide +kernel
theorem dX10_shorts_54 : decode cX10_shorts 54 = .ok (.getfield 128, 3) := by decide +kernel
theorem dX10_shorts_57 : decode cX10_shorts 57 = .ok (.if_icmp .ge 57, 3) := by decide +kernel
theorem dX10_shorts_60 : decode cX10_shorts 60 = .ok (.aload_n 0, 1) := by decide +kernel
theorem dX10_shorts_61 : decode cX10_shorts 61 = .ok (.getfield 46, 3) := by decide +kernel
theorem dX10_shorts_64 : decode cX10_shorts 64 = .ok (.aload_n 0, 1) := by decide +kernel
theorem dX10_shorts_65 : decode cX10_shorts 65 = .ok (.getfield 56, 3) := by decide +kernel
theorem dX10_shorts_68 : decode cX10_shorts 68 = .ok (.iload 4, 2) := by decide +kernel
theorem dX10_shorts_70 : decode cX10_shorts 70 = .ok (.invokevirtual 282, 3) := by decide +kernel
theorem dX10_shorts_73 : decode cX10_shorts 73 = .ok (.invokevirtual 182, 3) := by decide +kernel
theorem dX10_shorts_76 : decode cX10_shorts 76 = .ok (.iload_n 3, 1) := by decide +kernel
theorem dX10_shorts_77 : decode cX10_shorts 77 = .ok (.aload_n 0, 1) := by decide +kernel
theorem dX10_shorts_78 : decode cX10_shorts 78 = .ok (.getfield 46, 3) := by decide +kernel
theorem dX10_shorts_81 : decode cX10_shorts 81 = .ok (.iload_n 1, 1) := by decide +kernel
theorem dX10_shorts_82 : decode cX10_shorts 82 = .ok (.invokevirtual 165, 3) := by decide +kernel
theorem dX10_shorts_85 : decode cX10_shorts 85 = .ok (.imul, 1) := by decide +kernel
theorem dX10_shorts_86 : decode cX10_shorts 86 = .ok (.isub, 1) := by decide +kernel
theorem dX10_shorts_87 : decode cX10_shorts 87 = .ok (.istore 5, 2) := by decide +kernel
theorem dX10_shorts_89 : decode cX10_shorts 89 = .ok (.aload_n 0, 1) := by decide +kernel
theorem dX10_shorts_90 : decode cX10_shorts 90 = .ok (.getfield 56, 3) := by decide +kernel
theorem dX10_shorts_93 : decode cX10_shorts 93 = .ok (.iload 5, 2) := by decide +kernel
theorem dX10_shorts_95 : decode cX10_shorts 95 = .ok (.iload_n 3, 1) := by decide +kernel
theorem dX10_shorts_96 : decode cX10_shorts 96 = .ok (.aload_n 0, 1) := by decide +kernel
theorem dX10_shorts_97 : decode cX10_shorts 97 = .ok (.getfield 56, 3) := by decide +kernel
theorem dX10_shorts_100 : decode cX10_shorts 100 = .ok (.iload 4, 2) := by decide +kernel
theorem dX10_shorts_102 : decode cX10_shorts 102 = .ok (.invokevirtual 285, 3) := by decide +kernel
theorem dX10_shorts_105 : decode cX10_shorts 105 = .ok (.invokevirtual 288, 3) := by decide +kernel
theorem dX10_shorts_108 : decode cX10_shorts 108 = .ok (.iinc 4 1, 3) := by decide +kernel
theorem dX10_shorts_111 : decode cX10_shorts 111 = .ok (.goto (-63), 3) := by decide +kernel
theorem dX10_shorts_114 : decode cX10_shorts 114 = .ok (.aload_n 0, 1) := by decide +kernel
theorem dX10_shorts_115 : decode cX10_shorts 115 = .ok (.getfield 56, 3) := by decide +kernel
theorem dX10_shorts_118 : decode cX10_shorts 118 = .ok (.iload_n 2, 1) := by decide +kernel
theorem dX10_shorts_119 : decode cX10_shorts 119 = .ok (.invokevirtual 292, 3) := by decide +kernel
theorem dX10_shorts_122 : decode cX10_shorts 122 = .ok (.ireturn, 1) := by decide +kernel
theorem dX10_heights_0 : decode cX10_heights 0 = .ok (.aload_n 0, 1) := by decide +kernel
theorem dX10_heights_1 : decode cX10_heights 1 = .ok (.getfield 46, 3) := by decide +kernel
theorem dX10_heights_4 : decode cX10_heights 4 = .ok (.iload_n 1, 1) := by decide +kernel
theorem dX10_heights_5 : decode cX10_heights 5 = .ok (.invokevirtual 152, 3) := by decide +kernel
theorem dX10_heights_8 : decode cX10_heights 8 = .ok (.ifCond .eq 12, 3) := by decide +kernel
theorem dX10_heights_11 : decode cX10_heights 11 = .ok (.iload_n 2, 1) := by decide +kernel
theorem dX10_heights_12 : decode cX10_heights 12 = .ok (.ifCond .lt 8, 3) := by decide +kernel
theorem dX10_heights_15 : decode cX10_heights 15 = .ok (.iload_n 2, 1) := by decide +kernel
theorem dX10_heights_16 : decode cX10_heights 16 = .ok (.iconst 2, 1) := by decide +kernel
theorem dX10_heights_17 : decode cX10_heights 17 = .ok (.if_icmp .le 6, 3) := by decide +kernel
theorem dX10_heights_20 : decode cX10_heights 20 = .ok (.ldc 181, 2) := by decide +kernel
theorem dX10_heights_22 : decode cX10_heights 22 = .ok (.ireturn, 1) := by decide +kernel
theorem dX10_heights_23 : decode cX10_heights 23 = .ok (.aload_n 0, 1) := by decide +kernel
theorem dX10_heights_24 : decode cX10_heights 24 = .ok (.getfield 56, 3) := by decide +kernel
theorem dX10_heights_27 : decode cX10_heights 27 = .ok (.invokevirtual 279, 3) := by decide +kernel
theorem dX10_heights_30 : decode cX10_heights 30 = .ok (.iconst 0, 1) := by decide +kernel
theorem dX10_heights_31 : decode cX10_heights 31 = .ok (.istore_n 3, 1) := by decide +kernel
theorem dX10_heights_32 : decode cX10_heights 32 = .ok (.iload_n 3, 1) := by decide +kernel
theorem dX10_heights_33 : decode cX10_heights 33 = .ok (.aload_n 0, 1) := by decide +kernel
theorem dX10_heights_34 : decode cX10_heights 34 = .ok (.getfield 56, 3) := by decide +kernel
theorem dX10_heights_37 : decode cX10_heights 37 = .ok (.getfield 128, 3) := by decide +kernel
theorem dX10_heights_40 : decode cX10_heights 40 = .ok (.if_icmp .ge 69, 3) := by decide +kernel
theorem dX10_heights_43 : decode cX10_heights 43 = .ok (.aload_n 0, 1) := by decide +kernel
theorem dX10_heights_44 : decode cX10_heights 44 = .ok (.getfield 56, 3) := by decide +kernel
theorem dX10_heights_47 : decode cX10_heights 47 = .ok (.iload_n 3, 1) := by decide +kernel
theorem dX10_heights_48 : decode cX10_heights 48 = .ok (.invokevirtual 282, 3) := by decide +kernel
theorem dX10_heights_51 : decode cX10_heights 51 = .ok (.istore 4, 2) := by decide +kernel
theorem dX10_heights_53 : decode cX10_heights 53 = .ok (.aload_n 0, 1) := by decide +kernel
theorem dX10_heights_54 : decode cX10_heights 54 = .ok (.getfield 46, 3) := by decide +kernel
theorem dX10_heights_57 : decode cX10_heights 57 = .ok (.iload 4, 2) := by decide +kernel
theorem dX10_heights_59 : decode cX10_heights 59 = .ok (.iload_n 1, 1) := by decide +kernel
theorem dX10_heights_60 : decode cX10_heights 60 = .ok (.invokevirtual 295, 3) := by decide +kernel
theorem dX10_heights_63 : decode cX10_heights 63 = .ok (.istore 5, 2) := by decide +kernel
theorem dX10_heights_65 : decode cX10_heights 65 = .ok (.aload_n 0, 1) := by decide +kernel
theorem dX10_heights_66 : decode cX10_heights 66 = .ok (.getfield 56, 3) := by decide +kernel
theorem dX10_heights_69 : decode cX10_heights 69 = .ok (.aload_n 0, 1) := by decide +kernel
theorem dX10_heights_70 : decode cX10_heights 70 = .ok (.getfield 46, 3) := by decide +kernel
theorem dX10_heights_73 : decode cX10_heights 73 = .ok (.iload 4, 2) := by decide +kernel
theorem dX10_heights_75 : decode cX10_heights 75 = .ok (.invokevirtual 182, 3) := by decide +kernel
theorem dX10_heights_78 : decode cX10_heights 78 = .ok (.iload 5, 2) := by decide +kernel
theorem dX10_heights_80 : decode cX10_heights 80 = .ok (.aload_n 0, 1) := by decide +kernel
theorem dX10_heights_81 : decode cX10_heights 81 = .ok (.getfield 46, 3) := by decide +kernel
theorem dX10_heights_84 : decode cX10_heights 84 = .ok (.iload_n 1, 1) := by decide +kernel
theorem dX10_heights_85 : decode cX10_heights 85 = .ok (.invokevirtual 159, 3) := by decide +kernel
theorem dX10_heights_88 : decode cX10_heights 88 = .ok (.imul, 1) := by decide +kernel
theorem dX10_heights_89 : decode cX10_heights 89 = .ok (.isub, 1) := by decide +kernel
theorem dX10_heights_90 : decode cX10_heights 90 = .ok (.iload 5, 2) := by decide +kernel
theorem dX10_heights_92 : decode cX10_heights 92 = .ok (.aload_n 0, 1) := by decide +kernel
theorem dX10_heights_93 : decode cX10_heights 93 = .ok (.getfield 56, 3) := by decide +kernel
theorem dX10_heights_96 : decode cX10_heights 96 = .ok (.iload_n 3, 1) := by decide +kernel
theorem dX10_heights_97 : decode cX10_heights 97 = .ok (.invokevirtual 285, 3) := by decide +kernel
theorem dX10_heights_100 : decode cX10_heights 100 = .ok (.invokevirtual 288, 3) := by decide +kernel
theorem dX10_heights_103 : decode cX10_heights 103 = .ok (.iinc 3 1, 3) := by decide +kernel
theorem dX10_heights_106 : decode cX10_heights 106 = .ok (.goto (-74), 3) := by decide +kernel
theorem dX10_heights_109 : decode cX10_heights 109 = .ok (.aload_n 0, 1) := by decide +kernel
theorem dX10_heights_110 : decode cX10_heights 110 = .ok (.getfield 56, 3) := by decide +kernel
theorem dX10_heights_113 : decode cX10_heights 113 = .ok (.iload_n 2, 1) := by decide +kernel
theorem dX10_heights_114 : decode cX10_heights 114 = .ok (.invokevirtual 292, 3) := by decide +kernel
theorem dX10_heights_117 : decode cX10_heights 117 = .ok (.ireturn, 1) := by decide +kernel
theorem dX10_angles_0 : decode cX10_angles 0 = .ok (.aload_n 0, 1) := by decide +kernel
theorem dX10_angles_1 : decode cX10_angles 1 = .ok (.invokevirtual 148, 3) := by decide +kernel
theorem dX10_angles_4 : decode cX10_angles 4 = .ok (.ifCond .eq 5, 3) := by decide +kernel
theorem dX10_angles_7 : decode cX10_angles 7 = .ok (.iconst (-1), 1) := by decide +kernel
theorem dX10_angles_8 : decode cX10_angles 8 = .ok (.ireturn, 1) := by decide +kernel
theorem dX10_angles_9 : decode cX10_angles 9 = .ok (.iconst 0, 1) := by decide +kernel
theorem dX10_angles_10 : decode cX10_angles 10 = .ok (.istore_n 1, 1) := by decide +kernel
theorem dX10_angles_11 : decode cX10_angles 11 = .ok (.iconst 1, 1) := by decide +kernel
theorem dX10_angles_12 : decode cX10_angles 12 = .ok (.istore_n 2, 1) := by decide +kernel
theorem dX10_angles_13 : decode cX10_angles 13 = .ok (.iload_n 2, 1) := by decide +kernel
theorem dX10_angles_14 : decode cX10_angles 14 = .ok (.aload_n 0, 1) := by decide +kernel
theorem dX10_angles_15 : decode cX10_angles 15 = .ok (.getfield 46, 3) := by decide +kernel
theorem dX10_angles_18 : decode cX10_angles 18 = .ok (.getfield 137, 3) := by decide +kernel
theorem dX10_angles_21 : decode cX10_angles 21 = .ok (.iconst 2, 1) := by decide +kernel
theorem dX10_angles_22 : decode cX10_angles 22 = .ok (.idiv, 1) := by decide +kernel
theorem dX10_angles_23 : decode cX10_angles 23 = .ok (.if_icmp .ge 23, 3) := by decide +kernel
theorem dX10_angles_26 : decode cX10_angles 26 = .ok (.aload_n 0, 1) := by decide +kernel
theorem dX10_angles_27 : decode cX10_angles 27 = .ok (.iload_n 2, 1) := by decide +kernel
theorem dX10_angles_28 : decode cX10_angles 28 = .ok (.invokevirtual 298, 3) := by decide +kernel
theorem dX10_angles_31 : decode cX10_angles 31 = .ok (.ifCond .eq 9, 3) := by decide +kernel
theorem dX10_angles_34 : decode cX10_angles 34 = .ok (.iload_n 1, 1) := by decide +kernel
theorem dX10_angles_35 : decode cX10_angles 35 = .ok (.iconst 1, 1) := by decide +kernel
theorem dX10_angles_36 : decode cX10_angles 36 = .ok (.iload_n 2, 1) := by decide +kernel
theorem dX10_angles_37 : decode cX10_angles 37 = .ok (.ishl, 1) := by decide +kernel
theorem dX10_angles_38 : decode cX10_angles 38 = .ok (.ior, 1) := by decide +kernel
theorem dX10_angles_39 : decode cX10_angles 39 = .ok (.istore_n 1, 1) := by decide +kernel
theorem dX10_angles_40 : decode cX10_angles 40 = .ok (.iinc 2 1, 3) := by decide +kernel
theorem dX10_angles_43 : decode cX10_angles 43 = .ok (.goto (-30), 3) := by decide +kernel
theorem dX10_angles_46 : decode cX10_angles 46 = .ok (.iload_n 1, 1) := by decide +kernel
theorem dX10_angles_47 : decode cX10_angles 47 = .ok (.ireturn, 1) := by decide +kernel
theorem dX10_rockedSoWith_0 : decode cX10_rockedSoWith 0 = .ok (.aload_n 0, 1) := by decide +kernel
theorem dX10_rockedSoWith_1 : decode cX10_rockedSoWith 1 = .ok (.getfield 46, 3) := by decide +kernel
theorem dX10_rockedSoWith_4 : decode cX10_rockedSoWith 4 = .ok (.invokevirtual 301, 3) := by decide +kernel
theorem dX10_rockedSoWith_7 : decode cX10_rockedSoWith 7 = .ok (.istore_n 2, 1) := by decide +kernel
theorem dX10_rockedSoWith_8 : decode cX10_rockedSoWith 8 = .ok (.iconst 0, 1) := by decide +kernel
theorem dX10_rockedSoWith_9 : decode cX10_rockedSoWith 9 = .ok (.istore_n 3, 1) := by decide +kernel
theorem dX10_rockedSoWith_10 : decode cX10_rockedSoWith 10 = .ok (.iload_n 3, 1) := by decide +kernel
theorem dX10_rockedSoWith_11 : decode cX10_rockedSoWith 11 = .ok (.aload_n 0, 1) := by decide +kernel
theorem dX10_rockedSoWith_12 : decode cX10_rockedSoWith 12 = .ok (.getfield 56, 3) := by decide +kernel
theorem dX10_rockedSoWith_15 : decode cX10_rockedSoWith 15 = .ok (.getfield 128, 3) := by decide +kernel
theorem dX10_rockedSoWith_18 : decode cX10_rockedSoWith 18 = .ok (.if_icmp .ge 54, 3) := by decide +kernel
theorem dX10_rockedSoWith_21 : decode cX10_rockedSoWith 21 = .ok (.aload_n 0, 1) := by decide +kernel
theorem dX10_rockedSoWith_22 : decode cX10_rockedSoWith 22 = .ok (.getfield 46, 3) := by decide +kernel
theorem dX10_rockedSoWith_25 : decode cX10_rockedSoWith 25 = .ok (.aload_n 0, 1) := by decide +kernel
theorem dX10_rockedSoWith_26 : decode cX10_rockedSoWith 26 = .ok (.getfield 46, 3) := by decide +kernel
theorem dX10_rockedSoWith_29 : decode cX10_rockedSoWith 29 = .ok (.getfield 304, 3) := by decide +kernel
theorem dX10_rockedSoWith_32 : decode cX10_rockedSoWith 32 = .ok (.iload_n 1, 1) := by decide +kernel
theorem dX10_rockedSoWith_33 : decode cX10_rockedSoWith 33 = .ok (.aload_n 0, 1) := by decide +kernel
theorem dX10_rockedSoWith_34 : decode cX10_rockedSoWith 34 = .ok (.getfield 56, 3) := by decide +kernel
theorem dX10_rockedSoWith_37 : decode cX10_rockedSoWith 37 = .ok (.iload_n 3, 1) := by decide +kernel
theorem dX10_rockedSoWith_38 : decode cX10_rockedSoWith 38 = .ok (.invokevirtual 282, 3) := by decide +kernel
theorem dX10_rockedSoWith_41 : decode cX10_rockedSoWith 41 = .ok (.invokevirtual 307, 3) := by decide +kernel
theorem dX10_rockedSoWith_44 : decode cX10_rockedSoWith 44 = .ok (.iload_n 2, 1) := by decide +kernel
theorem dX10_rockedSoWith_45 : decode cX10_rockedSoWith 45 = .ok (.isub, 1) := by decide +kernel
theorem dX10_rockedSoWith_46 : decode cX10_rockedSoWith 46 = .ok (.istore 4, 2) := by decide +kernel
theorem dX10_rockedSoWith_48 : decode cX10_rockedSoWith 48 = .ok (.iload 4, 2) := by decide +kernel
theorem dX10_rockedSoWith_50 : decode cX10_rockedSoWith 50 = .ok (.invokestatic 311, 3) := by decide +kernel
theorem dX10_rockedSoWith_53 : decode cX10_rockedSoWith 53 = .ok (.aload_n 0, 1) := by decide +kernel
theorem dX10_rockedSoWith_54 : decode cX10_rockedSoWith 54 = .ok (.getfield 56, 3) := by decide +kernel
theorem dX10_rockedSoWith_57 : decode cX10_rockedSoWith 57 = .ok (.iload_n 3, 1) := by decide +kernel
theorem dX10_rockedSoWith_58 : decode cX10_rockedSoWith 58 = .ok (.invokevirtual 285, 3) := by decide +kernel
theorem dX10_rockedSoWith_61 : decode cX10_rockedSoWith 61 = .ok (.if_icmp .eq 5, 3) := by decide +kernel
theorem dX10_rockedSoWith_64 : decode cX10_rockedSoWith 64 = .ok (.iconst 0, 1) := by decide +kernel
theorem dX10_rockedSoWith_65 : decode cX10_rockedSoWith 65 = .ok (.ireturn, 1) := by decide +kernel
theorem dX10_rockedSoWith_66 : decode cX10_rockedSoWith 66 = .ok (.iinc 3 1, 3) := by decide +kernel
theorem dX10_rockedSoWith_69 : decode cX10_rockedSoWith 69 = .ok (.goto (-59), 3) := by decide +kernel
theorem dX10_rockedSoWith_72 : decode cX10_rockedSoWith 72 = .ok (.iconst 1, 1) := by decide +kernel
theorem dX10_rockedSoWith_73 : decode cX10_rockedSoWith 73 = .ok (.ireturn, 1) := by decide +kernel
theorem dX10_steady_0 : decode cX10_steady 0 = .ok (.aload_n 0, 1) := by decide +kernel
theorem dX10_steady_1 : decode cX10_steady 1 = .ok (.invokevirtual 148, 3) := by decide +kernel
theorem dX10_steady_4 : decode cX10_steady 4 = .ok (.ifCond .ne 12, 3) := by decide +kernel
theorem dX10_steady_7 : decode cX10_steady 7 = .ok (.iload_n 1, 1) := by decide +kernel
theorem dX10_steady_8 : decode cX10_steady 8 = .ok (.ifCond .lt 8, 3) := by decide +kernel
theorem dX10_steady_11 : decode cX10_steady 11 = .ok (.iload_n 1, 1) := by decide +kernel
theorem dX10_steady_12 : decode cX10_steady 12 = .ok (.iconst 1, 1) := by decide +kernel
theorem dX10_steady_13 : decode cX10_steady 13 = .ok (.if_icmp .le 5, 3) := by decide +kernel
theorem dX10_steady_16 : decode cX10_steady 16 = .ok (.iconst (-1), 1) := by decide +kernel
theorem dX10_steady_17 : decode cX10_steady 17 = .ok (.ireturn, 1) := by decide +kernel
theorem dX10_steady_18 : decode cX10_steady 18 = .ok (.iconst (-1), 1) := by decide +kernel
theorem dX10_steady_19 : decode cX10_steady 19 = .ok (.istore_n 2, 1) := by decide +kernel
theorem dX10_steady_20 : decode cX10_steady 20 = .ok (.iconst (-1), 1) := by decide +kernel
theorem dX10_steady_21 : decode cX10_steady 21 = .ok (.istore_n 3, 1) := by decide +kernel
theorem dX10_steady_22 : decode cX10_steady 22 = .ok (.iconst 1, 1) := by decide +kernel
theorem dX10_steady_23 : decode cX10_steady 23 = .ok (.istore 4, 2) := by decide +kernel
theorem dX10_steady_25 : decode cX10_steady 25 = .ok (.iload 4, 2) := by decide +kernel
theorem dX10_steady_27 : decode cX10_steady 27 = .ok (.aload_n 0, 1) := by decide +kernel
theorem dX10_steady_28 : decode cX10_steady 28 = .ok (.getfield 46, 3) := by decide +kernel
theorem dX10_steady_31 : decode cX10_steady 31 = .ok (.getfield 137, 3) := by decide +kernel
theorem dX10_steady_34 : decode cX10_steady 34 = .ok (.iconst 2, 1) := by decide +kernel
theorem dX10_steady_35 : decode cX10_steady 35 = .ok (.idiv, 1) := by decide +kernel
theorem dX10_steady_36 : decode cX10_steady 36 = .ok (.if_icmp .ge 50, 3) := by decide +kernel
theorem dX10_steady_39 : decode cX10_steady 39 = .ok (.aload_n 0, 1) := by decide +kernel
theorem dX10_steady_40 : decode cX10_steady 40 = .ok (.getfield 85, 3) := by decide +kernel
theorem dX10_steady_43 : decode cX10_steady 43 = .ok (.aload_n 0, 1) := by decide +kernel
theorem dX10_steady_44 : decode cX10_steady 44 = .ok (.getfield 46, 3) := by decide +kernel
theorem dX10_steady_47 : decode cX10_steady 47 = .ok (.aload_n 0, 1) := by decide +kernel
theorem dX10_steady_48 : decode cX10_steady 48 = .ok (.getfield 46, 3) := by decide +kernel
theorem dX10_steady_51 : decode cX10_steady 51 = .ok (.getfield 304, 3) := by decide +kernel
theorem dX10_steady_54 : decode cX10_steady 54 = .ok (.iload 4, 2) := by decide +kernel
theorem dX10_steady_56 : decode cX10_steady 56 = .ok (.invokevirtual 316, 3) := by decide +kernel
theorem dX10_steady_59 : decode cX10_steady 59 = .ok (.aload_n 0, 1) := by decide +kernel
theorem dX10_steady_60 : decode cX10_steady 60 = .ok (.getfield 85, 3) := by decide +kernel
theorem dX10_steady_63 : decode cX10_steady 63 = .ok (.invokevirtual 191, 3) := by decide +kernel
theorem dX10_steady_66 : decode cX10_steady 66 = .ok (.istore 5, 2) := by decide +kernel
theorem dX10_steady_68 : decode cX10_steady 68 = .ok (.iload 5, 2) := by decide +kernel
theorem dX10_steady_70 : decode cX10_steady 70 = .ok (.iload_n 3, 1) := by decide +kernel
theorem dX10_steady_71 : decode cX10_steady 71 = .ok (.if_icmp .le 9, 3) := by decide +kernel
theorem dX10_steady_74 : decode cX10_steady 74 = .ok (.iload 4, 2) := by decide +kernel
theorem dX10_steady_76 : decode cX10_steady 76 = .ok (.istore_n 2, 1) := by decide +kernel
theorem dX10_steady_77 : decode cX10_steady 77 = .ok (.iload 5, 2) := by decide +kernel
theorem dX10_steady_79 : decode cX10_steady 79 = .ok (.istore_n 3, 1) := by decide +kernel
theorem dX10_steady_80 : decode cX10_steady 80 = .ok (.iinc 4 1, 3) := by decide +kernel
theorem dX10_steady_83 : decode cX10_steady 83 = .ok (.goto (-58), 3) := by decide +kernel
theorem dX10_steady_86 : decode cX10_steady 86 = .ok (.iload_n 1, 1) := by decide +kernel
theorem dX10_steady_87 : decode cX10_steady 87 = .ok (.ifCond .ne 7, 3) := by decide +kernel
theorem dX10_steady_90 : decode cX10_steady 90 = .ok (.iload_n 2, 1) := by decide +kernel
theorem dX10_steady_91 : decode cX10_steady 91 = .ok (.goto 4, 3) := by decide +kernel
theorem dX10_steady_94 : decode cX10_steady 94 = .ok (.iload_n 3, 1) := by decide +kernel
theorem dX10_steady_95 : decode cX10_steady 95 = .ok (.ireturn, 1) := by decide +kernel
theorem dX10_flip_0 : decode cX10_flip 0 = .ok (.aload_n 0, 1) := by decide +kernel
theorem dX10_flip_1 : decode cX10_flip 1 = .ok (.invokevirtual 148, 3) := by decide +kernel
theorem dX10_flip_4 : decode cX10_flip 4 = .ok (.ifCond .ne 12, 3) := by decide +kernel
theorem dX10_flip_7 : decode cX10_flip 7 = .ok (.iload_n 1, 1) := by decide +kernel
theorem dX10_flip_8 : decode cX10_flip 8 = .ok (.ifCond .lt 8, 3) := by decide +kernel
theorem dX10_flip_11 : decode cX10_flip 11 = .ok (.iload_n 1, 1) := by decide +kernel
theorem dX10_flip_12 : decode cX10_flip 12 = .ok (.iconst 1, 1) := by decide +kernel
theorem dX10_flip_13 : decode cX10_flip 13 = .ok (.if_icmp .le 5, 3) := by decide +kernel
theorem dX10_flip_16 : decode cX10_flip 16 = .ok (.iconst (-1), 1) := by decide +kernel
theorem dX10_flip_17 : decode cX10_flip 17 = .ok (.ireturn, 1) := by decide +kernel
theorem dX10_flip_18 : decode cX10_flip 18 = .ok (.aload_n 0, 1) := by decide +kernel
theorem dX10_flip_19 : decode cX10_flip 19 = .ok (.invokevirtual 188, 3) := by decide +kernel
theorem dX10_flip_22 : decode cX10_flip 22 = .ok (.iconst (-1), 1) := by decide +kernel
theorem dX10_flip_23 : decode cX10_flip 23 = .ok (.istore_n 2, 1) := by decide +kernel
theorem dX10_flip_24 : decode cX10_flip 24 = .ok (.iconst (-1), 1) := by decide +kernel
theorem dX10_flip_25 : decode cX10_flip 25 = .ok (.istore_n 3, 1) := by decide +kernel
theorem dX10_flip_26 : decode cX10_flip 26 = .ok (.iconst 0, 1) := by decide +kernel
theorem dX10_flip_27 : decode cX10_flip 27 = .ok (.istore 4, 2) := by decide +kernel
theorem dX10_flip_29 : decode cX10_flip 29 = .ok (.iload 4, 2) := by decide +kernel
theorem dX10_flip_31 : decode cX10_flip 31 = .ok (.bipush 64, 2) := by decide +kernel
theorem dX10_flip_33 : decode cX10_flip 33 = .ok (.if_icmp .ge 126, 3) := by decide +kernel
theorem dX10_flip_36 : decode cX10_flip 36 = .ok (.iload 4, 2) := by decide +kernel
theorem dX10_flip_38 : decode cX10_flip 38 = .ok (.bipush 16, 2) := by decide +kernel
theorem dX10_flip_40 : decode cX10_flip 40 = .ok (.idiv, 1) := by decide +kernel
theorem dX10_flip_41 : decode cX10_flip 41 = .ok (.istore 5, 2) := by decide +kernel
theorem dX10_flip_43 : decode cX10_flip 43 = .ok (.iload 4, 2) := by decide +kernel
theorem dX10_flip_45 : decode cX10_flip 45 = .ok (.iconst 4, 1) := by decide +kernel
theorem dX10_flip_46 : decode cX10_flip 46 = .ok (.idiv, 1) := by decide +kernel
theorem dX10_flip_47 : decode cX10_flip 47 = .ok (.iconst 4, 1) := by decide +kernel
theorem dX10_flip_48 : decode cX10_flip 48 = .ok (.irem, 1) := by decide +kernel
theorem dX10_flip_49 : decode cX10_flip 49 = .ok (.istore 6, 2) := by decide +kernel
theorem dX10_flip_51 : decode cX10_flip 51 = .ok (.iload 4, 2) := by decide +kernel
theorem dX10_flip_53 : decode cX10_flip 53 = .ok (.iconst 4, 1) := by decide +kernel
theorem dX10_flip_54 : decode cX10_flip 54 = .ok (.irem, 1) := by decide +kernel
theorem dX10_flip_55 : decode cX10_flip 55 = .ok (.istore 7, 2) := by decide +kernel
theorem dX10_flip_57 : decode cX10_flip 57 = .ok (.iload 5, 2) := by decide +kernel
theorem dX10_flip_59 : decode cX10_flip 59 = .ok (.iload 6, 2) := by decide +kernel
theorem dX10_flip_61 : decode cX10_flip 61 = .ok (.if_icmp .eq 92, 3) := by decide +kernel
theorem dX10_flip_64 : decode cX10_flip 64 = .ok (.iload 5, 2) := by decide +kernel
theorem dX10_flip_66 : decode cX10_flip 66 = .ok (.iload 7, 2) := by decide +kernel
theorem dX10_flip_68 : decode cX10_flip 68 = .ok (.if_icmp .eq 85, 3) := by decide +kernel
theorem dX10_flip_71 : decode cX10_flip 71 = .ok (.iload 6, 2) := by decide +kernel
theorem dX10_flip_73 : decode cX10_flip 73 = .ok (.iload 7, 2) := by decide +kernel
theorem dX10_flip_75 : decode cX10_flip 75 = .ok (.if_icmp .eq 78, 3) := by decide +kernel
theorem dX10_flip_78 : decode cX10_flip 78 = .ok (.bipush 6, 2) := by decide +kernel
theorem dX10_flip_80 : decode cX10_flip 80 = .ok (.iload 5, 2) := by decide +kernel
theorem dX10_flip_82 : decode cX10_flip 82 = .ok (.isub, 1) := by decide +kernel
theorem dX10_flip_83 : decode cX10_flip 83 = .ok (.iload 6, 2) := by decide +kernel
theorem dX10_flip_85 : decode cX10_flip 85 = .ok (.isub, 1) := by decide +kernel
theorem dX10_flip_86 : decode cX10_flip 86 = .ok (.iload 7, 2) := by decide +kernel
theorem dX10_flip_88 : decode cX10_flip 88 = .ok (.isub, 1) := by decide +kernel
theorem dX10_flip_89 : decode cX10_flip 89 = .ok (.istore 8, 2) := by decide +kernel
theorem dX10_flip_91 : decode cX10_flip 91 = .ok (.aload_n 0, 1) := by decide +kernel
theorem dX10_flip_92 : decode cX10_flip 92 = .ok (.getfield 85, 3) := by decide +kernel
theorem dX10_flip_95 : decode cX10_flip 95 = .ok (.aload_n 0, 1) := by decide +kernel
theorem dX10_flip_96 : decode cX10_flip 96 = .ok (.getfield 46, 3) := by decide +kernel
theorem dX10_flip_99 : decode cX10_flip 99 = .ok (.iload 5, 2) := by decide +kernel
theorem dX10_flip_101 : decode cX10_flip 101 = .ok (.iload 6, 2) := by decide +kernel
theorem dX10_flip_103 : decode cX10_flip 103 = .ok (.iload 7, 2) := by decide +kernel
theorem dX10_flip_105 : decode cX10_flip 105 = .ok (.iload 8, 2) := by decide +kernel
theorem dX10_flip_107 : decode cX10_flip 107 = .ok (.invokevirtual 320, 3) := by decide +kernel
theorem dX10_flip_110 : decode cX10_flip 110 = .ok (.putfield 324, 3) := by decide +kernel
theorem dX10_flip_113 : decode cX10_flip 113 = .ok (.aload_n 0, 1) := by decide +kernel
theorem dX10_flip_114 : decode cX10_flip 114 = .ok (.getfield 85, 3) := by decide +kernel
theorem dX10_flip_117 : decode cX10_flip 117 = .ok (.invokevirtual 191, 3) := by decide +kernel
theorem dX10_flip_120 : decode cX10_flip 120 = .ok (.istore 9, 2) := by decide +kernel
theorem dX10_flip_122 : decode cX10_flip 122 = .ok (.iload 9, 2) := by decide +kernel
theorem dX10_flip_124 : decode cX10_flip 124 = .ok (.iload_n 3, 1) := by decide +kernel
theorem dX10_flip_125 : decode cX10_flip 125 = .ok (.if_icmp .le 28, 3) := by decide +kernel
theorem dX10_flip_128 : decode cX10_flip 128 = .ok (.iload 5, 2) := by decide +kernel
theorem dX10_flip_130 : decode cX10_flip 130 = .ok (.sipush 1000, 3) := by decide +kernel
theorem dX10_flip_133 : decode cX10_flip 133 = .ok (.imul, 1) := by decide +kernel
theorem dX10_flip_134 : decode cX10_flip 134 = .ok (.iload 6, 2) := by decide +kernel
theorem dX10_flip_136 : decode cX10_flip 136 = .ok (.bipush 100, 2) := by decide +kernel
theorem dX10_flip_138 : decode cX10_flip 138 = .ok (.imul, 1) := by decide +kernel
theorem dX10_flip_139 : decode cX10_flip 139 = .ok (.iadd, 1) := by decide +kernel
theorem dX10_flip_140 : decode cX10_flip 140 = .ok (.iload 7, 2) := by decide +kernel
theorem dX10_flip_142 : decode cX10_flip 142 = .ok (.bipush 10, 2) := by decide +kernel
theorem dX10_flip_144 : decode cX10_flip 144 = .ok (.imul, 1) := by decide +kernel
theorem dX10_flip_145 : decode cX10_flip 145 = .ok (.iadd, 1) := by decide +kernel
theorem dX10_flip_146 : decode cX10_flip 146 = .ok (.iload 8, 2) := by decide +kernel
theorem dX10_flip_148 : decode cX10_flip 148 = .ok (.iadd, 1) := by decide +kernel
theorem dX10_flip_149 : decode cX10_flip 149 = .ok (.istore_n 2, 1) := by decide +kernel
theorem dX10_flip_150 : decode cX10_flip 150 = .ok (.iload 9, 2) := by decide +kernel
theorem dX10_flip_152 : decode cX10_flip 152 = .ok (.istore_n 3, 1) := by decide +kernel
theorem dX10_flip_153 : decode cX10_flip 153 = .ok (.iinc 4 1, 3) := by decide +kernel
theorem dX10_flip_156 : decode cX10_flip 156 = .ok (.goto (-127), 3) := by decide +kernel
theorem dX10_flip_159 : decode cX10_flip 159 = .ok (.iload_n 1, 1) := by decide +kernel
theorem dX10_flip_160 : decode cX10_flip 160 = .ok (.ifCond .ne 7, 3) := by decide +kernel
theorem dX10_flip_163 : decode cX10_flip 163 = .ok (.iload_n 2, 1) := by decide +kernel
theorem dX10_flip_164 : decode cX10_flip 164 = .ok (.goto 4, 3) := by decide +kernel
theorem dX10_flip_167 : decode cX10_flip 167 = .ok (.iload_n 3, 1) := by decide +kernel
theorem dX10_flip_168 : decode cX10_flip 168 = .ok (.ireturn, 1) := by decide +kernel
theorem dX10_likely_0 : decode cX10_likely 0 = .ok (.aload_n 0, 1) := by decide +kernel
theorem dX10_likely_1 : decode cX10_likely 1 = .ok (.getfield 46, 3) := by decide +kernel
theorem dX10_likely_4 : decode cX10_likely 4 = .ok (.iload_n 1, 1) := by decide +kernel
theorem dX10_likely_5 : decode cX10_likely 5 = .ok (.invokevirtual 152, 3) := by decide +kernel
theorem dX10_likely_8 : decode cX10_likely 8 = .ok (.ifCond .eq 22, 3) := by decide +kernel
theorem dX10_likely_11 : decode cX10_likely 11 = .ok (.iload_n 2, 1) := by decide +kernel
theorem dX10_likely_12 : decode cX10_likely 12 = .ok (.ifCond .lt 18, 3) := by decide +kernel
theorem dX10_likely_15 : decode cX10_likely 15 = .ok (.iload_n 2, 1) := by decide +kernel
theorem dX10_likely_16 : decode cX10_likely 16 = .ok (.iconst 3, 1) := by decide +kernel
theorem dX10_likely_17 : decode cX10_likely 17 = .ok (.if_icmp .gt 13, 3) := by decide +kernel
theorem dX10_likely_20 : decode cX10_likely 20 = .ok (.iload_n 3, 1) := by decide +kernel
theorem dX10_likely_21 : decode cX10_likely 21 = .ok (.ifCond .lt 9, 3) := by decide +kernel
theorem dX10_likely_24 : decode cX10_likely 24 = .ok (.iload_n 3, 1) := by decide +kernel
theorem dX10_likely_25 : decode cX10_likely 25 = .ok (.bipush 100, 2) := by decide +kernel
theorem dX10_likely_27 : decode cX10_likely 27 = .ok (.if_icmp .le 5, 3) := by decide +kernel
theorem dX10_likely_30 : decode cX10_likely 30 = .ok (.iconst (-1), 1) := by decide +kernel
theorem dX10_likely_31 : decode cX10_likely 31 = .ok (.ireturn, 1) := by decide +kernel
theorem dX10_likely_32 : decode cX10_likely 32 = .ok (.ldc2_w 326, 3) := by decide +kernel
theorem dX10_likely_35 : decode cX10_likely 35 = .ok (.aload_n 0, 1) := by decide +kernel
theorem dX10_likely_36 : decode cX10_likely 36 = .ok (.getfield 46, 3) := by decide +kernel
theorem dX10_likely_39 : decode cX10_likely 39 = .ok (.iload_n 1, 1) := by decide +kernel
theorem dX10_likely_40 : decode cX10_likely 40 = .ok (.invokevirtual 182, 3) := by decide +kernel
theorem dX10_likely_43 : decode cX10_likely 43 = .ok (.iload_n 2, 1) := by decide +kernel
theorem dX10_likely_44 : decode cX10_likely 44 = .ok (.iconst 4, 1) := by decide +kernel
theorem dX10_likely_45 : decode cX10_likely 45 = .ok (.imul, 1) := by decide +kernel
theorem dX10_likely_46 : decode cX10_likely 46 = .ok (.iload_n 3, 1) := by decide +kernel
theorem dX10_likely_47 : decode cX10_likely 47 = .ok (.invokestatic 328, 3) := by decide +kernel
theorem dX10_likely_50 : decode cX10_likely 50 = .ok (.l2i, 1) := by decide +kernel
theorem dX10_likely_51 : decode cX10_likely 51 = .ok (.ireturn, 1) := by decide +kernel
theorem dX10_standingParts_0 : decode cX10_standingParts 0 = .ok (.iload_n 2, 1) := by decide +kernel
theorem dX10_standingParts_1 : decode cX10_standingParts 1 = .ok (.iload_n 3, 1) := by decide +kernel
theorem dX10_standingParts_2 : decode cX10_standingParts 2 = .ok (.iconst 2, 1) := by decide +kernel
theorem dX10_standingParts_3 : decode cX10_standingParts 3 = .ok (.idiv, 1) := by decide +kernel
theorem dX10_standingParts_4 : decode cX10_standingParts 4 = .ok (.if_icmp .gt 13, 3) := by decide +kernel
theorem dX10_standingParts_7 : decode cX10_standingParts 7 = .ok (.iload_n 2, 1) := by decide +kernel
theorem dX10_standingParts_8 : decode cX10_standingParts 8 = .ok (.ineg, 1) := by decide +kernel
theorem dX10_standingParts_9 : decode cX10_standingParts 9 = .ok (.iload_n 3, 1) := by decide +kernel
theorem dX10_standingParts_10 : decode cX10_standingParts 10 = .ok (.iload_n 3, 1) := by decide +kernel
theorem dX10_standingParts_11 : decode cX10_standingParts 11 = .ok (.iconst 2, 1) := by decide +kernel
theorem dX10_standingParts_12 : decode cX10_standingParts 12 = .ok (.idiv, 1) := by decide +kernel
theorem dX10_standingParts_13 : decode cX10_standingParts 13 = .ok (.isub, 1) := by decide +kernel
theorem dX10_standingParts_14 : decode cX10_standingParts 14 = .ok (.if_icmp .le 7, 3) := by decide +kernel
theorem dX10_standingParts_17 : decode cX10_standingParts 17 = .ok (.iconst 1, 1) := by decide +kernel
theorem dX10_standingParts_18 : decode cX10_standingParts 18 = .ok (.goto 4, 3) := by decide +kernel
theorem dX10_standingParts_21 : decode cX10_standingParts 21 = .ok (.iconst 0, 1) := by decide +kernel
theorem dX10_standingParts_22 : decode cX10_standingParts 22 = .ok (.istore 5, 2) := by decide +kernel
theorem dX10_standingParts_24 : decode cX10_standingParts 24 = .ok (.lload_n 0, 1) := by decide +kernel
theorem dX10_standingParts_25 : decode cX10_standingParts 25 = .ok (.lconst 0, 1) := by decide +kernel
theorem dX10_standingParts_26 : decode cX10_standingParts 26 = .ok (.lcmp, 1) := by decide +kernel
theorem dX10_standingParts_27 : decode cX10_standingParts 27 = .ok (.ifCond .eq 12, 3) := by decide +kernel
theorem dX10_standingParts_30 : decode cX10_standingParts 30 = .ok (.iload_n 3, 1) := by decide +kernel
theorem dX10_standingParts_31 : decode cX10_standingParts 31 = .ok (.ifCond .lt 8, 3) := by decide +kernel
theorem dX10_standingParts_34 : decode cX10_standingParts 34 = .ok (.iload 5, 2) := by decide +kernel
theorem dX10_standingParts_36 : decode cX10_standingParts 36 = .ok (.ifCond .eq 5, 3) := by decide +kernel
theorem dX10_standingParts_39 : decode cX10_standingParts 39 = .ok (.lconst 0, 1) := by decide +kernel
theorem dX10_standingParts_40 : decode cX10_standingParts 40 = .ok (.lreturn, 1) := by decide +kernel
theorem dX10_standingParts_41 : decode cX10_standingParts 41 = .ok (.iload_n 3, 1) := by decide +kernel
theorem dX10_standingParts_42 : decode cX10_standingParts 42 = .ok (.ifCond .ne 5, 3) := by decide +kernel
theorem dX10_standingParts_45 : decode cX10_standingParts 45 = .ok (.lload_n 0, 1) := by decide +kernel
theorem dX10_standingParts_46 : decode cX10_standingParts 46 = .ok (.lreturn, 1) := by decide +kernel
theorem dX10_standingParts_47 : decode cX10_standingParts 47 = .ok (.lload_n 0, 1) := by decide +kernel
theorem dX10_standingParts_48 : decode cX10_standingParts 48 = .ok (.iload 4, 2) := by decide +kernel
theorem dX10_standingParts_50 : decode cX10_standingParts 50 = .ok (.i2l, 1) := by decide +kernel
theorem dX10_standingParts_51 : decode cX10_standingParts 51 = .ok (.lmul, 1) := by decide +kernel
theorem dX10_standingParts_52 : decode cX10_standingParts 52 = .ok (.ldc2_w 332, 3) := by decide +kernel
theorem dX10_standingParts_55 : decode cX10_standingParts 55 = .ok (.ldiv, 1) := by decide +kernel
theorem dX10_standingParts_56 : decode cX10_standingParts 56 = .ok (.lstore 6, 2) := by decide +kernel
theorem dX10_standingParts_58 : decode cX10_standingParts 58 = .ok (.iload_n 3, 1) := by decide +kernel
theorem dX10_standingParts_59 : decode cX10_standingParts 59 = .ok (.iconst 2, 1) := by decide +kernel
theorem dX10_standingParts_60 : decode cX10_standingParts 60 = .ok (.irem, 1) := by decide +kernel
theorem dX10_standingParts_61 : decode cX10_standingParts 61 = .ok (.ifCond .ne 9, 3) := by decide +kernel
theorem dX10_standingParts_64 : decode cX10_standingParts 64 = .ok (.iload_n 2, 1) := by decide +kernel
theorem dX10_standingParts_65 : decode cX10_standingParts 65 = .ok (.iconst 1, 1) := by decide +kernel
theorem dX10_standingParts_66 : decode cX10_standingParts 66 = .ok (.isub, 1) := by decide +kernel
theorem dX10_standingParts_67 : decode cX10_standingParts 67 = .ok (.goto 6, 3) := by decide +kernel
theorem dX10_standingParts_70 : decode cX10_standingParts 70 = .ok (.iload_n 2, 1) := by decide +kernel
theorem dX10_standingParts_71 : decode cX10_standingParts 71 = .ok (.iconst 1, 1) := by decide +kernel
theorem dX10_standingParts_72 : decode cX10_standingParts 72 = .ok (.iadd, 1) := by decide +kernel
theorem dX10_standingParts_73 : decode cX10_standingParts 73 = .ok (.istore 8, 2) := by decide +kernel
theorem dX10_standingParts_75 : decode cX10_standingParts 75 = .ok (.lload 6, 2) := by decide +kernel
theorem dX10_standingParts_77 : decode cX10_standingParts 77 = .ok (.iload 8, 2) := by decide +kernel
theorem dX10_standingParts_79 : decode cX10_standingParts 79 = .ok (.iload_n 3, 1) := by decide +kernel
theorem dX10_standingParts_80 : decode cX10_standingParts 80 = .ok (.iconst 1, 1) := by decide +kernel
theorem dX10_standingParts_81 : decode cX10_standingParts 81 = .ok (.isub, 1) := by decide +kernel
theorem dX10_standingParts_82 : decode cX10_standingParts 82 = .ok (.iload 4, 2) := by decide +kernel
theorem dX10_standingParts_84 : decode cX10_standingParts 84 = .ok (.invokestatic 328, 3) := by decide +kernel
theorem dX10_standingParts_87 : decode cX10_standingParts 87 = .ok (.lload_n 0, 1) := by decide +kernel
theorem dX10_standingParts_88 : decode cX10_standingParts 88 = .ok (.lload 6, 2) := by decide +kernel
theorem dX10_standingParts_90 : decode cX10_standingParts 90 = .ok (.lsub, 1) := by decide +kernel
theorem dX10_standingParts_91 : decode cX10_standingParts 91 = .ok (.iload_n 2, 1) := by decide +kernel
theorem dX10_standingParts_92 : decode cX10_standingParts 92 = .ok (.iload_n 3, 1) := by decide +kernel
theorem dX10_standingParts_93 : decode cX10_standingParts 93 = .ok (.iconst 1, 1) := by decide +kernel
theorem dX10_standingParts_94 : decode cX10_standingParts 94 = .ok (.isub, 1) := by decide +kernel
theorem dX10_standingParts_95 : decode cX10_standingParts 95 = .ok (.iload 4, 2) := by decide +kernel
theorem dX10_standingParts_97 : decode cX10_standingParts 97 = .ok (.invokestatic 328, 3) := by decide +kernel
theorem dX10_standingParts_100 : decode cX10_standingParts 100 = .ok (.ladd, 1) := by decide +kernel
theorem dX10_standingParts_101 : decode cX10_standingParts 101 = .ok (.lreturn, 1) := by decide +kernel
theorem dX10_trial_0 : decode cX10_trial 0 = .ok (.aload_n 0, 1) := by decide +kernel
theorem dX10_trial_1 : decode cX10_trial 1 = .ok (.invokevirtual 148, 3) := by decide +kernel
theorem dX10_trial_4 : decode cX10_trial 4 = .ok (.ifCond .ne 39, 3) := by decide +kernel
theorem dX10_trial_7 : decode cX10_trial 7 = .ok (.iload_n 1, 1) := by decide +kernel
theorem dX10_trial_8 : decode cX10_trial 8 = .ok (.iconst 1, 1) := by decide +kernel
theorem dX10_trial_9 : decode cX10_trial 9 = .ok (.if_icmp .lt 34, 3) := by decide +kernel
theorem dX10_trial_12 : decode cX10_trial 12 = .ok (.iload_n 1, 1) := by decide +kernel
theorem dX10_trial_13 : decode cX10_trial 13 = .ok (.bipush 50, 2) := by decide +kernel
theorem dX10_trial_15 : decode cX10_trial 15 = .ok (.if_icmp .gt 28, 3) := by decide +kernel
theorem dX10_trial_18 : decode cX10_trial 18 = .ok (.iload 4, 2) := by decide +kernel
theorem dX10_trial_20 : decode cX10_trial 20 = .ok (.invokestatic 253, 3) := by decide +kernel
theorem dX10_trial_23 : decode cX10_trial 23 = .ok (.ifCond .eq 20, 3) := by decide +kernel
theorem dX10_trial_26 : decode cX10_trial 26 = .ok (.iload 5, 2) := by decide +kernel
theorem dX10_trial_28 : decode cX10_trial 28 = .ok (.ifCond .lt 15, 3) := by decide +kernel
theorem dX10_trial_31 : decode cX10_trial 31 = .ok (.iload 5, 2) := by decide +kernel
theorem dX10_trial_33 : decode cX10_trial 33 = .ok (.aload_n 0, 1) := by decide +kernel
theorem dX10_trial_34 : decode cX10_trial 34 = .ok (.getfield 46, 3) := by decide +kernel
theorem dX10_trial_37 : decode cX10_trial 37 = .ok (.getfield 137, 3) := by decide +kernel
theorem dX10_trial_40 : decode cX10_trial 40 = .ok (.if_icmp .le 5, 3) := by decide +kernel
theorem dX10_trial_43 : decode cX10_trial 43 = .ok (.iconst (-1), 1) := by decide +kernel
theorem dX10_trial_44 : decode cX10_trial 44 = .ok (.ireturn, 1) := by decide +kernel
theorem dX10_trial_45 : decode cX10_trial 45 = .ok (.aload_n 0, 1) := by decide +kernel
theorem dX10_trial_46 : decode cX10_trial 46 = .ok (.getfield 92, 3) := by decide +kernel
theorem dX10_trial_49 : decode cX10_trial 49 = .ok (.lload_n 2, 1) := by decide +kernel
theorem dX10_trial_50 : decode cX10_trial 50 = .ok (.putfield 334, 3) := by decide +kernel
theorem dX10_trial_53 : decode cX10_trial 53 = .ok (.iconst 0, 1) := by decide +kernel
theorem dX10_trial_54 : decode cX10_trial 54 = .ok (.istore 6, 2) := by decide +kernel
theorem dX10_trial_56 : decode cX10_trial 56 = .ok (.iconst 0, 1) := by decide +kernel
theorem dX10_trial_57 : decode cX10_trial 57 = .ok (.istore 7, 2) := by decide +kernel
theorem dX10_trial_59 : decode cX10_trial 59 = .ok (.iload 7, 2) := by decide +kernel
theorem dX10_trial_61 : decode cX10_trial 61 = .ok (.iload_n 1, 1) := by decide +kernel
theorem dX10_trial_62 : decode cX10_trial 62 = .ok (.if_icmp .ge 58, 3) := by decide +kernel
theorem dX10_trial_65 : decode cX10_trial 65 = .ok (.aload_n 0, 1) := by decide +kernel
theorem dX10_trial_66 : decode cX10_trial 66 = .ok (.aload_n 0, 1) := by decide +kernel
theorem dX10_trial_67 : decode cX10_trial 67 = .ok (.getfield 96, 3) := by decide +kernel
theorem dX10_trial_70 : decode cX10_trial 70 = .ok (.iload 4, 2) := by decide +kernel
theorem dX10_trial_72 : decode cX10_trial 72 = .ok (.invokevirtual 338, 3) := by decide +kernel
theorem dX10_trial_75 : decode cX10_trial 75 = .ok (.aload_n 0, 1) := by decide +kernel
theorem dX10_trial_76 : decode cX10_trial 76 = .ok (.getfield 85, 3) := by decide +kernel
theorem dX10_trial_79 : decode cX10_trial 79 = .ok (.aload_n 0, 1) := by decide +kernel
theorem dX10_trial_80 : decode cX10_trial 80 = .ok (.getfield 46, 3) := by decide +kernel
theorem dX10_trial_83 : decode cX10_trial 83 = .ok (.aload_n 0, 1) := by decide +kernel
theorem dX10_trial_84 : decode cX10_trial 84 = .ok (.getfield 96, 3) := by decide +kernel
theorem dX10_trial_87 : decode cX10_trial 87 = .ok (.aload_n 0, 1) := by decide +kernel
theorem dX10_trial_88 : decode cX10_trial 88 = .ok (.getfield 46, 3) := by decide +kernel
theorem dX10_trial_91 : decode cX10_trial 91 = .ok (.getfield 177, 3) := by decide +kernel
theorem dX10_trial_94 : decode cX10_trial 94 = .ok (.invokevirtual 316, 3) := by decide +kernel
theorem dX10_trial_97 : decode cX10_trial 97 = .ok (.aload_n 0, 1) := by decide +kernel
theorem dX10_trial_98 : decode cX10_trial 98 = .ok (.getfield 85, 3) := by decide +kernel
theorem dX10_trial_101 : decode cX10_trial 101 = .ok (.iconst 0, 1) := by decide +kernel
theorem dX10_trial_102 : decode cX10_trial 102 = .ok (.iload 5, 2) := by decide +kernel
theorem dX10_trial_104 : decode cX10_trial 104 = .ok (.invokevirtual 230, 3) := by decide +kernel
theorem dX10_trial_107 : decode cX10_trial 107 = .ok (.iconst (-1), 1) := by decide +kernel
theorem dX10_trial_108 : decode cX10_trial 108 = .ok (.if_icmp .eq 6, 3) := by decide +kernel
theorem dX10_trial_111 : decode cX10_trial 111 = .ok (.iinc 6 1, 3) := by decide +kernel
theorem dX10_trial_114 : decode cX10_trial 114 = .ok (.iinc 7 1, 3) := by decide +kernel
theorem dX10_trial_117 : decode cX10_trial 117 = .ok (.goto (-58), 3) := by decide +kernel
theorem dX10_trial_120 : decode cX10_trial 120 = .ok (.iload 6, 2) := by decide +kernel
theorem dX10_trial_122 : decode cX10_trial 122 = .ok (.ireturn, 1) := by decide +kernel
theorem dX10_drawInto_0 : decode cX10_drawInto 0 = .ok (.iconst 0, 1) := by decide +kernel
theorem dX10_drawInto_1 : decode cX10_drawInto 1 = .ok (.istore_n 3, 1) := by decide +kernel
theorem dX10_drawInto_2 : decode cX10_drawInto 2 = .ok (.iload_n 3, 1) := by decide +kernel
theorem dX10_drawInto_3 : decode cX10_drawInto 3 = .ok (.aload_n 0, 1) := by decide +kernel
theorem dX10_drawInto_4 : decode cX10_drawInto 4 = .ok (.getfield 46, 3) := by decide +kernel
theorem dX10_drawInto_7 : decode cX10_drawInto 7 = .ok (.getfield 137, 3) := by decide +kernel
theorem dX10_drawInto_10 : decode cX10_drawInto 10 = .ok (.if_icmp .ge 28, 3) := by decide +kernel
theorem dX10_drawInto_13 : decode cX10_drawInto 13 = .ok (.iload_n 3, 1) := by decide +kernel
theorem dX10_drawInto_14 : decode cX10_drawInto 14 = .ok (.aload_n 1, 1) := by decide +kernel
theorem dX10_drawInto_15 : decode cX10_drawInto 15 = .ok (.arraylength, 1) := by decide +kernel
theorem dX10_drawInto_16 : decode cX10_drawInto 16 = .ok (.if_icmp .ge 22, 3) := by decide +kernel
theorem dX10_drawInto_19 : decode cX10_drawInto 19 = .ok (.aload_n 1, 1) := by decide +kernel
theorem dX10_drawInto_20 : decode cX10_drawInto 20 = .ok (.iload_n 3, 1) := by decide +kernel
theorem dX10_drawInto_21 : decode cX10_drawInto 21 = .ok (.aload_n 0, 1) := by decide +kernel
theorem dX10_drawInto_22 : decode cX10_drawInto 22 = .ok (.getfield 92, 3) := by decide +kernel
theorem dX10_drawInto_25 : decode cX10_drawInto 25 = .ok (.iload_n 2, 1) := by decide +kernel
theorem dX10_drawInto_26 : decode cX10_drawInto 26 = .ok (.iconst 1, 1) := by decide +kernel
theorem dX10_drawInto_27 : decode cX10_drawInto 27 = .ok (.iadd, 1) := by decide +kernel
theorem dX10_drawInto_28 : decode cX10_drawInto 28 = .ok (.invokevirtual 341, 3) := by decide +kernel
theorem dX10_drawInto_31 : decode cX10_drawInto 31 = .ok (.iastore, 1) := by decide +kernel
theorem dX10_drawInto_32 : decode cX10_drawInto 32 = .ok (.iinc 3 1, 3) := by decide +kernel
theorem dX10_drawInto_35 : decode cX10_drawInto 35 = .ok (.goto (-33), 3) := by decide +kernel
theorem dX10_drawInto_38 : decode cX10_drawInto 38 = .ok (.return_, 1) := by decide +kernel
theorem dX10_jug_0 : decode cX10_jug 0 = .ok (.aload_n 0, 1) := by decide +kernel
theorem dX10_jug_1 : decode cX10_jug 1 = .ok (.getfield 46, 3) := by decide +kernel
theorem dX10_jug_4 : decode cX10_jug 4 = .ok (.iload_n 1, 1) := by decide +kernel
theorem dX10_jug_5 : decode cX10_jug 5 = .ok (.invokevirtual 152, 3) := by decide +kernel
theorem dX10_jug_8 : decode cX10_jug 8 = .ok (.ifCond .eq 10, 3) := by decide +kernel
theorem dX10_jug_11 : decode cX10_jug 11 = .ok (.iload_n 2, 1) := by decide +kernel
theorem dX10_jug_12 : decode cX10_jug 12 = .ok (.invokestatic 162, 3) := by decide +kernel
theorem dX10_jug_15 : decode cX10_jug 15 = .ok (.ifCond .ne 5, 3) := by decide +kernel
theorem dX10_jug_18 : decode cX10_jug 18 = .ok (.iconst (-1), 1) := by decide +kernel
theorem dX10_jug_19 : decode cX10_jug 19 = .ok (.ireturn, 1) := by decide +kernel
theorem dX10_jug_20 : decode cX10_jug 20 = .ok (.aload_n 0, 1) := by decide +kernel
theorem dX10_jug_21 : decode cX10_jug 21 = .ok (.getfield 46, 3) := by decide +kernel
theorem dX10_jug_24 : decode cX10_jug 24 = .ok (.iload_n 1, 1) := by decide +kernel
theorem dX10_jug_25 : decode cX10_jug 25 = .ok (.invokevirtual 182, 3) := by decide +kernel
theorem dX10_jug_28 : decode cX10_jug 28 = .ok (.istore_n 3, 1) := by decide +kernel
theorem dX10_jug_29 : decode cX10_jug 29 = .ok (.iload_n 3, 1) := by decide +kernel
theorem dX10_jug_30 : decode cX10_jug 30 = .ok (.ifCond .ne 6, 3) := by decide +kernel
theorem dX10_jug_33 : decode cX10_jug 33 = .ok (.bipush 15, 2) := by decide +kernel
theorem dX10_jug_35 : decode cX10_jug 35 = .ok (.ireturn, 1) := by decide +kernel
theorem dX10_jug_36 : decode cX10_jug 36 = .ok (.iload_n 3, 1) := by decide +kernel
theorem dX10_jug_37 : decode cX10_jug 37 = .ok (.ifCond .le 20, 3) := by decide +kernel
theorem dX10_jug_40 : decode cX10_jug 40 = .ok (.iconst 5, 1) := by decide +kernel
theorem dX10_jug_41 : decode cX10_jug 41 = .ok (.iconst 1, 1) := by decide +kernel
theorem dX10_jug_42 : decode cX10_jug 42 = .ok (.iload_n 2, 1) := by decide +kernel
theorem dX10_jug_43 : decode cX10_jug 43 = .ok (.iconst 2, 1) := by decide +kernel
theorem dX10_jug_44 : decode cX10_jug 44 = .ok (.irem, 1) := by decide +kernel
theorem dX10_jug_45 : decode cX10_jug 45 = .ok (.iconst 1, 1) := by decide +kernel
theorem dX10_jug_46 : decode cX10_jug 46 = .ok (.if_icmp .ne 7, 3) := by decide +kernel
theorem dX10_jug_49 : decode cX10_jug 49 = .ok (.iload_n 2, 1) := by decide +kernel
theorem dX10_jug_50 : decode cX10_jug 50 = .ok (.goto 4, 3) := by decide +kernel
theorem dX10_jug_53 : decode cX10_jug 53 = .ok (.iconst 1, 1) := by decide +kernel
theorem dX10_jug_54 : decode cX10_jug 54 = .ok (.ishl, 1) := by decide +kernel
theorem dX10_jug_55 : decode cX10_jug 55 = .ok (.ior, 1) := by decide +kernel
theorem dX10_jug_56 : decode cX10_jug 56 = .ok (.ireturn, 1) := by decide +kernel
theorem dX10_jug_57 : decode cX10_jug 57 = .ok (.bipush 10, 2) := by decide +kernel
theorem dX10_jug_59 : decode cX10_jug 59 = .ok (.iconst 1, 1) := by decide +kernel
theorem dX10_jug_60 : decode cX10_jug 60 = .ok (.iload_n 2, 1) := by decide +kernel
theorem dX10_jug_61 : decode cX10_jug 61 = .ok (.iconst 2, 1) := by decide +kernel
theorem dX10_jug_62 : decode cX10_jug 62 = .ok (.irem, 1) := by decide +kernel
theorem dX10_jug_63 : decode cX10_jug 63 = .ok (.ifCond .ne 7, 3) := by decide +kernel
theorem dX10_jug_66 : decode cX10_jug 66 = .ok (.iload_n 2, 1) := by decide +kernel
theorem dX10_jug_67 : decode cX10_jug 67 = .ok (.goto 4, 3) := by decide +kernel
theorem dX10_jug_70 : decode cX10_jug 70 = .ok (.iconst 0, 1) := by decide +kernel
theorem dX10_jug_71 : decode cX10_jug 71 = .ok (.ishl, 1) := by decide +kernel
theorem dX10_jug_72 : decode cX10_jug 72 = .ok (.ior, 1) := by decide +kernel
theorem dX10_jug_73 : decode cX10_jug 73 = .ok (.ireturn, 1) := by decide +kernel
theorem dX10_soup_0 : decode cX10_soup 0 = .ok (.aload_n 0, 1) := by decide +kernel
theorem dX10_soup_1 : decode cX10_soup 1 = .ok (.invokevirtual 148, 3) := by decide +kernel
theorem dX10_soup_4 : decode cX10_soup 4 = .ok (.ifCond .ne 17, 3) := by decide +kernel
theorem dX10_soup_7 : decode cX10_soup 7 = .ok (.iload_n 1, 1) := by decide +kernel
theorem dX10_soup_8 : decode cX10_soup 8 = .ok (.invokestatic 253, 3) := by decide +kernel
theorem dX10_soup_11 : decode cX10_soup 11 = .ok (.ifCond .eq 10, 3) := by decide +kernel
theorem dX10_soup_14 : decode cX10_soup 14 = .ok (.iload_n 2, 1) := by decide +kernel
theorem dX10_soup_15 : decode cX10_soup 15 = .ok (.invokestatic 253, 3) := by decide +kernel
theorem dX10_soup_18 : decode cX10_soup 18 = .ok (.ifCond .ne 5, 3) := by decide +kernel
theorem dX10_soup_21 : decode cX10_soup 21 = .ok (.iconst (-1), 1) := by decide +kernel
theorem dX10_soup_22 : decode cX10_soup 22 = .ok (.ireturn, 1) := by decide +kernel
theorem dX10_soup_23 : decode cX10_soup 23 = .ok (.iconst 0, 1) := by decide +kernel
theorem dX10_soup_24 : decode cX10_soup 24 = .ok (.istore_n 3, 1) := by decide +kernel
theorem dX10_soup_25 : decode cX10_soup 25 = .ok (.iconst 0, 1) := by decide +kernel
theorem dX10_soup_26 : decode cX10_soup 26 = .ok (.istore 4, 2) := by decide +kernel
theorem dX10_soup_28 : decode cX10_soup 28 = .ok (.iload 4, 2) := by decide +kernel
theorem dX10_soup_30 : decode cX10_soup 30 = .ok (.aload_n 0, 1) := by decide +kernel
theorem dX10_soup_31 : decode cX10_soup 31 = .ok (.getfield 46, 3) := by decide +kernel
theorem dX10_soup_34 : decode cX10_soup 34 = .ok (.getfield 137, 3) := by decide +kernel
theorem dX10_soup_37 : decode cX10_soup 37 = .ok (.if_icmp .ge 41, 3) := by decide +kernel
theorem dX10_soup_40 : decode cX10_soup 40 = .ok (.aload_n 0, 1) := by decide +kernel
theorem dX10_soup_41 : decode cX10_soup 41 = .ok (.getfield 46, 3) := by decide +kernel
theorem dX10_soup_44 : decode cX10_soup 44 = .ok (.iload 4, 2) := by decide +kernel
theorem dX10_soup_46 : decode cX10_soup 46 = .ok (.invokevirtual 182, 3) := by decide +kernel
theorem dX10_soup_49 : decode cX10_soup 49 = .ok (.invokestatic 222, 3) := by decide +kernel
theorem dX10_soup_52 : decode cX10_soup 52 = .ok (.iload_n 1, 1) := by decide +kernel
theorem dX10_soup_53 : decode cX10_soup 53 = .ok (.if_icmp .gt 19, 3) := by decide +kernel
theorem dX10_soup_56 : decode cX10_soup 56 = .ok (.aload_n 0, 1) := by decide +kernel
theorem dX10_soup_57 : decode cX10_soup 57 = .ok (.getfield 46, 3) := by decide +kernel
theorem dX10_soup_60 : decode cX10_soup 60 = .ok (.iload 4, 2) := by decide +kernel
theorem dX10_soup_62 : decode cX10_soup 62 = .ok (.invokevirtual 185, 3) := by decide +kernel
theorem dX10_soup_65 : decode cX10_soup 65 = .ok (.iload_n 2, 1) := by decide +kernel
theorem dX10_soup_66 : decode cX10_soup 66 = .ok (.if_icmp .gt 6, 3) := by decide +kernel
theorem dX10_soup_69 : decode cX10_soup 69 = .ok (.iinc 3 1, 3) := by decide +kernel
theorem dX10_soup_72 : decode cX10_soup 72 = .ok (.iinc 4 1, 3) := by decide +kernel
theorem dX10_soup_75 : decode cX10_soup 75 = .ok (.goto (-47), 3) := by decide +kernel
theorem dX10_soup_78 : decode cX10_soup 78 = .ok (.iload_n 3, 1) := by decide +kernel
theorem dX10_soup_79 : decode cX10_soup 79 = .ok (.ireturn, 1) := by decide +kernel
theorem dX10_serves_0 : decode cX10_serves 0 = .ok (.aload_n 0, 1) := by decide +kernel
theorem dX10_serves_1 : decode cX10_serves 1 = .ok (.invokevirtual 148, 3) := by decide +kernel
theorem dX10_serves_4 : decode cX10_serves 4 = .ok (.ifCond .ne 12, 3) := by decide +kernel
theorem dX10_serves_7 : decode cX10_serves 7 = .ok (.iload_n 1, 1) := by decide +kernel
theorem dX10_serves_8 : decode cX10_serves 8 = .ok (.ifCond .lt 8, 3) := by decide +kernel
theorem dX10_serves_11 : decode cX10_serves 11 = .ok (.iload_n 1, 1) := by decide +kernel
theorem dX10_serves_12 : decode cX10_serves 12 = .ok (.iconst 1, 1) := by decide +kernel
theorem dX10_serves_13 : decode cX10_serves 13 = .ok (.if_icmp .le 6, 3) := by decide +kernel
theorem dX10_serves_16 : decode cX10_serves 16 = .ok (.ldc 181, 2) := by decide +kernel
theorem dX10_serves_18 : decode cX10_serves 18 = .ok (.ireturn, 1) := by decide +kernel
theorem dX10_serves_19 : decode cX10_serves 19 = .ok (.aload_n 0, 1) := by decide +kernel
theorem dX10_serves_20 : decode cX10_serves 20 = .ok (.invokevirtual 188, 3) := by decide +kernel
theorem dX10_serves_23 : decode cX10_serves 23 = .ok (.iconst 0, 1) := by decide +kernel
theorem dX10_serves_24 : decode cX10_serves 24 = .ok (.istore_n 2, 1) := by decide +kernel
theorem dX10_serves_25 : decode cX10_serves 25 = .ok (.iconst 0, 1) := by decide +kernel
theorem dX10_serves_26 : decode cX10_serves 26 = .ok (.istore_n 3, 1) := by decide +kernel
theorem dX10_serves_27 : decode cX10_serves 27 = .ok (.iconst 0, 1) := by decide +kernel
theorem dX10_serves_28 : decode cX10_serves 28 = .ok (.istore 4, 2) := by decide +kernel
theorem dX10_serves_30 : decode cX10_serves 30 = .ok (.iload 4, 2) := by decide +kernel
theorem dX10_serves_32 : decode cX10_serves 32 = .ok (.aload_n 0, 1) := by decide +kernel
theorem dX10_serves_33 : decode cX10_serves 33 = .ok (.getfield 46, 3) := by decide +kernel
theorem dX10_serves_36 : decode cX10_serves 36 = .ok (.getfield 137, 3) := by decide +kernel
theorem dX10_serves_39 : decode cX10_serves 39 = .ok (.if_icmp .ge 58, 3) := by decide +kernel
theorem dX10_serves_42 : decode cX10_serves 42 = .ok (.aload_n 0, 1) := by decide +kernel
theorem dX10_serves_43 : decode cX10_serves 43 = .ok (.getfield 85, 3) := by decide +kernel
theorem dX10_serves_46 : decode cX10_serves 46 = .ok (.iload 4, 2) := by decide +kernel
theorem dX10_serves_48 : decode cX10_serves 48 = .ok (.invokevirtual 344, 3) := by decide +kernel
theorem dX10_serves_51 : decode cX10_serves 51 = .ok (.istore 5, 2) := by decide +kernel
theorem dX10_serves_53 : decode cX10_serves 53 = .ok (.aload_n 0, 1) := by decide +kernel
theorem dX10_serves_54 : decode cX10_serves 54 = .ok (.getfield 85, 3) := by decide +kernel
theorem dX10_serves_57 : decode cX10_serves 57 = .ok (.iload 5, 2) := by decide +kernel
theorem dX10_serves_59 : decode cX10_serves 59 = .ok (.invokevirtual 345, 3) := by decide +kernel
theorem dX10_serves_62 : decode cX10_serves 62 = .ok (.istore 6, 2) := by decide +kernel
theorem dX10_serves_64 : decode cX10_serves 64 = .ok (.iload 6, 2) := by decide +kernel
theorem dX10_serves_66 : decode cX10_serves 66 = .ok (.iload_n 3, 1) := by decide +kernel
theorem dX10_serves_67 : decode cX10_serves 67 = .ok (.if_icmp .gt 18, 3) := by decide +kernel
theorem dX10_serves_70 : decode cX10_serves 70 = .ok (.iload 6, 2) := by decide +kernel
theorem dX10_serves_72 : decode cX10_serves 72 = .ok (.iload_n 3, 1) := by decide +kernel
theorem dX10_serves_73 : decode cX10_serves 73 = .ok (.if_icmp .ne 18, 3) := by decide +kernel
theorem dX10_serves_76 : decode cX10_serves 76 = .ok (.iload 5, 2) := by decide +kernel
theorem dX10_serves_78 : decode cX10_serves 78 = .ok (.iload_n 2, 1) := by decide +kernel
theorem dX10_serves_79 : decode cX10_serves 79 = .ok (.invokestatic 348, 3) := by decide +kernel
theorem dX10_serves_82 : decode cX10_serves 82 = .ok (.ifCond .eq 9, 3) := by decide +kernel
theorem dX10_serves_85 : decode cX10_serves 85 = .ok (.iload 5, 2) := by decide +kernel
theorem dX10_serves_87 : decode cX10_serves 87 = .ok (.istore_n 2, 1) := by decide +kernel
theorem dX10_serves_88 : decode cX10_serves 88 = .ok (.iload 6, 2) := by decide +kernel
theorem dX10_serves_90 : decode cX10_serves 90 = .ok (.istore_n 3, 1) := by decide +kernel
theorem dX10_serves_91 : decode cX10_serves 91 = .ok (.iinc 4 1, 3) := by decide +kernel
theorem dX10_serves_94 : decode cX10_serves 94 = .ok (.goto (-64), 3) := by decide +kernel
theorem dX10_serves_97 : decode cX10_serves 97 = .ok (.iload_n 1, 1) := by decide +kernel
theorem dX10_serves_98 : decode cX10_serves 98 = .ok (.ifCond .ne 7, 3) := by decide +kernel
theorem dX10_serves_101 : decode cX10_serves 101 = .ok (.iload_n 2, 1) := by decide +kernel
theorem dX10_serves_102 : decode cX10_serves 102 = .ok (.goto 4, 3) := by decide +kernel
theorem dX10_serves_105 : decode cX10_serves 105 = .ok (.iload_n 3, 1) := by decide +kernel
theorem dX10_serves_106 : decode cX10_serves 106 = .ok (.ireturn, 1) := by decide +kernel
theorem dX10_isNearer_0 : decode cX10_isNearer 0 = .ok (.iload_n 0, 1) := by decide +kernel
theorem dX10_isNearer_1 : decode cX10_isNearer 1 = .ok (.invokestatic 222, 3) := by decide +kernel
theorem dX10_isNearer_4 : decode cX10_isNearer 4 = .ok (.istore_n 2, 1) := by decide +kernel
theorem dX10_isNearer_5 : decode cX10_isNearer 5 = .ok (.iload_n 1, 1) := by decide +kernel
theorem dX10_isNearer_6 : decode cX10_isNearer 6 = .ok (.invokestatic 222, 3) := by decide +kernel
theorem dX10_isNearer_9 : decode cX10_isNearer 9 = .ok (.istore_n 3, 1) := by decide +kernel
theorem dX10_isNearer_10 : decode cX10_isNearer 10 = .ok (.iload_n 2, 1) := by decide +kernel
theorem dX10_isNearer_11 : decode cX10_isNearer 11 = .ok (.iload_n 3, 1) := by decide +kernel
theorem dX10_isNearer_12 : decode cX10_isNearer 12 = .ok (.if_icmp .lt 13, 3) := by decide +kernel
theorem dX10_isNearer_15 : decode cX10_isNearer 15 = .ok (.iload_n 2, 1) := by decide +kernel
theorem dX10_isNearer_16 : decode cX10_isNearer 16 = .ok (.iload_n 3, 1) := by decide +kernel
theorem dX10_isNearer_17 : decode cX10_isNearer 17 = .ok (.if_icmp .ne 12, 3) := by decide +kernel
theorem dX10_isNearer_20 : decode cX10_isNearer 20 = .ok (.iload_n 0, 1) := by decide +kernel
theorem dX10_isNearer_21 : decode cX10_isNearer 21 = .ok (.iload_n 1, 1) := by decide +kernel
theorem dX10_isNearer_22 : decode cX10_isNearer 22 = .ok (.if_icmp .ge 7, 3) := by decide +kernel
theorem dX10_isNearer_25 : decode cX10_isNearer 25 = .ok (.iconst 1, 1) := by decide +kernel
theorem dX10_isNearer_26 : decode cX10_isNearer 26 = .ok (.goto 4, 3) := by decide +kernel
theorem dX10_isNearer_29 : decode cX10_isNearer 29 = .ok (.iconst 0, 1) := by decide +kernel
theorem dX10_isNearer_30 : decode cX10_isNearer 30 = .ok (.ireturn, 1) := by decide +kernel
theorem dX10_rocky_0 : decode cX10_rocky 0 = .ok (.aload_n 0, 1) := by decide +kernel
theorem dX10_rocky_1 : decode cX10_rocky 1 = .ok (.invokevirtual 148, 3) := by decide +kernel
theorem dX10_rocky_4 : decode cX10_rocky 4 = .ok (.ifCond .ne 12, 3) := by decide +kernel
theorem dX10_rocky_7 : decode cX10_rocky 7 = .ok (.iload_n 1, 1) := by decide +kernel
theorem dX10_rocky_8 : decode cX10_rocky 8 = .ok (.ifCond .lt 8, 3) := by decide +kernel
theorem dX10_rocky_11 : decode cX10_rocky 11 = .ok (.iload_n 1, 1) := by decide +kernel
theorem dX10_rocky_12 : decode cX10_rocky 12 = .ok (.iconst 2, 1) := by decide +kernel
theorem dX10_rocky_13 : decode cX10_rocky 13 = .ok (.if_icmp .le 5, 3) := by decide +kernel
theorem dX10_rocky_16 : decode cX10_rocky 16 = .ok (.iconst (-1), 1) := by decide +kernel
theorem dX10_rocky_17 : decode cX10_rocky 17 = .ok (.ireturn, 1) := by decide +kernel
theorem dX10_rocky_18 : decode cX10_rocky 18 = .ok (.aload_n 0, 1) := by decide +kernel
theorem dX10_rocky_19 : decode cX10_rocky 19 = .ok (.invokevirtual 188, 3) := by decide +kernel
theorem dX10_rocky_22 : decode cX10_rocky 22 = .ok (.iload_n 1, 1) := by decide +kernel
theorem dX10_rocky_23 : decode cX10_rocky 23 = .ok (.ifCond .le 21, 3) := by decide +kernel
theorem dX10_rocky_26 : decode cX10_rocky 26 = .ok (.aload_n 0, 1) := by decide +kernel
theorem dX10_rocky_27 : decode cX10_rocky 27 = .ok (.getfield 85, 3) := by decide +kernel
theorem dX10_rocky_30 : decode cX10_rocky 30 = .ok (.iload_n 1, 1) := by decide +kernel
theorem dX10_rocky_31 : decode cX10_rocky 31 = .ok (.iconst 1, 1) := by decide +kernel
theorem dX10_rocky_32 : decode cX10_rocky 32 = .ok (.if_icmp .ne 7, 3) := by decide +kernel
theorem dX10_rocky_35 : decode cX10_rocky 35 = .ok (.iconst 1, 1) := by decide +kernel
theorem dX10_rocky_36 : decode cX10_rocky 36 = .ok (.goto 4, 3) := by decide +kernel
theorem dX10_rocky_39 : decode cX10_rocky 39 = .ok (.iconst (-1), 1) := by decide +kernel
theorem dX10_rocky_40 : decode cX10_rocky 40 = .ok (.invokevirtual 352, 3) := by decide +kernel
theorem dX10_rocky_43 : decode cX10_rocky 43 = .ok (.ireturn, 1) := by decide +kernel
theorem dX10_rocky_44 : decode cX10_rocky 44 = .ok (.iconst 0, 1) := by decide +kernel
theorem dX10_rocky_45 : decode cX10_rocky 45 = .ok (.istore_n 2, 1) := by decide +kernel
theorem dX10_rocky_46 : decode cX10_rocky 46 = .ok (.iconst 0, 1) := by decide +kernel
theorem dX10_rocky_47 : decode cX10_rocky 47 = .ok (.istore_n 3, 1) := by decide +kernel
theorem dX10_rocky_48 : decode cX10_rocky 48 = .ok (.iload_n 3, 1) := by decide +kernel
theorem dX10_rocky_49 : decode cX10_rocky 49 = .ok (.aload_n 0, 1) := by decide +kernel
theorem dX10_rocky_50 : decode cX10_rocky 50 = .ok (.getfield 46, 3) := by decide +kernel
theorem dX10_rocky_53 : decode cX10_rocky 53 = .ok (.getfield 137, 3) := by decide +kernel
theorem dX10_rocky_56 : decode cX10_rocky 56 = .ok (.if_icmp .ge 23, 3) := by decide +kernel
theorem dX10_rocky_59 : decode cX10_rocky 59 = .ok (.iload_n 2, 1) := by decide +kernel
theorem dX10_rocky_60 : decode cX10_rocky 60 = .ok (.aload_n 0, 1) := by decide +kernel
theorem dX10_rocky_61 : decode cX10_rocky 61 = .ok (.getfield 85, 3) := by decide +kernel
theorem dX10_rocky_64 : decode cX10_rocky 64 = .ok (.iload_n 3, 1) := by decide +kernel
theorem dX10_rocky_65 : decode cX10_rocky 65 = .ok (.invokevirtual 344, 3) := by decide +kernel
theorem dX10_rocky_68 : decode cX10_rocky 68 = .ok (.invokestatic 222, 3) := by decide +kernel
theorem dX10_rocky_71 : decode cX10_rocky 71 = .ok (.iadd, 1) := by decide +kernel
theorem dX10_rocky_72 : decode cX10_rocky 72 = .ok (.istore_n 2, 1) := by decide +kernel
theorem dX10_rocky_73 : decode cX10_rocky 73 = .ok (.iinc 3 1, 3) := by decide +kernel
theorem dX10_rocky_76 : decode cX10_rocky 76 = .ok (.goto (-28), 3) := by decide +kernel
theorem dX10_rocky_79 : decode cX10_rocky 79 = .ok (.iload_n 2, 1) := by decide +kernel
theorem dX10_rocky_80 : decode cX10_rocky 80 = .ok (.ireturn, 1) := by decide +kernel
theorem dX10_saw_0 : decode cX10_saw 0 = .ok (.aload_n 0, 1) := by decide +kernel
theorem dX10_saw_1 : decode cX10_saw 1 = .ok (.invokevirtual 148, 3) := by decide +kernel
theorem dX10_saw_4 : decode cX10_saw 4 = .ok (.ifCond .ne 36, 3) := by decide +kernel
theorem dX10_saw_7 : decode cX10_saw 7 = .ok (.iload_n 1, 1) := by decide +kernel
theorem dX10_saw_8 : decode cX10_saw 8 = .ok (.invokestatic 162, 3) := by decide +kernel
theorem dX10_saw_11 : decode cX10_saw 11 = .ok (.ifCond .eq 29, 3) := by decide +kernel
theorem dX10_saw_14 : decode cX10_saw 14 = .ok (.iload_n 2, 1) := by decide +kernel
theorem dX10_saw_15 : decode cX10_saw 15 = .ok (.iconst 1, 1) := by decide +kernel
theorem dX10_saw_16 : decode cX10_saw 16 = .ok (.if_icmp .lt 24, 3) := by decide +kernel
theorem dX10_saw_19 : decode cX10_saw 19 = .ok (.iload_n 2, 1) := by decide +kernel
theorem dX10_saw_20 : decode cX10_saw 20 = .ok (.bipush 99, 2) := by decide +kernel
theorem dX10_saw_22 : decode cX10_saw 22 = .ok (.if_icmp .gt 18, 3) := by decide +kernel
theorem dX10_saw_25 : decode cX10_saw 25 = .ok (.aload_n 0, 1) := by decide +kernel
theorem dX10_saw_26 : decode cX10_saw 26 = .ok (.getfield 46, 3) := by decide +kernel
theorem dX10_saw_29 : decode cX10_saw 29 = .ok (.iload_n 1, 1) := by decide +kernel
theorem dX10_saw_30 : decode cX10_saw 30 = .ok (.invokevirtual 165, 3) := by decide +kernel
theorem dX10_saw_33 : decode cX10_saw 33 = .ok (.iload_n 2, 1) := by decide +kernel
theorem dX10_saw_34 : decode cX10_saw 34 = .ok (.iadd, 1) := by decide +kernel
theorem dX10_saw_35 : decode cX10_saw 35 = .ok (.bipush 99, 2) := by decide +kernel
theorem dX10_saw_37 : decode cX10_saw 37 = .ok (.if_icmp .le 5, 3) := by decide +kernel
theorem dX10_saw_40 : decode cX10_saw 40 = .ok (.iconst (-1), 1) := by decide +kernel
theorem dX10_saw_41 : decode cX10_saw 41 = .ok (.ireturn, 1) := by decide +kernel
theorem dX10_saw_42 : decode cX10_saw 42 = .ok (.aload_n 0, 1) := by decide +kernel
theorem dX10_saw_43 : decode cX10_saw 43 = .ok (.getfield 63, 3) := by decide +kernel
theorem dX10_saw_46 : decode cX10_saw 46 = .ok (.aload_n 0, 1) := by decide +kernel
theorem dX10_saw_47 : decode cX10_saw 47 = .ok (.getfield 46, 3) := by decide +kernel
theorem dX10_saw_50 : decode cX10_saw 50 = .ok (.invokevirtual 355, 3) := by decide +kernel
theorem dX10_saw_53 : decode cX10_saw 53 = .ok (.aload_n 0, 1) := by decide +kernel
theorem dX10_saw_54 : decode cX10_saw 54 = .ok (.getfield 46, 3) := by decide +kernel
theorem dX10_saw_57 : decode cX10_saw 57 = .ok (.getfield 359, 3) := by decide +kernel
theorem dX10_saw_60 : decode cX10_saw 60 = .ok (.iload_n 1, 1) := by decide +kernel
theorem dX10_saw_61 : decode cX10_saw 61 = .ok (.dup2, 1) := by decide +kernel
theorem dX10_saw_62 : decode cX10_saw 62 = .ok (.iaload, 1) := by decide +kernel
theorem dX10_saw_63 : decode cX10_saw 63 = .ok (.iload_n 2, 1) := by decide +kernel
theorem dX10_saw_64 : decode cX10_saw 64 = .ok (.iadd, 1) := by decide +kernel
theorem dX10_saw_65 : decode cX10_saw 65 = .ok (.iastore, 1) := by decide +kernel
theorem dX10_saw_66 : decode cX10_saw 66 = .ok (.aload_n 0, 1) := by decide +kernel
theorem dX10_saw_67 : decode cX10_saw 67 = .ok (.getfield 63, 3) := by decide +kernel
theorem dX10_saw_70 : decode cX10_saw 70 = .ok (.getfield 180, 3) := by decide +kernel
theorem dX10_saw_73 : decode cX10_saw 73 = .ok (.ireturn, 1) := by decide +kernel
theorem dX10_heap_0 : decode cX10_heap 0 = .ok (.aload_n 0, 1) := by decide +kernel
theorem dX10_heap_1 : decode cX10_heap 1 = .ok (.getfield 46, 3) := by decide +kernel
theorem dX10_heap_4 : decode cX10_heap 4 = .ok (.iload_n 1, 1) := by decide +kernel
theorem dX10_heap_5 : decode cX10_heap 5 = .ok (.invokevirtual 152, 3) := by decide +kernel
theorem dX10_heap_8 : decode cX10_heap 8 = .ok (.ifCond .eq 22, 3) := by decide +kernel
theorem dX10_heap_11 : decode cX10_heap 11 = .ok (.iload_n 2, 1) := by decide +kernel
theorem dX10_heap_12 : decode cX10_heap 12 = .ok (.invokestatic 253, 3) := by decide +kernel
theorem dX10_heap_15 : decode cX10_heap 15 = .ok (.ifCond .eq 15, 3) := by decide +kernel
theorem dX10_heap_18 : decode cX10_heap 18 = .ok (.aload_n 0, 1) := by decide +kernel
theorem dX10_heap_19 : decode cX10_heap 19 = .ok (.getfield 46, 3) := by decide +kernel
theorem dX10_heap_22 : decode cX10_heap 22 = .ok (.iload_n 1, 1) := by decide +kernel
