theorem dX5_narrow_5 : decode cX5_narrow 5 = .ok (.invokestatic 28, 3) := by decide +kernel
theorem dX5_narrow_8 : decode cX5_narrow 8 = .ok (.iload_n 3, 1) := by decide +kernel
theorem dX5_narrow_9 : decode cX5_narrow 9 = .ok (.if_icmp .eq 8, 3) := by decide +kernel
theorem dX5_narrow_12 : decode cX5_narrow 12 = .ok (.aload_n 0, 1) := by decide +kernel
theorem dX5_narrow_13 : decode cX5_narrow 13 = .ok (.iconst (-1), 1) := by decide +kernel
theorem dX5_narrow_14 : decode cX5_narrow 14 = .ok (.putfield 25, 3) := by decide +kernel
theorem dX5_narrow_17 : decode cX5_narrow 17 = .ok (.return_, 1) := by decide +kernel
theorem dX5_narrow_18 : decode cX5_narrow 18 = .ok (.iload_n 1, 1) := by decide +kernel
theorem dX5_narrow_19 : decode cX5_narrow 19 = .ok (.ineg, 1) := by decide +kernel
theorem dX5_narrow_20 : decode cX5_narrow 20 = .ok (.iload_n 2, 1) := by decide +kernel
theorem dX5_narrow_21 : decode cX5_narrow 21 = .ok (.imul, 1) := by decide +kernel
theorem dX5_narrow_22 : decode cX5_narrow 22 = .ok (.istore 4, 2) := by decide +kernel
theorem dX5_narrow_24 : decode cX5_narrow 24 = .ok (.iload_n 3, 1) := by decide +kernel
theorem dX5_narrow_25 : decode cX5_narrow 25 = .ok (.ifCond .ne 32, 3) := by decide +kernel
theorem dX5_narrow_28 : decode cX5_narrow 28 = .ok (.aload_n 0, 1) := by decide +kernel
theorem dX5_narrow_29 : decode cX5_narrow 29 = .ok (.aload_n 0, 1) := by decide +kernel
theorem dX5_narrow_30 : decode cX5_narrow 30 = .ok (.getfield 22, 3) := by decide +kernel
theorem dX5_narrow_33 : decode cX5_narrow 33 = .ok (.iload 4, 2) := by decide +kernel
theorem dX5_narrow_35 : decode cX5_narrow 35 = .ok (.invokestatic 34, 3) := by decide +kernel
theorem dX5_narrow_38 : decode cX5_narrow 38 = .ok (.putfield 22, 3) := by decide +kernel
theorem dX5_narrow_41 : decode cX5_narrow 41 = .ok (.aload_n 0, 1) := by decide +kernel
theorem dX5_narrow_42 : decode cX5_narrow 42 = .ok (.aload_n 0, 1) := by decide +kernel
theorem dX5_narrow_43 : decode cX5_narrow 43 = .ok (.getfield 25, 3) := by decide +kernel
theorem dX5_narrow_46 : decode cX5_narrow 46 = .ok (.iload 4, 2) := by decide +kernel
theorem dX5_narrow_48 : decode cX5_narrow 48 = .ok (.invokestatic 40, 3) := by decide +kernel
theorem dX5_narrow_51 : decode cX5_narrow 51 = .ok (.putfield 25, 3) := by decide +kernel
theorem dX5_narrow_54 : decode cX5_narrow 54 = .ok (.goto 41, 3) := by decide +kernel
theorem dX5_narrow_57 : decode cX5_narrow 57 = .ok (.iload_n 3, 1) := by decide +kernel
theorem dX5_narrow_58 : decode cX5_narrow 58 = .ok (.iload_n 2, 1) := by decide +kernel
theorem dX5_narrow_59 : decode cX5_narrow 59 = .ok (.if_icmp .ne 21, 3) := by decide +kernel
theorem dX5_narrow_62 : decode cX5_narrow 62 = .ok (.aload_n 0, 1) := by decide +kernel
theorem dX5_narrow_63 : decode cX5_narrow 63 = .ok (.aload_n 0, 1) := by decide +kernel
theorem dX5_narrow_64 : decode cX5_narrow 64 = .ok (.getfield 22, 3) := by decide +kernel
theorem dX5_narrow_67 : decode cX5_narrow 67 = .ok (.iload 4, 2) := by decide +kernel
theorem dX5_narrow_69 : decode cX5_narrow 69 = .ok (.iconst 1, 1) := by decide +kernel
theorem dX5_narrow_70 : decode cX5_narrow 70 = .ok (.iadd, 1) := by decide +kernel
theorem dX5_narrow_71 : decode cX5_narrow 71 = .ok (.invokestatic 34, 3) := by decide +kernel
theorem dX5_narrow_74 : decode cX5_narrow 74 = .ok (.putfield 22, 3) := by decide +kernel
theorem dX5_narrow_77 : decode cX5_narrow 77 = .ok (.goto 18, 3) := by decide +kernel
theorem dX5_narrow_80 : decode cX5_narrow 80 = .ok (.aload_n 0, 1) := by decide +kernel
theorem dX5_narrow_81 : decode cX5_narrow 81 = .ok (.aload_n 0, 1) := by decide +kernel
theorem dX5_narrow_82 : decode cX5_narrow 82 = .ok (.getfield 25, 3) := by decide +kernel
theorem dX5_narrow_85 : decode cX5_narrow 85 = .ok (.iload 4, 2) := by decide +kernel
theorem dX5_narrow_87 : decode cX5_narrow 87 = .ok (.iconst 1, 1) := by decide +kernel
theorem dX5_narrow_88 : decode cX5_narrow 88 = .ok (.isub, 1) := by decide +kernel
theorem dX5_narrow_89 : decode cX5_narrow 89 = .ok (.invokestatic 40, 3) := by decide +kernel
theorem dX5_narrow_92 : decode cX5_narrow 92 = .ok (.putfield 25, 3) := by decide +kernel
theorem dX5_narrow_95 : decode cX5_narrow 95 = .ok (.return_, 1) := by decide +kernel
theorem dX5_rangeAnswer_0 : decode cX5_rangeAnswer 0 = .ok (.iload_n 1, 1) := by decide +kernel
theorem dX5_rangeAnswer_1 : decode cX5_rangeAnswer 1 = .ok (.ifCond .ne 19, 3) := by decide +kernel
theorem dX5_rangeAnswer_4 : decode cX5_rangeAnswer 4 = .ok (.iconst 0, 1) := by decide +kernel
theorem dX5_rangeAnswer_5 : decode cX5_rangeAnswer 5 = .ok (.aload_n 0, 1) := by decide +kernel
theorem dX5_rangeAnswer_6 : decode cX5_rangeAnswer 6 = .ok (.getfield 25, 3) := by decide +kernel
theorem dX5_rangeAnswer_9 : decode cX5_rangeAnswer 9 = .ok (.aload_n 0, 1) := by decide +kernel
theorem dX5_rangeAnswer_10 : decode cX5_rangeAnswer 10 = .ok (.getfield 22, 3) := by decide +kernel
theorem dX5_rangeAnswer_13 : decode cX5_rangeAnswer 13 = .ok (.isub, 1) := by decide +kernel
theorem dX5_rangeAnswer_14 : decode cX5_rangeAnswer 14 = .ok (.iconst 1, 1) := by decide +kernel
theorem dX5_rangeAnswer_15 : decode cX5_rangeAnswer 15 = .ok (.iadd, 1) := by decide +kernel
theorem dX5_rangeAnswer_16 : decode cX5_rangeAnswer 16 = .ok (.invokestatic 34, 3) := by decide +kernel
theorem dX5_rangeAnswer_19 : decode cX5_rangeAnswer 19 = .ok (.ireturn, 1) := by decide +kernel
theorem dX5_rangeAnswer_20 : decode cX5_rangeAnswer 20 = .ok (.aload_n 0, 1) := by decide +kernel
theorem dX5_rangeAnswer_21 : decode cX5_rangeAnswer 21 = .ok (.getfield 25, 3) := by decide +kernel
theorem dX5_rangeAnswer_24 : decode cX5_rangeAnswer 24 = .ok (.aload_n 0, 1) := by decide +kernel
theorem dX5_rangeAnswer_25 : decode cX5_rangeAnswer 25 = .ok (.getfield 22, 3) := by decide +kernel
theorem dX5_rangeAnswer_28 : decode cX5_rangeAnswer 28 = .ok (.if_icmp .ge 5, 3) := by decide +kernel
theorem dX5_rangeAnswer_31 : decode cX5_rangeAnswer 31 = .ok (.iconst (-1), 1) := by decide +kernel
theorem dX5_rangeAnswer_32 : decode cX5_rangeAnswer 32 = .ok (.ireturn, 1) := by decide +kernel
theorem dX5_rangeAnswer_33 : decode cX5_rangeAnswer 33 = .ok (.iload_n 1, 1) := by decide +kernel
theorem dX5_rangeAnswer_34 : decode cX5_rangeAnswer 34 = .ok (.iconst 1, 1) := by decide +kernel
theorem dX5_rangeAnswer_35 : decode cX5_rangeAnswer 35 = .ok (.if_icmp .ne 10, 3) := by decide +kernel
theorem dX5_rangeAnswer_38 : decode cX5_rangeAnswer 38 = .ok (.aload_n 0, 1) := by decide +kernel
theorem dX5_rangeAnswer_39 : decode cX5_rangeAnswer 39 = .ok (.getfield 22, 3) := by decide +kernel
theorem dX5_rangeAnswer_42 : decode cX5_rangeAnswer 42 = .ok (.goto 7, 3) := by decide +kernel
theorem dX5_rangeAnswer_45 : decode cX5_rangeAnswer 45 = .ok (.aload_n 0, 1) := by decide +kernel
theorem dX5_rangeAnswer_46 : decode cX5_rangeAnswer 46 = .ok (.getfield 25, 3) := by decide +kernel
theorem dX5_rangeAnswer_49 : decode cX5_rangeAnswer 49 = .ok (.ireturn, 1) := by decide +kernel
theorem dX6_init_0 : decode cX6_init 0 = .ok (.aload_n 0, 1) := by decide +kernel
theorem dX6_init_1 : decode cX6_init 1 = .ok (.invokespecial 3, 3) := by decide +kernel
theorem dX6_init_4 : decode cX6_init 4 = .ok (.aload_n 0, 1) := by decide +kernel
theorem dX6_init_5 : decode cX6_init 5 = .ok (.bipush 24, 2) := by decide +kernel
theorem dX6_init_7 : decode cX6_init 7 = .ok (.newarray .int, 2) := by decide +kernel
theorem dX6_init_9 : decode cX6_init 9 = .ok (.putfield 9, 3) := by decide +kernel
theorem dX6_init_12 : decode cX6_init 12 = .ok (.aload_n 0, 1) := by decide +kernel
theorem dX6_init_13 : decode cX6_init 13 = .ok (.iconst 0, 1) := by decide +kernel
theorem dX6_init_14 : decode cX6_init 14 = .ok (.putfield 15, 3) := by decide +kernel
theorem dX6_init_17 : decode cX6_init 17 = .ok (.aload_n 0, 1) := by decide +kernel
theorem dX6_init_18 : decode cX6_init 18 = .ok (.iconst 0, 1) := by decide +kernel
theorem dX6_init_19 : decode cX6_init 19 = .ok (.putfield 19, 3) := by decide +kernel
theorem dX6_init_22 : decode cX6_init 22 = .ok (.return_, 1) := by decide +kernel
theorem dX6_lay_0 : decode cX6_lay 0 = .ok (.aload_n 0, 1) := by decide +kernel
theorem dX6_lay_1 : decode cX6_lay 1 = .ok (.iconst 0, 1) := by decide +kernel
theorem dX6_lay_2 : decode cX6_lay 2 = .ok (.aload_n 1, 1) := by decide +kernel
theorem dX6_lay_3 : decode cX6_lay 3 = .ok (.getfield 22, 3) := by decide +kernel
theorem dX6_lay_6 : decode cX6_lay 6 = .ok (.aload_n 0, 1) := by decide +kernel
theorem dX6_lay_7 : decode cX6_lay 7 = .ok (.getfield 9, 3) := by decide +kernel
theorem dX6_lay_10 : decode cX6_lay 10 = .ok (.arraylength, 1) := by decide +kernel
theorem dX6_lay_11 : decode cX6_lay 11 = .ok (.invokestatic 25, 3) := by decide +kernel
theorem dX6_lay_14 : decode cX6_lay 14 = .ok (.invokestatic 31, 3) := by decide +kernel
theorem dX6_lay_17 : decode cX6_lay 17 = .ok (.putfield 15, 3) := by decide +kernel
theorem dX6_lay_20 : decode cX6_lay 20 = .ok (.aload_n 0, 1) := by decide +kernel
theorem dX6_lay_21 : decode cX6_lay 21 = .ok (.aload_n 1, 1) := by decide +kernel
theorem dX6_lay_22 : decode cX6_lay 22 = .ok (.invokevirtual 34, 3) := by decide +kernel
theorem dX6_lay_25 : decode cX6_lay 25 = .ok (.putfield 19, 3) := by decide +kernel
theorem dX6_lay_28 : decode cX6_lay 28 = .ok (.iconst 0, 1) := by decide +kernel
theorem dX6_lay_29 : decode cX6_lay 29 = .ok (.istore 4, 2) := by decide +kernel
theorem dX6_lay_31 : decode cX6_lay 31 = .ok (.iload 4, 2) := by decide +kernel
theorem dX6_lay_33 : decode cX6_lay 33 = .ok (.aload_n 0, 1) := by decide +kernel
theorem dX6_lay_34 : decode cX6_lay 34 = .ok (.getfield 15, 3) := by decide +kernel
theorem dX6_lay_37 : decode cX6_lay 37 = .ok (.if_icmp .ge 24, 3) := by decide +kernel
theorem dX6_lay_40 : decode cX6_lay 40 = .ok (.aload_n 0, 1) := by decide +kernel
theorem dX6_lay_41 : decode cX6_lay 41 = .ok (.getfield 9, 3) := by decide +kernel
theorem dX6_lay_44 : decode cX6_lay 44 = .ok (.iload 4, 2) := by decide +kernel
theorem dX6_lay_46 : decode cX6_lay 46 = .ok (.aload_n 1, 1) := by decide +kernel
theorem dX6_lay_47 : decode cX6_lay 47 = .ok (.aload_n 2, 1) := by decide +kernel
theorem dX6_lay_48 : decode cX6_lay 48 = .ok (.iload_n 3, 1) := by decide +kernel
theorem dX6_lay_49 : decode cX6_lay 49 = .ok (.iload 4, 2) := by decide +kernel
theorem dX6_lay_51 : decode cX6_lay 51 = .ok (.invokevirtual 37, 3) := by decide +kernel
theorem dX6_lay_54 : decode cX6_lay 54 = .ok (.iastore, 1) := by decide +kernel
theorem dX6_lay_55 : decode cX6_lay 55 = .ok (.iinc 4 1, 3) := by decide +kernel
theorem dX6_lay_58 : decode cX6_lay 58 = .ok (.goto (-27), 3) := by decide +kernel
theorem dX6_lay_61 : decode cX6_lay 61 = .ok (.return_, 1) := by decide +kernel
theorem dX6_gapAt_0 : decode cX6_gapAt 0 = .ok (.iload_n 1, 1) := by decide +kernel
theorem dX6_gapAt_1 : decode cX6_gapAt 1 = .ok (.aload_n 0, 1) := by decide +kernel
theorem dX6_gapAt_2 : decode cX6_gapAt 2 = .ok (.getfield 15, 3) := by decide +kernel
theorem dX6_gapAt_5 : decode cX6_gapAt 5 = .ok (.if_icmp .lt 12, 3) := by decide +kernel
theorem dX6_gapAt_8 : decode cX6_gapAt 8 = .ok (.iload_n 1, 1) := by decide +kernel
theorem dX6_gapAt_9 : decode cX6_gapAt 9 = .ok (.aload_n 0, 1) := by decide +kernel
theorem dX6_gapAt_10 : decode cX6_gapAt 10 = .ok (.getfield 15, 3) := by decide +kernel
theorem dX6_gapAt_13 : decode cX6_gapAt 13 = .ok (.isub, 1) := by decide +kernel
theorem dX6_gapAt_14 : decode cX6_gapAt 14 = .ok (.goto 4, 3) := by decide +kernel
theorem dX6_gapAt_17 : decode cX6_gapAt 17 = .ok (.iload_n 1, 1) := by decide +kernel
theorem dX6_gapAt_18 : decode cX6_gapAt 18 = .ok (.istore_n 2, 1) := by decide +kernel
theorem dX6_gapAt_19 : decode cX6_gapAt 19 = .ok (.iload_n 2, 1) := by decide +kernel
theorem dX6_gapAt_20 : decode cX6_gapAt 20 = .ok (.ifCond .lt 34, 3) := by decide +kernel
theorem dX6_gapAt_23 : decode cX6_gapAt 23 = .ok (.iload_n 2, 1) := by decide +kernel
theorem dX6_gapAt_24 : decode cX6_gapAt 24 = .ok (.aload_n 0, 1) := by decide +kernel
theorem dX6_gapAt_25 : decode cX6_gapAt 25 = .ok (.getfield 15, 3) := by decide +kernel
theorem dX6_gapAt_28 : decode cX6_gapAt 28 = .ok (.if_icmp .ge 26, 3) := by decide +kernel
theorem dX6_gapAt_31 : decode cX6_gapAt 31 = .ok (.iload_n 2, 1) := by decide +kernel
theorem dX6_gapAt_32 : decode cX6_gapAt 32 = .ok (.aload_n 0, 1) := by decide +kernel
theorem dX6_gapAt_33 : decode cX6_gapAt 33 = .ok (.getfield 9, 3) := by decide +kernel
theorem dX6_gapAt_36 : decode cX6_gapAt 36 = .ok (.arraylength, 1) := by decide +kernel
theorem dX6_gapAt_37 : decode cX6_gapAt 37 = .ok (.if_icmp .ge 17, 3) := by decide +kernel
theorem dX6_gapAt_40 : decode cX6_gapAt 40 = .ok (.aload_n 0, 1) := by decide +kernel
theorem dX6_gapAt_41 : decode cX6_gapAt 41 = .ok (.getfield 9, 3) := by decide +kernel
theorem dX6_gapAt_44 : decode cX6_gapAt 44 = .ok (.iload_n 2, 1) := by decide +kernel
theorem dX6_gapAt_45 : decode cX6_gapAt 45 = .ok (.iaload, 1) := by decide +kernel
theorem dX6_gapAt_46 : decode cX6_gapAt 46 = .ok (.aload_n 0, 1) := by decide +kernel
theorem dX6_gapAt_47 : decode cX6_gapAt 47 = .ok (.getfield 19, 3) := by decide +kernel
theorem dX6_gapAt_50 : decode cX6_gapAt 50 = .ok (.isub, 1) := by decide +kernel
theorem dX6_gapAt_51 : decode cX6_gapAt 51 = .ok (.goto 4, 3) := by decide +kernel
theorem dX6_gapAt_54 : decode cX6_gapAt 54 = .ok (.iconst 0, 1) := by decide +kernel
theorem dX6_gapAt_55 : decode cX6_gapAt 55 = .ok (.ireturn, 1) := by decide +kernel
theorem dX6_standsFrom_0 : decode cX6_standsFrom 0 = .ok (.aload_n 0, 1) := by decide +kernel
theorem dX6_standsFrom_1 : decode cX6_standsFrom 1 = .ok (.iload_n 1, 1) := by decide +kernel
theorem dX6_standsFrom_2 : decode cX6_standsFrom 2 = .ok (.invokevirtual 41, 3) := by decide +kernel
theorem dX6_standsFrom_5 : decode cX6_standsFrom 5 = .ok (.istore_n 2, 1) := by decide +kernel
theorem dX6_standsFrom_6 : decode cX6_standsFrom 6 = .ok (.aload_n 0, 1) := by decide +kernel
theorem dX6_standsFrom_7 : decode cX6_standsFrom 7 = .ok (.iload_n 1, 1) := by decide +kernel
theorem dX6_standsFrom_8 : decode cX6_standsFrom 8 = .ok (.iconst 1, 1) := by decide +kernel
theorem dX6_standsFrom_9 : decode cX6_standsFrom 9 = .ok (.iadd, 1) := by decide +kernel
theorem dX6_standsFrom_10 : decode cX6_standsFrom 10 = .ok (.invokevirtual 41, 3) := by decide +kernel
theorem dX6_standsFrom_13 : decode cX6_standsFrom 13 = .ok (.istore_n 3, 1) := by decide +kernel
theorem dX6_standsFrom_14 : decode cX6_standsFrom 14 = .ok (.iload_n 2, 1) := by decide +kernel
theorem dX6_standsFrom_15 : decode cX6_standsFrom 15 = .ok (.ifCond .eq 19, 3) := by decide +kernel
theorem dX6_standsFrom_18 : decode cX6_standsFrom 18 = .ok (.iload_n 2, 1) := by decide +kernel
theorem dX6_standsFrom_19 : decode cX6_standsFrom 19 = .ok (.ifCond .le 7, 3) := by decide +kernel
theorem dX6_standsFrom_22 : decode cX6_standsFrom 22 = .ok (.iload_n 3, 1) := by decide +kernel
theorem dX6_standsFrom_23 : decode cX6_standsFrom 23 = .ok (.ifCond .lt 11, 3) := by decide +kernel
theorem dX6_standsFrom_26 : decode cX6_standsFrom 26 = .ok (.iload_n 2, 1) := by decide +kernel
theorem dX6_standsFrom_27 : decode cX6_standsFrom 27 = .ok (.ifCond .ge 11, 3) := by decide +kernel
theorem dX6_standsFrom_30 : decode cX6_standsFrom 30 = .ok (.iload_n 3, 1) := by decide +kernel
theorem dX6_standsFrom_31 : decode cX6_standsFrom 31 = .ok (.ifCond .le 7, 3) := by decide +kernel
theorem dX6_standsFrom_34 : decode cX6_standsFrom 34 = .ok (.iconst 1, 1) := by decide +kernel
theorem dX6_standsFrom_35 : decode cX6_standsFrom 35 = .ok (.goto 4, 3) := by decide +kernel
theorem dX6_standsFrom_38 : decode cX6_standsFrom 38 = .ok (.iconst 0, 1) := by decide +kernel
theorem dX6_standsFrom_39 : decode cX6_standsFrom 39 = .ok (.ireturn, 1) := by decide +kernel
theorem dX6_standCount_0 : decode cX6_standCount 0 = .ok (.iconst 0, 1) := by decide +kernel
theorem dX6_standCount_1 : decode cX6_standCount 1 = .ok (.istore_n 1, 1) := by decide +kernel
theorem dX6_standCount_2 : decode cX6_standCount 2 = .ok (.iconst 0, 1) := by decide +kernel
theorem dX6_standCount_3 : decode cX6_standCount 3 = .ok (.istore_n 2, 1) := by decide +kernel
theorem dX6_standCount_4 : decode cX6_standCount 4 = .ok (.iload_n 2, 1) := by decide +kernel
theorem dX6_standCount_5 : decode cX6_standCount 5 = .ok (.aload_n 0, 1) := by decide +kernel
theorem dX6_standCount_6 : decode cX6_standCount 6 = .ok (.getfield 15, 3) := by decide +kernel
theorem dX6_standCount_9 : decode cX6_standCount 9 = .ok (.if_icmp .ge 20, 3) := by decide +kernel
theorem dX6_standCount_12 : decode cX6_standCount 12 = .ok (.aload_n 0, 1) := by decide +kernel
theorem dX6_standCount_13 : decode cX6_standCount 13 = .ok (.iload_n 2, 1) := by decide +kernel
theorem dX6_standCount_14 : decode cX6_standCount 14 = .ok (.invokevirtual 45, 3) := by decide +kernel
theorem dX6_standCount_17 : decode cX6_standCount 17 = .ok (.ifCond .eq 6, 3) := by decide +kernel
theorem dX6_standCount_20 : decode cX6_standCount 20 = .ok (.iinc 1 1, 3) := by decide +kernel
theorem dX6_standCount_23 : decode cX6_standCount 23 = .ok (.iinc 2 1, 3) := by decide +kernel
theorem dX6_standCount_26 : decode cX6_standCount 26 = .ok (.goto (-22), 3) := by decide +kernel
theorem dX6_standCount_29 : decode cX6_standCount 29 = .ok (.iload_n 1, 1) := by decide +kernel
theorem dX6_standCount_30 : decode cX6_standCount 30 = .ok (.ireturn, 1) := by decide +kernel
theorem dX6_standAt_0 : decode cX6_standAt 0 = .ok (.iconst 0, 1) := by decide +kernel
theorem dX6_standAt_1 : decode cX6_standAt 1 = .ok (.istore_n 2, 1) := by decide +kernel
theorem dX6_standAt_2 : decode cX6_standAt 2 = .ok (.iconst 0, 1) := by decide +kernel
theorem dX6_standAt_3 : decode cX6_standAt 3 = .ok (.istore_n 3, 1) := by decide +kernel
theorem dX6_standAt_4 : decode cX6_standAt 4 = .ok (.iload_n 3, 1) := by decide +kernel
theorem dX6_standAt_5 : decode cX6_standAt 5 = .ok (.aload_n 0, 1) := by decide +kernel
theorem dX6_standAt_6 : decode cX6_standAt 6 = .ok (.getfield 15, 3) := by decide +kernel
theorem dX6_standAt_9 : decode cX6_standAt 9 = .ok (.if_icmp .ge 27, 3) := by decide +kernel
theorem dX6_standAt_12 : decode cX6_standAt 12 = .ok (.aload_n 0, 1) := by decide +kernel
theorem dX6_standAt_13 : decode cX6_standAt 13 = .ok (.iload_n 3, 1) := by decide +kernel
theorem dX6_standAt_14 : decode cX6_standAt 14 = .ok (.invokevirtual 45, 3) := by decide +kernel
theorem dX6_standAt_17 : decode cX6_standAt 17 = .ok (.ifCond .eq 13, 3) := by decide +kernel
theorem dX6_standAt_20 : decode cX6_standAt 20 = .ok (.iload_n 2, 1) := by decide +kernel
theorem dX6_standAt_21 : decode cX6_standAt 21 = .ok (.iload_n 1, 1) := by decide +kernel
theorem dX6_standAt_22 : decode cX6_standAt 22 = .ok (.if_icmp .ne 5, 3) := by decide +kernel
theorem dX6_standAt_25 : decode cX6_standAt 25 = .ok (.iload_n 3, 1) := by decide +kernel
theorem dX6_standAt_26 : decode cX6_standAt 26 = .ok (.ireturn, 1) := by decide +kernel
theorem dX6_standAt_27 : decode cX6_standAt 27 = .ok (.iinc 2 1, 3) := by decide +kernel
theorem dX6_standAt_30 : decode cX6_standAt 30 = .ok (.iinc 3 1, 3) := by decide +kernel
theorem dX6_standAt_33 : decode cX6_standAt 33 = .ok (.goto (-29), 3) := by decide +kernel
theorem dX6_standAt_36 : decode cX6_standAt 36 = .ok (.iconst (-1), 1) := by decide +kernel
theorem dX6_standAt_37 : decode cX6_standAt 37 = .ok (.ireturn, 1) := by decide +kernel
theorem dX6_firstWithin_0 : decode cX6_firstWithin 0 = .ok (.iconst 0, 1) := by decide +kernel
theorem dX6_firstWithin_1 : decode cX6_firstWithin 1 = .ok (.istore_n 3, 1) := by decide +kernel
theorem dX6_firstWithin_2 : decode cX6_firstWithin 2 = .ok (.iload_n 3, 1) := by decide +kernel
theorem dX6_firstWithin_3 : decode cX6_firstWithin 3 = .ok (.iload_n 2, 1) := by decide +kernel
theorem dX6_firstWithin_4 : decode cX6_firstWithin 4 = .ok (.if_icmp .gt 73, 3) := by decide +kernel
theorem dX6_firstWithin_7 : decode cX6_firstWithin 7 = .ok (.iload_n 3, 1) := by decide +kernel
theorem dX6_firstWithin_8 : decode cX6_firstWithin 8 = .ok (.aload_n 0, 1) := by decide +kernel
theorem dX6_firstWithin_9 : decode cX6_firstWithin 9 = .ok (.getfield 15, 3) := by decide +kernel
theorem dX6_firstWithin_12 : decode cX6_firstWithin 12 = .ok (.if_icmp .ge 65, 3) := by decide +kernel
theorem dX6_firstWithin_15 : decode cX6_firstWithin 15 = .ok (.iload_n 1, 1) := by decide +kernel
theorem dX6_firstWithin_16 : decode cX6_firstWithin 16 = .ok (.iload_n 3, 1) := by decide +kernel
theorem dX6_firstWithin_17 : decode cX6_firstWithin 17 = .ok (.iadd, 1) := by decide +kernel
theorem dX6_firstWithin_18 : decode cX6_firstWithin 18 = .ok (.aload_n 0, 1) := by decide +kernel
theorem dX6_firstWithin_19 : decode cX6_firstWithin 19 = .ok (.getfield 15, 3) := by decide +kernel
theorem dX6_firstWithin_22 : decode cX6_firstWithin 22 = .ok (.if_icmp .lt 14, 3) := by decide +kernel
theorem dX6_firstWithin_25 : decode cX6_firstWithin 25 = .ok (.iload_n 1, 1) := by decide +kernel
theorem dX6_firstWithin_26 : decode cX6_firstWithin 26 = .ok (.iload_n 3, 1) := by decide +kernel
theorem dX6_firstWithin_27 : decode cX6_firstWithin 27 = .ok (.iadd, 1) := by decide +kernel
theorem dX6_firstWithin_28 : decode cX6_firstWithin 28 = .ok (.aload_n 0, 1) := by decide +kernel
theorem dX6_firstWithin_29 : decode cX6_firstWithin 29 = .ok (.getfield 15, 3) := by decide +kernel
theorem dX6_firstWithin_32 : decode cX6_firstWithin 32 = .ok (.isub, 1) := by decide +kernel
theorem dX6_firstWithin_33 : decode cX6_firstWithin 33 = .ok (.goto 6, 3) := by decide +kernel
theorem dX6_firstWithin_36 : decode cX6_firstWithin 36 = .ok (.iload_n 1, 1) := by decide +kernel
theorem dX6_firstWithin_37 : decode cX6_firstWithin 37 = .ok (.iload_n 3, 1) := by decide +kernel
theorem dX6_firstWithin_38 : decode cX6_firstWithin 38 = .ok (.iadd, 1) := by decide +kernel
theorem dX6_firstWithin_39 : decode cX6_firstWithin 39 = .ok (.istore 4, 2) := by decide +kernel
theorem dX6_firstWithin_41 : decode cX6_firstWithin 41 = .ok (.aload_n 0, 1) := by decide +kernel
theorem dX6_firstWithin_42 : decode cX6_firstWithin 42 = .ok (.iload 4, 2) := by decide +kernel
theorem dX6_firstWithin_44 : decode cX6_firstWithin 44 = .ok (.invokevirtual 45, 3) := by decide +kernel
theorem dX6_firstWithin_47 : decode cX6_firstWithin 47 = .ok (.ifCond .eq 24, 3) := by decide +kernel
theorem dX6_firstWithin_50 : decode cX6_firstWithin 50 = .ok (.aload_n 0, 1) := by decide +kernel
theorem dX6_firstWithin_51 : decode cX6_firstWithin 51 = .ok (.iload 4, 2) := by decide +kernel
theorem dX6_firstWithin_53 : decode cX6_firstWithin 53 = .ok (.invokevirtual 41, 3) := by decide +kernel
theorem dX6_firstWithin_56 : decode cX6_firstWithin 56 = .ok (.ifCond .eq 8, 3) := by decide +kernel
theorem dX6_firstWithin_59 : decode cX6_firstWithin 59 = .ok (.iload_n 3, 1) := by decide +kernel
theorem dX6_firstWithin_60 : decode cX6_firstWithin 60 = .ok (.iload_n 2, 1) := by decide +kernel
theorem dX6_firstWithin_61 : decode cX6_firstWithin 61 = .ok (.if_icmp .ge 8, 3) := by decide +kernel
theorem dX6_firstWithin_64 : decode cX6_firstWithin 64 = .ok (.iload 4, 2) := by decide +kernel
theorem dX6_firstWithin_66 : decode cX6_firstWithin 66 = .ok (.goto 4, 3) := by decide +kernel
theorem dX6_firstWithin_69 : decode cX6_firstWithin 69 = .ok (.iconst (-1), 1) := by decide +kernel
theorem dX6_firstWithin_70 : decode cX6_firstWithin 70 = .ok (.ireturn, 1) := by decide +kernel
theorem dX6_firstWithin_71 : decode cX6_firstWithin 71 = .ok (.iinc 3 1, 3) := by decide +kernel
theorem dX6_firstWithin_74 : decode cX6_firstWithin 74 = .ok (.goto (-72), 3) := by decide +kernel
theorem dX6_firstWithin_77 : decode cX6_firstWithin 77 = .ok (.iconst (-1), 1) := by decide +kernel
theorem dX6_firstWithin_78 : decode cX6_firstWithin 78 = .ok (.ireturn, 1) := by decide +kernel
theorem dX6_place_0 : decode cX6_place 0 = .ok (.aload_n 0, 1) := by decide +kernel
theorem dX6_place_1 : decode cX6_place 1 = .ok (.iload_n 1, 1) := by decide +kernel
theorem dX6_place_2 : decode cX6_place 2 = .ok (.invokevirtual 41, 3) := by decide +kernel
theorem dX6_place_5 : decode cX6_place 5 = .ok (.invokestatic 49, 3) := by decide +kernel
theorem dX6_place_8 : decode cX6_place 8 = .ok (.istore_n 3, 1) := by decide +kernel
theorem dX6_place_9 : decode cX6_place 9 = .ok (.iload_n 2, 1) := by decide +kernel
theorem dX6_place_10 : decode cX6_place 10 = .ok (.ifCond .ne 5, 3) := by decide +kernel
theorem dX6_place_13 : decode cX6_place 13 = .ok (.iload_n 1, 1) := by decide +kernel
theorem dX6_place_14 : decode cX6_place 14 = .ok (.ireturn, 1) := by decide +kernel
theorem dX6_place_15 : decode cX6_place 15 = .ok (.iload_n 3, 1) := by decide +kernel
theorem dX6_place_16 : decode cX6_place 16 = .ok (.ifCond .ne 14, 3) := by decide +kernel
theorem dX6_place_19 : decode cX6_place 19 = .ok (.iload_n 2, 1) := by decide +kernel
theorem dX6_place_20 : decode cX6_place 20 = .ok (.iconst 1, 1) := by decide +kernel
theorem dX6_place_21 : decode cX6_place 21 = .ok (.if_icmp .ne 7, 3) := by decide +kernel
theorem dX6_place_24 : decode cX6_place 24 = .ok (.iconst 0, 1) := by decide +kernel
theorem dX6_place_25 : decode cX6_place 25 = .ok (.goto 4, 3) := by decide +kernel
theorem dX6_place_28 : decode cX6_place 28 = .ok (.iconst 1, 1) := by decide +kernel
theorem dX6_place_29 : decode cX6_place 29 = .ok (.ireturn, 1) := by decide +kernel
theorem dX6_place_30 : decode cX6_place 30 = .ok (.iload_n 3, 1) := by decide +kernel
theorem dX6_place_31 : decode cX6_place 31 = .ok (.aload_n 0, 1) := by decide +kernel
theorem dX6_place_32 : decode cX6_place 32 = .ok (.iload_n 1, 1) := by decide +kernel
theorem dX6_place_33 : decode cX6_place 33 = .ok (.iconst 1, 1) := by decide +kernel
theorem dX6_place_34 : decode cX6_place 34 = .ok (.iadd, 1) := by decide +kernel
theorem dX6_place_35 : decode cX6_place 35 = .ok (.invokevirtual 41, 3) := by decide +kernel
theorem dX6_place_38 : decode cX6_place 38 = .ok (.invokestatic 49, 3) := by decide +kernel
theorem dX6_place_41 : decode cX6_place 41 = .ok (.iadd, 1) := by decide +kernel
theorem dX6_place_42 : decode cX6_place 42 = .ok (.istore 4, 2) := by decide +kernel
theorem dX6_place_44 : decode cX6_place 44 = .ok (.iload_n 3, 1) := by decide +kernel
theorem dX6_place_45 : decode cX6_place 45 = .ok (.iload 4, 2) := by decide +kernel
theorem dX6_place_47 : decode cX6_place 47 = .ok (.invokestatic 52, 3) := by decide +kernel
theorem dX6_place_50 : decode cX6_place 50 = .ok (.istore 5, 2) := by decide +kernel
theorem dX6_place_52 : decode cX6_place 52 = .ok (.iload 5, 2) := by decide +kernel
theorem dX6_place_54 : decode cX6_place 54 = .ok (.ifCond .ne 7, 3) := by decide +kernel
theorem dX6_place_57 : decode cX6_place 57 = .ok (.iconst (-1), 1) := by decide +kernel
theorem dX6_place_58 : decode cX6_place 58 = .ok (.goto 17, 3) := by decide +kernel
theorem dX6_place_61 : decode cX6_place 61 = .ok (.iload_n 2, 1) := by decide +kernel
theorem dX6_place_62 : decode cX6_place 62 = .ok (.iconst 1, 1) := by decide +kernel
theorem dX6_place_63 : decode cX6_place 63 = .ok (.if_icmp .ne 7, 3) := by decide +kernel
theorem dX6_place_66 : decode cX6_place 66 = .ok (.iload_n 3, 1) := by decide +kernel
theorem dX6_place_67 : decode cX6_place 67 = .ok (.goto 5, 3) := by decide +kernel
theorem dX6_place_70 : decode cX6_place 70 = .ok (.iload 4, 2) := by decide +kernel
theorem dX6_place_72 : decode cX6_place 72 = .ok (.iload 5, 2) := by decide +kernel
theorem dX6_place_74 : decode cX6_place 74 = .ok (.idiv, 1) := by decide +kernel
theorem dX6_place_75 : decode cX6_place 75 = .ok (.ireturn, 1) := by decide +kernel
theorem dX6_turningsWith_0 : decode cX6_turningsWith 0 = .ok (.iconst 0, 1) := by decide +kernel
theorem dX6_turningsWith_1 : decode cX6_turningsWith 1 = .ok (.istore_n 2, 1) := by decide +kernel
theorem dX6_turningsWith_2 : decode cX6_turningsWith 2 = .ok (.iconst 0, 1) := by decide +kernel
theorem dX6_turningsWith_3 : decode cX6_turningsWith 3 = .ok (.istore_n 3, 1) := by decide +kernel
theorem dX6_turningsWith_4 : decode cX6_turningsWith 4 = .ok (.iload_n 3, 1) := by decide +kernel
theorem dX6_turningsWith_5 : decode cX6_turningsWith 5 = .ok (.aload_n 0, 1) := by decide +kernel
theorem dX6_turningsWith_6 : decode cX6_turningsWith 6 = .ok (.getfield 15, 3) := by decide +kernel
theorem dX6_turningsWith_9 : decode cX6_turningsWith 9 = .ok (.if_icmp .ge 21, 3) := by decide +kernel
theorem dX6_turningsWith_12 : decode cX6_turningsWith 12 = .ok (.aload_n 0, 1) := by decide +kernel
theorem dX6_turningsWith_13 : decode cX6_turningsWith 13 = .ok (.iload_n 3, 1) := by decide +kernel
theorem dX6_turningsWith_14 : decode cX6_turningsWith 14 = .ok (.invokevirtual 41, 3) := by decide +kernel
theorem dX6_turningsWith_17 : decode cX6_turningsWith 17 = .ok (.iload_n 1, 1) := by decide +kernel
theorem dX6_turningsWith_18 : decode cX6_turningsWith 18 = .ok (.if_icmp .ne 6, 3) := by decide +kernel
theorem dX6_turningsWith_21 : decode cX6_turningsWith 21 = .ok (.iinc 2 1, 3) := by decide +kernel
theorem dX6_turningsWith_24 : decode cX6_turningsWith 24 = .ok (.iinc 3 1, 3) := by decide +kernel
theorem dX6_turningsWith_27 : decode cX6_turningsWith 27 = .ok (.goto (-23), 3) := by decide +kernel
theorem dX6_turningsWith_30 : decode cX6_turningsWith 30 = .ok (.iload_n 2, 1) := by decide +kernel
theorem dX6_turningsWith_31 : decode cX6_turningsWith 31 = .ok (.ireturn, 1) := by decide +kernel
theorem dX6_longestRun_0 : decode cX6_longestRun 0 = .ok (.iconst 0, 1) := by decide +kernel
theorem dX6_longestRun_1 : decode cX6_longestRun 1 = .ok (.istore_n 2, 1) := by decide +kernel
theorem dX6_longestRun_2 : decode cX6_longestRun 2 = .ok (.iconst 0, 1) := by decide +kernel
theorem dX6_longestRun_3 : decode cX6_longestRun 3 = .ok (.istore_n 3, 1) := by decide +kernel
theorem dX6_longestRun_4 : decode cX6_longestRun 4 = .ok (.iconst 0, 1) := by decide +kernel
theorem dX6_longestRun_5 : decode cX6_longestRun 5 = .ok (.istore 4, 2) := by decide +kernel
theorem dX6_longestRun_7 : decode cX6_longestRun 7 = .ok (.iload 4, 2) := by decide +kernel
theorem dX6_longestRun_9 : decode cX6_longestRun 9 = .ok (.iconst 2, 1) := by decide +kernel
theorem dX6_longestRun_10 : decode cX6_longestRun 10 = .ok (.aload_n 0, 1) := by decide +kernel
theorem dX6_longestRun_11 : decode cX6_longestRun 11 = .ok (.getfield 15, 3) := by decide +kernel
theorem dX6_longestRun_14 : decode cX6_longestRun 14 = .ok (.imul, 1) := by decide +kernel
theorem dX6_longestRun_15 : decode cX6_longestRun 15 = .ok (.if_icmp .ge 36, 3) := by decide +kernel
theorem dX6_longestRun_18 : decode cX6_longestRun 18 = .ok (.aload_n 0, 1) := by decide +kernel
theorem dX6_longestRun_19 : decode cX6_longestRun 19 = .ok (.iload 4, 2) := by decide +kernel
theorem dX6_longestRun_21 : decode cX6_longestRun 21 = .ok (.invokevirtual 41, 3) := by decide +kernel
theorem dX6_longestRun_24 : decode cX6_longestRun 24 = .ok (.invokestatic 55, 3) := by decide +kernel
theorem dX6_longestRun_27 : decode cX6_longestRun 27 = .ok (.iload_n 1, 1) := by decide +kernel
theorem dX6_longestRun_28 : decode cX6_longestRun 28 = .ok (.if_icmp .ne 9, 3) := by decide +kernel
theorem dX6_longestRun_31 : decode cX6_longestRun 31 = .ok (.iload_n 2, 1) := by decide +kernel
theorem dX6_longestRun_32 : decode cX6_longestRun 32 = .ok (.iconst 1, 1) := by decide +kernel
theorem dX6_longestRun_33 : decode cX6_longestRun 33 = .ok (.iadd, 1) := by decide +kernel
theorem dX6_longestRun_34 : decode cX6_longestRun 34 = .ok (.goto 4, 3) := by decide +kernel
theorem dX6_longestRun_37 : decode cX6_longestRun 37 = .ok (.iconst 0, 1) := by decide +kernel
theorem dX6_longestRun_38 : decode cX6_longestRun 38 = .ok (.istore_n 2, 1) := by decide +kernel
theorem dX6_longestRun_39 : decode cX6_longestRun 39 = .ok (.iload_n 3, 1) := by decide +kernel
theorem dX6_longestRun_40 : decode cX6_longestRun 40 = .ok (.iload_n 2, 1) := by decide +kernel
theorem dX6_longestRun_41 : decode cX6_longestRun 41 = .ok (.invokestatic 31, 3) := by decide +kernel
theorem dX6_longestRun_44 : decode cX6_longestRun 44 = .ok (.istore_n 3, 1) := by decide +kernel
theorem dX6_longestRun_45 : decode cX6_longestRun 45 = .ok (.iinc 4 1, 3) := by decide +kernel
theorem dX6_longestRun_48 : decode cX6_longestRun 48 = .ok (.goto (-41), 3) := by decide +kernel
theorem dX6_longestRun_51 : decode cX6_longestRun 51 = .ok (.iload_n 3, 1) := by decide +kernel
theorem dX6_longestRun_52 : decode cX6_longestRun 52 = .ok (.aload_n 0, 1) := by decide +kernel
theorem dX6_longestRun_53 : decode cX6_longestRun 53 = .ok (.getfield 15, 3) := by decide +kernel
theorem dX6_longestRun_56 : decode cX6_longestRun 56 = .ok (.invokestatic 25, 3) := by decide +kernel
theorem dX6_longestRun_59 : decode cX6_longestRun 59 = .ok (.ireturn, 1) := by decide +kernel
theorem dX7_init_0 : decode cX7_init 0 = .ok (.aload_n 0, 1) := by decide +kernel
theorem dX7_init_1 : decode cX7_init 1 = .ok (.invokespecial 3, 3) := by decide +kernel
theorem dX7_init_4 : decode cX7_init 4 = .ok (.aload_n 0, 1) := by decide +kernel
theorem dX7_init_5 : decode cX7_init 5 = .ok (.sipush 160, 3) := by decide +kernel
theorem dX7_init_8 : decode cX7_init 8 = .ok (.newarray .int, 2) := by decide +kernel
theorem dX7_init_10 : decode cX7_init 10 = .ok (.putfield 11, 3) := by decide +kernel
theorem dX7_init_13 : decode cX7_init 13 = .ok (.aload_n 0, 1) := by decide +kernel
theorem dX7_init_14 : decode cX7_init 14 = .ok (.iconst 0, 1) := by decide +kernel
theorem dX7_init_15 : decode cX7_init 15 = .ok (.putfield 15, 3) := by decide +kernel
theorem dX7_init_18 : decode cX7_init 18 = .ok (.aload_n 0, 1) := by decide +kernel
theorem dX7_init_19 : decode cX7_init 19 = .ok (.iconst 0, 1) := by decide +kernel
theorem dX7_init_20 : decode cX7_init 20 = .ok (.putfield 19, 3) := by decide +kernel
theorem dX7_init_23 : decode cX7_init 23 = .ok (.return_, 1) := by decide +kernel
theorem dX7_bytesIn_0 : decode cX7_bytesIn 0 = .ok (.iconst 0, 1) := by decide +kernel
theorem dX7_bytesIn_1 : decode cX7_bytesIn 1 = .ok (.istore_n 1, 1) := by decide +kernel
theorem dX7_bytesIn_2 : decode cX7_bytesIn 2 = .ok (.bipush 24, 2) := by decide +kernel
theorem dX7_bytesIn_4 : decode cX7_bytesIn 4 = .ok (.istore_n 2, 1) := by decide +kernel
theorem dX7_bytesIn_5 : decode cX7_bytesIn 5 = .ok (.iload_n 2, 1) := by decide +kernel
theorem dX7_bytesIn_6 : decode cX7_bytesIn 6 = .ok (.ifCond .lt 22, 3) := by decide +kernel
theorem dX7_bytesIn_9 : decode cX7_bytesIn 9 = .ok (.iload_n 0, 1) := by decide +kernel
theorem dX7_bytesIn_10 : decode cX7_bytesIn 10 = .ok (.iload_n 2, 1) := by decide +kernel
theorem dX7_bytesIn_11 : decode cX7_bytesIn 11 = .ok (.iushr, 1) := by decide +kernel
theorem dX7_bytesIn_12 : decode cX7_bytesIn 12 = .ok (.sipush 255, 3) := by decide +kernel
theorem dX7_bytesIn_15 : decode cX7_bytesIn 15 = .ok (.iand, 1) := by decide +kernel
theorem dX7_bytesIn_16 : decode cX7_bytesIn 16 = .ok (.ifCond .eq 6, 3) := by decide +kernel
theorem dX7_bytesIn_19 : decode cX7_bytesIn 19 = .ok (.iinc 1 1, 3) := by decide +kernel
theorem dX7_bytesIn_22 : decode cX7_bytesIn 22 = .ok (.iinc 2 (-8), 3) := by decide +kernel
theorem dX7_bytesIn_25 : decode cX7_bytesIn 25 = .ok (.goto (-20), 3) := by decide +kernel
theorem dX7_bytesIn_28 : decode cX7_bytesIn 28 = .ok (.iload_n 1, 1) := by decide +kernel
theorem dX7_bytesIn_29 : decode cX7_bytesIn 29 = .ok (.ireturn, 1) := by decide +kernel
theorem dX7_add_0 : decode cX7_add 0 = .ok (.bipush 24, 2) := by decide +kernel
theorem dX7_add_2 : decode cX7_add 2 = .ok (.istore_n 2, 1) := by decide +kernel
theorem dX7_add_3 : decode cX7_add 3 = .ok (.iload_n 2, 1) := by decide +kernel
theorem dX7_add_4 : decode cX7_add 4 = .ok (.ifCond .lt 60, 3) := by decide +kernel
theorem dX7_add_7 : decode cX7_add 7 = .ok (.iload_n 1, 1) := by decide +kernel
theorem dX7_add_8 : decode cX7_add 8 = .ok (.iload_n 2, 1) := by decide +kernel
theorem dX7_add_9 : decode cX7_add 9 = .ok (.iushr, 1) := by decide +kernel
theorem dX7_add_10 : decode cX7_add 10 = .ok (.sipush 255, 3) := by decide +kernel
theorem dX7_add_13 : decode cX7_add 13 = .ok (.iand, 1) := by decide +kernel
theorem dX7_add_14 : decode cX7_add 14 = .ok (.istore_n 3, 1) := by decide +kernel
theorem dX7_add_15 : decode cX7_add 15 = .ok (.iload_n 3, 1) := by decide +kernel
theorem dX7_add_16 : decode cX7_add 16 = .ok (.ifCond .eq 42, 3) := by decide +kernel
theorem dX7_add_19 : decode cX7_add 19 = .ok (.aload_n 0, 1) := by decide +kernel
theorem dX7_add_20 : decode cX7_add 20 = .ok (.getfield 15, 3) := by decide +kernel
theorem dX7_add_23 : decode cX7_add 23 = .ok (.ifCond .lt 35, 3) := by decide +kernel
theorem dX7_add_26 : decode cX7_add 26 = .ok (.aload_n 0, 1) := by decide +kernel
theorem dX7_add_27 : decode cX7_add 27 = .ok (.getfield 15, 3) := by decide +kernel
theorem dX7_add_30 : decode cX7_add 30 = .ok (.aload_n 0, 1) := by decide +kernel
theorem dX7_add_31 : decode cX7_add 31 = .ok (.getfield 11, 3) := by decide +kernel
theorem dX7_add_34 : decode cX7_add 34 = .ok (.arraylength, 1) := by decide +kernel
theorem dX7_add_35 : decode cX7_add 35 = .ok (.if_icmp .ge 23, 3) := by decide +kernel
theorem dX7_add_38 : decode cX7_add 38 = .ok (.aload_n 0, 1) := by decide +kernel
theorem dX7_add_39 : decode cX7_add 39 = .ok (.getfield 11, 3) := by decide +kernel
theorem dX7_add_42 : decode cX7_add 42 = .ok (.aload_n 0, 1) := by decide +kernel
theorem dX7_add_43 : decode cX7_add 43 = .ok (.getfield 15, 3) := by decide +kernel
theorem dX7_add_46 : decode cX7_add 46 = .ok (.iload_n 3, 1) := by decide +kernel
theorem dX7_add_47 : decode cX7_add 47 = .ok (.iastore, 1) := by decide +kernel
theorem dX7_add_48 : decode cX7_add 48 = .ok (.aload_n 0, 1) := by decide +kernel
theorem dX7_add_49 : decode cX7_add 49 = .ok (.dup, 1) := by decide +kernel
theorem dX7_add_50 : decode cX7_add 50 = .ok (.getfield 15, 3) := by decide +kernel
theorem dX7_add_53 : decode cX7_add 53 = .ok (.iconst 1, 1) := by decide +kernel
theorem dX7_add_54 : decode cX7_add 54 = .ok (.iadd, 1) := by decide +kernel
theorem dX7_add_55 : decode cX7_add 55 = .ok (.putfield 15, 3) := by decide +kernel
theorem dX7_add_58 : decode cX7_add 58 = .ok (.iinc 2 (-8), 3) := by decide +kernel
theorem dX7_add_61 : decode cX7_add 61 = .ok (.goto (-58), 3) := by decide +kernel
theorem dX7_add_64 : decode cX7_add 64 = .ok (.return_, 1) := by decide +kernel
theorem dX7_sign_0 : decode cX7_sign 0 = .ok (.aload_n 0, 1) := by decide +kernel
theorem dX7_sign_1 : decode cX7_sign 1 = .ok (.getfield 19, 3) := by decide +kernel
theorem dX7_sign_4 : decode cX7_sign 4 = .ok (.istore_n 1, 1) := by decide +kernel
theorem dX7_sign_5 : decode cX7_sign 5 = .ok (.iload_n 1, 1) := by decide +kernel
theorem dX7_sign_6 : decode cX7_sign 6 = .ok (.ifCond .lt 49, 3) := by decide +kernel
theorem dX7_sign_9 : decode cX7_sign 9 = .ok (.iload_n 1, 1) := by decide +kernel
theorem dX7_sign_10 : decode cX7_sign 10 = .ok (.aload_n 0, 1) := by decide +kernel
theorem dX7_sign_11 : decode cX7_sign 11 = .ok (.getfield 15, 3) := by decide +kernel
theorem dX7_sign_14 : decode cX7_sign 14 = .ok (.if_icmp .ge 41, 3) := by decide +kernel
theorem dX7_sign_17 : decode cX7_sign 17 = .ok (.iload_n 1, 1) := by decide +kernel
theorem dX7_sign_18 : decode cX7_sign 18 = .ok (.aload_n 0, 1) := by decide +kernel
theorem dX7_sign_19 : decode cX7_sign 19 = .ok (.getfield 11, 3) := by decide +kernel
theorem dX7_sign_22 : decode cX7_sign 22 = .ok (.arraylength, 1) := by decide +kernel
theorem dX7_sign_23 : decode cX7_sign 23 = .ok (.if_icmp .ge 32, 3) := by decide +kernel
theorem dX7_sign_26 : decode cX7_sign 26 = .ok (.aload_n 0, 1) := by decide +kernel
theorem dX7_sign_27 : decode cX7_sign 27 = .ok (.getfield 11, 3) := by decide +kernel
theorem dX7_sign_30 : decode cX7_sign 30 = .ok (.iload_n 1, 1) := by decide +kernel
theorem dX7_sign_31 : decode cX7_sign 31 = .ok (.iaload, 1) := by decide +kernel
theorem dX7_sign_32 : decode cX7_sign 32 = .ok (.bipush 32, 2) := by decide +kernel
theorem dX7_sign_34 : decode cX7_sign 34 = .ok (.if_icmp .eq 15, 3) := by decide +kernel
theorem dX7_sign_37 : decode cX7_sign 37 = .ok (.aload_n 0, 1) := by decide +kernel
theorem dX7_sign_38 : decode cX7_sign 38 = .ok (.iload_n 1, 1) := by decide +kernel
theorem dX7_sign_39 : decode cX7_sign 39 = .ok (.putfield 19, 3) := by decide +kernel
theorem dX7_sign_42 : decode cX7_sign 42 = .ok (.aload_n 0, 1) := by decide +kernel
theorem dX7_sign_43 : decode cX7_sign 43 = .ok (.getfield 11, 3) := by decide +kernel
theorem dX7_sign_46 : decode cX7_sign 46 = .ok (.iload_n 1, 1) := by decide +kernel
theorem dX7_sign_47 : decode cX7_sign 47 = .ok (.iaload, 1) := by decide +kernel
theorem dX7_sign_48 : decode cX7_sign 48 = .ok (.ireturn, 1) := by decide +kernel
theorem dX7_sign_49 : decode cX7_sign 49 = .ok (.iinc 1 1, 3) := by decide +kernel
theorem dX7_sign_52 : decode cX7_sign 52 = .ok (.goto (-47), 3) := by decide +kernel
theorem dX7_sign_55 : decode cX7_sign 55 = .ok (.aload_n 0, 1) := by decide +kernel
theorem dX7_sign_56 : decode cX7_sign 56 = .ok (.aload_n 0, 1) := by decide +kernel
theorem dX7_sign_57 : decode cX7_sign 57 = .ok (.getfield 15, 3) := by decide +kernel
theorem dX7_sign_60 : decode cX7_sign 60 = .ok (.putfield 19, 3) := by decide +kernel
theorem dX7_sign_63 : decode cX7_sign 63 = .ok (.iconst (-1), 1) := by decide +kernel
theorem dX7_sign_64 : decode cX7_sign 64 = .ok (.ireturn, 1) := by decide +kernel
theorem dX7_pass_0 : decode cX7_pass 0 = .ok (.aload_n 0, 1) := by decide +kernel
theorem dX7_pass_1 : decode cX7_pass 1 = .ok (.invokevirtual 22, 3) := by decide +kernel
theorem dX7_pass_4 : decode cX7_pass 4 = .ok (.iload_n 1, 1) := by decide +kernel
theorem dX7_pass_5 : decode cX7_pass 5 = .ok (.if_icmp .eq 5, 3) := by decide +kernel
theorem dX7_pass_8 : decode cX7_pass 8 = .ok (.iconst 0, 1) := by decide +kernel
theorem dX7_pass_9 : decode cX7_pass 9 = .ok (.ireturn, 1) := by decide +kernel
theorem dX7_pass_10 : decode cX7_pass 10 = .ok (.aload_n 0, 1) := by decide +kernel
theorem dX7_pass_11 : decode cX7_pass 11 = .ok (.dup, 1) := by decide +kernel
theorem dX7_pass_12 : decode cX7_pass 12 = .ok (.getfield 19, 3) := by decide +kernel
theorem dX7_pass_15 : decode cX7_pass 15 = .ok (.iconst 1, 1) := by decide +kernel
theorem dX7_pass_16 : decode cX7_pass 16 = .ok (.iadd, 1) := by decide +kernel
theorem dX7_pass_17 : decode cX7_pass 17 = .ok (.putfield 19, 3) := by decide +kernel
theorem dX7_pass_20 : decode cX7_pass 20 = .ok (.iconst 1, 1) := by decide +kernel
theorem dX7_pass_21 : decode cX7_pass 21 = .ok (.ireturn, 1) := by decide +kernel
theorem dX7_number_0 : decode cX7_number 0 = .ok (.iconst 0, 1) := by decide +kernel
theorem dX7_number_1 : decode cX7_number 1 = .ok (.istore_n 2, 1) := by decide +kernel
theorem dX7_number_2 : decode cX7_number 2 = .ok (.iconst 0, 1) := by decide +kernel
theorem dX7_number_3 : decode cX7_number 3 = .ok (.istore_n 3, 1) := by decide +kernel
theorem dX7_number_4 : decode cX7_number 4 = .ok (.aload_n 0, 1) := by decide +kernel
theorem dX7_number_5 : decode cX7_number 5 = .ok (.getfield 19, 3) := by decide +kernel
theorem dX7_number_8 : decode cX7_number 8 = .ok (.ifCond .lt 88, 3) := by decide +kernel
theorem dX7_number_11 : decode cX7_number 11 = .ok (.aload_n 0, 1) := by decide +kernel
theorem dX7_number_12 : decode cX7_number 12 = .ok (.getfield 19, 3) := by decide +kernel
theorem dX7_number_15 : decode cX7_number 15 = .ok (.aload_n 0, 1) := by decide +kernel
theorem dX7_number_16 : decode cX7_number 16 = .ok (.getfield 15, 3) := by decide +kernel
theorem dX7_number_19 : decode cX7_number 19 = .ok (.if_icmp .ge 77, 3) := by decide +kernel
theorem dX7_number_22 : decode cX7_number 22 = .ok (.aload_n 0, 1) := by decide +kernel
theorem dX7_number_23 : decode cX7_number 23 = .ok (.getfield 19, 3) := by decide +kernel
theorem dX7_number_26 : decode cX7_number 26 = .ok (.aload_n 0, 1) := by decide +kernel
theorem dX7_number_27 : decode cX7_number 27 = .ok (.getfield 11, 3) := by decide +kernel
theorem dX7_number_30 : decode cX7_number 30 = .ok (.arraylength, 1) := by decide +kernel
theorem dX7_number_31 : decode cX7_number 31 = .ok (.if_icmp .ge 65, 3) := by decide +kernel
theorem dX7_number_34 : decode cX7_number 34 = .ok (.aload_n 0, 1) := by decide +kernel
theorem dX7_number_35 : decode cX7_number 35 = .ok (.getfield 11, 3) := by decide +kernel
theorem dX7_number_38 : decode cX7_number 38 = .ok (.aload_n 0, 1) := by decide +kernel
theorem dX7_number_39 : decode cX7_number 39 = .ok (.getfield 19, 3) := by decide +kernel
theorem dX7_number_42 : decode cX7_number 42 = .ok (.iaload, 1) := by decide +kernel
theorem dX7_number_43 : decode cX7_number 43 = .ok (.istore 4, 2) := by decide +kernel
theorem dX7_number_45 : decode cX7_number 45 = .ok (.iload 4, 2) := by decide +kernel
theorem dX7_number_47 : decode cX7_number 47 = .ok (.bipush 48, 2) := by decide +kernel
theorem dX7_number_49 : decode cX7_number 49 = .ok (.if_icmp .lt 47, 3) := by decide +kernel
theorem dX7_number_52 : decode cX7_number 52 = .ok (.iload 4, 2) := by decide +kernel
theorem dX7_number_54 : decode cX7_number 54 = .ok (.bipush 57, 2) := by decide +kernel
theorem dX7_number_56 : decode cX7_number 56 = .ok (.if_icmp .le 6, 3) := by decide +kernel
theorem dX7_number_59 : decode cX7_number 59 = .ok (.goto 37, 3) := by decide +kernel
theorem dX7_number_62 : decode cX7_number 62 = .ok (.iload_n 3, 1) := by decide +kernel
theorem dX7_number_63 : decode cX7_number 63 = .ok (.iload_n 1, 1) := by decide +kernel
theorem dX7_number_64 : decode cX7_number 64 = .ok (.if_icmp .ne 5, 3) := by decide +kernel
theorem dX7_number_67 : decode cX7_number 67 = .ok (.iconst (-1), 1) := by decide +kernel
theorem dX7_number_68 : decode cX7_number 68 = .ok (.ireturn, 1) := by decide +kernel
theorem dX7_number_69 : decode cX7_number 69 = .ok (.iload_n 2, 1) := by decide +kernel
theorem dX7_number_70 : decode cX7_number 70 = .ok (.bipush 10, 2) := by decide +kernel
theorem dX7_number_72 : decode cX7_number 72 = .ok (.imul, 1) := by decide +kernel
theorem dX7_number_73 : decode cX7_number 73 = .ok (.iload 4, 2) := by decide +kernel
theorem dX7_number_75 : decode cX7_number 75 = .ok (.iadd, 1) := by decide +kernel
theorem dX7_number_76 : decode cX7_number 76 = .ok (.bipush 48, 2) := by decide +kernel
theorem dX7_number_78 : decode cX7_number 78 = .ok (.isub, 1) := by decide +kernel
theorem dX7_number_79 : decode cX7_number 79 = .ok (.istore_n 2, 1) := by decide +kernel
theorem dX7_number_80 : decode cX7_number 80 = .ok (.iinc 3 1, 3) := by decide +kernel
theorem dX7_number_83 : decode cX7_number 83 = .ok (.aload_n 0, 1) := by decide +kernel
theorem dX7_number_84 : decode cX7_number 84 = .ok (.dup, 1) := by decide +kernel
theorem dX7_number_85 : decode cX7_number 85 = .ok (.getfield 19, 3) := by decide +kernel
theorem dX7_number_88 : decode cX7_number 88 = .ok (.iconst 1, 1) := by decide +kernel
theorem dX7_number_89 : decode cX7_number 89 = .ok (.iadd, 1) := by decide +kernel
theorem dX7_number_90 : decode cX7_number 90 = .ok (.putfield 19, 3) := by decide +kernel
theorem dX7_number_93 : decode cX7_number 93 = .ok (.goto (-89), 3) := by decide +kernel
theorem dX7_number_96 : decode cX7_number 96 = .ok (.iload_n 3, 1) := by decide +kernel
theorem dX7_number_97 : decode cX7_number 97 = .ok (.ifCond .ne 7, 3) := by decide +kernel
theorem dX7_number_100 : decode cX7_number 100 = .ok (.iconst (-1), 1) := by decide +kernel
theorem dX7_number_101 : decode cX7_number 101 = .ok (.goto 4, 3) := by decide +kernel
theorem dX7_number_104 : decode cX7_number 104 = .ok (.iload_n 2, 1) := by decide +kernel
theorem dX7_number_105 : decode cX7_number 105 = .ok (.ireturn, 1) := by decide +kernel
theorem dX8_init_0 : decode cX8_init 0 = .ok (.aload_n 0, 1) := by decide +kernel
theorem dX8_init_1 : decode cX8_init 1 = .ok (.invokespecial 1, 3) := by decide +kernel
theorem dX8_init_4 : decode cX8_init 4 = .ok (.aload_n 0, 1) := by decide +kernel
theorem dX8_init_5 : decode cX8_init 5 = .ok (.sipush 160, 3) := by decide +kernel
theorem dX8_init_8 : decode cX8_init 8 = .ok (.newarray .int, 2) := by decide +kernel
theorem dX8_init_10 : decode cX8_init 10 = .ok (.putfield 9, 3) := by decide +kernel
theorem dX8_init_13 : decode cX8_init 13 = .ok (.aload_n 0, 1) := by decide +kernel
theorem dX8_init_14 : decode cX8_init 14 = .ok (.iconst 0, 1) := by decide +kernel
theorem dX8_init_15 : decode cX8_init 15 = .ok (.putfield 15, 3) := by decide +kernel
theorem dX8_init_18 : decode cX8_init 18 = .ok (.aload_n 0, 1) := by decide +kernel
theorem dX8_init_19 : decode cX8_init 19 = .ok (.bipush 24, 2) := by decide +kernel
theorem dX8_init_21 : decode cX8_init 21 = .ok (.newarray .int, 2) := by decide +kernel
theorem dX8_init_23 : decode cX8_init 23 = .ok (.putfield 19, 3) := by decide +kernel
theorem dX8_init_26 : decode cX8_init 26 = .ok (.aload_n 0, 1) := by decide +kernel
theorem dX8_init_27 : decode cX8_init 27 = .ok (.iconst 0, 1) := by decide +kernel
theorem dX8_init_28 : decode cX8_init 28 = .ok (.putfield 22, 3) := by decide +kernel
theorem dX8_init_31 : decode cX8_init 31 = .ok (.return_, 1) := by decide +kernel
theorem dX8_take_0 : decode cX8_take 0 = .ok (.aload_n 0, 1) := by decide +kernel
theorem dX8_take_1 : decode cX8_take 1 = .ok (.iconst 0, 1) := by decide +kernel
theorem dX8_take_2 : decode cX8_take 2 = .ok (.iload_n 2, 1) := by decide +kernel
theorem dX8_take_3 : decode cX8_take 3 = .ok (.aload_n 1, 1) := by decide +kernel
theorem dX8_take_4 : decode cX8_take 4 = .ok (.arraylength, 1) := by decide +kernel
theorem dX8_take_5 : decode cX8_take 5 = .ok (.aload_n 0, 1) := by decide +kernel
theorem dX8_take_6 : decode cX8_take 6 = .ok (.getfield 9, 3) := by decide +kernel
theorem dX8_take_9 : decode cX8_take 9 = .ok (.arraylength, 1) := by decide +kernel
theorem dX8_take_10 : decode cX8_take 10 = .ok (.invokestatic 25, 3) := by decide +kernel
theorem dX8_take_13 : decode cX8_take 13 = .ok (.invokestatic 25, 3) := by decide +kernel
theorem dX8_take_16 : decode cX8_take 16 = .ok (.invokestatic 31, 3) := by decide +kernel
theorem dX8_take_19 : decode cX8_take 19 = .ok (.putfield 15, 3) := by decide +kernel
theorem dX8_take_22 : decode cX8_take 22 = .ok (.aload_n 1, 1) := by decide +kernel
theorem dX8_take_23 : decode cX8_take 23 = .ok (.iconst 0, 1) := by decide +kernel
theorem dX8_take_24 : decode cX8_take 24 = .ok (.aload_n 0, 1) := by decide +kernel
theorem dX8_take_25 : decode cX8_take 25 = .ok (.getfield 9, 3) := by decide +kernel
theorem dX8_take_28 : decode cX8_take 28 = .ok (.iconst 0, 1) := by decide +kernel
theorem dX8_take_29 : decode cX8_take 29 = .ok (.aload_n 0, 1) := by decide +kernel
theorem dX8_take_30 : decode cX8_take 30 = .ok (.getfield 15, 3) := by decide +kernel
theorem dX8_take_33 : decode cX8_take 33 = .ok (.invokestatic 34, 3) := by decide +kernel
theorem dX8_take_36 : decode cX8_take 36 = .ok (.return_, 1) := by decide +kernel
theorem dX8_worth_0 : decode cX8_worth 0 = .ok (.aload_n 0, 1) := by decide +kernel
theorem dX8_worth_1 : decode cX8_worth 1 = .ok (.iconst 0, 1) := by decide +kernel
theorem dX8_worth_2 : decode cX8_worth 2 = .ok (.putfield 22, 3) := by decide +kernel
theorem dX8_worth_5 : decode cX8_worth 5 = .ok (.iconst 0, 1) := by decide +kernel
theorem dX8_worth_6 : decode cX8_worth 6 = .ok (.istore 6, 2) := by decide +kernel
theorem dX8_worth_8 : decode cX8_worth 8 = .ok (.iconst 0, 1) := by decide +kernel
theorem dX8_worth_9 : decode cX8_worth 9 = .ok (.istore 7, 2) := by decide +kernel
theorem dX8_worth_11 : decode cX8_worth 11 = .ok (.iload 7, 2) := by decide +kernel
theorem dX8_worth_13 : decode cX8_worth 13 = .ok (.aload_n 0, 1) := by decide +kernel
theorem dX8_worth_14 : decode cX8_worth 14 = .ok (.getfield 15, 3) := by decide +kernel
theorem dX8_worth_17 : decode cX8_worth 17 = .ok (.if_icmp .ge 128, 3) := by decide +kernel
theorem dX8_worth_20 : decode cX8_worth 20 = .ok (.iload 6, 2) := by decide +kernel
theorem dX8_worth_22 : decode cX8_worth 22 = .ok (.ifCond .lt 123, 3) := by decide +kernel
theorem dX8_worth_25 : decode cX8_worth 25 = .ok (.iload 6, 2) := by decide +kernel
theorem dX8_worth_27 : decode cX8_worth 27 = .ok (.aload_n 0, 1) := by decide +kernel
theorem dX8_worth_28 : decode cX8_worth 28 = .ok (.getfield 15, 3) := by decide +kernel
theorem dX8_worth_31 : decode cX8_worth 31 = .ok (.if_icmp .ge 114, 3) := by decide +kernel
theorem dX8_worth_34 : decode cX8_worth 34 = .ok (.aload_n 0, 1) := by decide +kernel
theorem dX8_worth_35 : decode cX8_worth 35 = .ok (.getfield 9, 3) := by decide +kernel
theorem dX8_worth_38 : decode cX8_worth 38 = .ok (.iload 6, 2) := by decide +kernel
theorem dX8_worth_40 : decode cX8_worth 40 = .ok (.iaload, 1) := by decide +kernel
theorem dX8_worth_41 : decode cX8_worth 41 = .ok (.istore 8, 2) := by decide +kernel
theorem dX8_worth_43 : decode cX8_worth 43 = .ok (.iinc 6 1, 3) := by decide +kernel
theorem dX8_worth_46 : decode cX8_worth 46 = .ok (.iload 8, 2) := by decide +kernel
theorem dX8_worth_48 : decode cX8_worth 48 = .ok (.bipush (-59), 2) := by decide +kernel
theorem dX8_worth_50 : decode cX8_worth 50 = .ok (.if_icmp .ne 8, 3) := by decide +kernel
theorem dX8_worth_53 : decode cX8_worth 53 = .ok (.aload_n 0, 1) := by decide +kernel
theorem dX8_worth_54 : decode cX8_worth 54 = .ok (.invokevirtual 40, 3) := by decide +kernel
theorem dX8_worth_57 : decode cX8_worth 57 = .ok (.ireturn, 1) := by decide +kernel
theorem dX8_worth_58 : decode cX8_worth 58 = .ok (.iload 8, 2) := by decide +kernel
theorem dX8_worth_60 : decode cX8_worth 60 = .ok (.bipush (-63), 2) := by decide +kernel
theorem dX8_worth_62 : decode cX8_worth 62 = .ok (.if_icmp .ne 49, 3) := by decide +kernel
theorem dX8_worth_65 : decode cX8_worth 65 = .ok (.iload 6, 2) := by decide +kernel
theorem dX8_worth_67 : decode cX8_worth 67 = .ok (.aload_n 0, 1) := by decide +kernel
theorem dX8_worth_68 : decode cX8_worth 68 = .ok (.getfield 15, 3) := by decide +kernel
theorem dX8_worth_71 : decode cX8_worth 71 = .ok (.if_icmp .ge 13, 3) := by decide +kernel
theorem dX8_worth_74 : decode cX8_worth 74 = .ok (.aload_n 0, 1) := by decide +kernel
theorem dX8_worth_75 : decode cX8_worth 75 = .ok (.getfield 9, 3) := by decide +kernel
theorem dX8_worth_78 : decode cX8_worth 78 = .ok (.iload 6, 2) := by decide +kernel
theorem dX8_worth_80 : decode cX8_worth 80 = .ok (.iaload, 1) := by decide +kernel
theorem dX8_worth_81 : decode cX8_worth 81 = .ok (.goto 7, 3) := by decide +kernel
theorem dX8_worth_84 : decode cX8_worth 84 = .ok (.aload_n 0, 1) := by decide +kernel
theorem dX8_worth_85 : decode cX8_worth 85 = .ok (.getfield 15, 3) := by decide +kernel
theorem dX8_worth_88 : decode cX8_worth 88 = .ok (.istore 9, 2) := by decide +kernel
theorem dX8_worth_90 : decode cX8_worth 90 = .ok (.aload_n 0, 1) := by decide +kernel
theorem dX8_worth_91 : decode cX8_worth 91 = .ok (.invokevirtual 40, 3) := by decide +kernel
theorem dX8_worth_94 : decode cX8_worth 94 = .ok (.ifCond .ne 8, 3) := by decide +kernel
theorem dX8_worth_97 : decode cX8_worth 97 = .ok (.iload 9, 2) := by decide +kernel
theorem dX8_worth_99 : decode cX8_worth 99 = .ok (.goto 7, 3) := by decide +kernel
theorem dX8_worth_102 : decode cX8_worth 102 = .ok (.iload 6, 2) := by decide +kernel
theorem dX8_worth_104 : decode cX8_worth 104 = .ok (.iconst 1, 1) := by decide +kernel
theorem dX8_worth_105 : decode cX8_worth 105 = .ok (.iadd, 1) := by decide +kernel
theorem dX8_worth_106 : decode cX8_worth 106 = .ok (.istore 6, 2) := by decide +kernel
theorem dX8_worth_108 : decode cX8_worth 108 = .ok (.goto 31, 3) := by decide +kernel
theorem dX8_worth_111 : decode cX8_worth 111 = .ok (.iload 8, 2) := by decide +kernel
theorem dX8_worth_113 : decode cX8_worth 113 = .ok (.ifCond .lt 12, 3) := by decide +kernel
theorem dX8_worth_116 : decode cX8_worth 116 = .ok (.aload_n 0, 1) := by decide +kernel
theorem dX8_worth_117 : decode cX8_worth 117 = .ok (.iload 8, 2) := by decide +kernel
theorem dX8_worth_119 : decode cX8_worth 119 = .ok (.invokevirtual 44, 3) := by decide +kernel
theorem dX8_worth_122 : decode cX8_worth 122 = .ok (.goto 17, 3) := by decide +kernel
theorem dX8_worth_125 : decode cX8_worth 125 = .ok (.aload_n 0, 1) := by decide +kernel
theorem dX8_worth_126 : decode cX8_worth 126 = .ok (.iload 8, 2) := by decide +kernel
theorem dX8_worth_128 : decode cX8_worth 128 = .ok (.ineg, 1) := by decide +kernel
theorem dX8_worth_129 : decode cX8_worth 129 = .ok (.iload_n 1, 1) := by decide +kernel
theorem dX8_worth_130 : decode cX8_worth 130 = .ok (.iload_n 2, 1) := by decide +kernel
theorem dX8_worth_131 : decode cX8_worth 131 = .ok (.iload_n 3, 1) := by decide +kernel
theorem dX8_worth_132 : decode cX8_worth 132 = .ok (.iload 4, 2) := by decide +kernel
theorem dX8_worth_134 : decode cX8_worth 134 = .ok (.iload 5, 2) := by decide +kernel
theorem dX8_worth_136 : decode cX8_worth 136 = .ok (.invokevirtual 48, 3) := by decide +kernel
theorem dX8_worth_139 : decode cX8_worth 139 = .ok (.iinc 7 1, 3) := by decide +kernel
theorem dX8_worth_142 : decode cX8_worth 142 = .ok (.goto (-131), 3) := by decide +kernel
theorem dX8_worth_145 : decode cX8_worth 145 = .ok (.iconst 0, 1) := by decide +kernel
theorem dX8_worth_146 : decode cX8_worth 146 = .ok (.ireturn, 1) := by decide +kernel
theorem dX8_reckon_0 : decode cX8_reckon 0 = .ok (.iload_n 1, 1) := by decide +kernel
theorem dX8_reckon_1 : decode cX8_reckon 1 = .ok (.lookupswitch 121 #[(33, 102), (103, 59), (110, 93), (112, 67), (115, 84), (116, 75)], 59) := by decide +kernel
theorem dX8_reckon_60 : decode cX8_reckon 60 = .ok (.aload_n 0, 1) := by decide +kernel
theorem dX8_reckon_61 : decode cX8_reckon 61 = .ok (.iload_n 2, 1) := by decide +kernel
theorem dX8_reckon_62 : decode cX8_reckon 62 = .ok (.invokevirtual 44, 3) := by decide +kernel
theorem dX8_reckon_65 : decode cX8_reckon 65 = .ok (.goto 81, 3) := by decide +kernel
theorem dX8_reckon_68 : decode cX8_reckon 68 = .ok (.aload_n 0, 1) := by decide +kernel
theorem dX8_reckon_69 : decode cX8_reckon 69 = .ok (.iload_n 3, 1) := by decide +kernel
theorem dX8_reckon_70 : decode cX8_reckon 70 = .ok (.invokevirtual 44, 3) := by decide +kernel
theorem dX8_reckon_73 : decode cX8_reckon 73 = .ok (.goto 73, 3) := by decide +kernel
theorem dX8_reckon_76 : decode cX8_reckon 76 = .ok (.aload_n 0, 1) := by decide +kernel
theorem dX8_reckon_77 : decode cX8_reckon 77 = .ok (.iload 4, 2) := by decide +kernel
theorem dX8_reckon_79 : decode cX8_reckon 79 = .ok (.invokevirtual 44, 3) := by decide +kernel
theorem dX8_reckon_82 : decode cX8_reckon 82 = .ok (.goto 64, 3) := by decide +kernel
theorem dX8_reckon_85 : decode cX8_reckon 85 = .ok (.aload_n 0, 1) := by decide +kernel
theorem dX8_reckon_86 : decode cX8_reckon 86 = .ok (.iload 5, 2) := by decide +kernel
theorem dX8_reckon_88 : decode cX8_reckon 88 = .ok (.invokevirtual 44, 3) := by decide +kernel
theorem dX8_reckon_91 : decode cX8_reckon 91 = .ok (.goto 55, 3) := by decide +kernel
theorem dX8_reckon_94 : decode cX8_reckon 94 = .ok (.aload_n 0, 1) := by decide +kernel
theorem dX8_reckon_95 : decode cX8_reckon 95 = .ok (.iload 6, 2) := by decide +kernel
theorem dX8_reckon_97 : decode cX8_reckon 97 = .ok (.invokevirtual 44, 3) := by decide +kernel
theorem dX8_reckon_100 : decode cX8_reckon 100 = .ok (.goto 46, 3) := by decide +kernel
theorem dX8_reckon_103 : decode cX8_reckon 103 = .ok (.aload_n 0, 1) := by decide +kernel
theorem dX8_reckon_104 : decode cX8_reckon 104 = .ok (.aload_n 0, 1) := by decide +kernel
theorem dX8_reckon_105 : decode cX8_reckon 105 = .ok (.invokevirtual 40, 3) := by decide +kernel
theorem dX8_reckon_108 : decode cX8_reckon 108 = .ok (.ifCond .ne 7, 3) := by decide +kernel
theorem dX8_reckon_111 : decode cX8_reckon 111 = .ok (.iconst 1, 1) := by decide +kernel
theorem dX8_reckon_112 : decode cX8_reckon 112 = .ok (.goto 4, 3) := by decide +kernel
theorem dX8_reckon_115 : decode cX8_reckon 115 = .ok (.iconst 0, 1) := by decide +kernel
theorem dX8_reckon_116 : decode cX8_reckon 116 = .ok (.invokevirtual 44, 3) := by decide +kernel
theorem dX8_reckon_119 : decode cX8_reckon 119 = .ok (.goto 27, 3) := by decide +kernel
theorem dX8_reckon_122 : decode cX8_reckon 122 = .ok (.aload_n 0, 1) := by decide +kernel
theorem dX8_reckon_123 : decode cX8_reckon 123 = .ok (.invokevirtual 40, 3) := by decide +kernel
theorem dX8_reckon_126 : decode cX8_reckon 126 = .ok (.istore 7, 2) := by decide +kernel
theorem dX8_reckon_128 : decode cX8_reckon 128 = .ok (.aload_n 0, 1) := by decide +kernel
theorem dX8_reckon_129 : decode cX8_reckon 129 = .ok (.invokevirtual 40, 3) := by decide +kernel
theorem dX8_reckon_132 : decode cX8_reckon 132 = .ok (.istore 8, 2) := by decide +kernel
theorem dX8_reckon_134 : decode cX8_reckon 134 = .ok (.aload_n 0, 1) := by decide +kernel
theorem dX8_reckon_135 : decode cX8_reckon 135 = .ok (.iload_n 1, 1) := by decide +kernel
theorem dX8_reckon_136 : decode cX8_reckon 136 = .ok (.iload 8, 2) := by decide +kernel
theorem dX8_reckon_138 : decode cX8_reckon 138 = .ok (.iload 7, 2) := by decide +kernel
theorem dX8_reckon_140 : decode cX8_reckon 140 = .ok (.invokestatic 52, 3) := by decide +kernel
theorem dX8_reckon_143 : decode cX8_reckon 143 = .ok (.invokevirtual 44, 3) := by decide +kernel
theorem dX8_reckon_146 : decode cX8_reckon 146 = .ok (.return_, 1) := by decide +kernel
theorem dX8_joined_0 : decode cX8_joined 0 = .ok (.iload_n 0, 1) := by decide +kernel
theorem dX8_joined_1 : decode cX8_joined 1 = .ok (.tableswitch 196 38 62 #[192, 196, 196, 196, 133, 115, 196, 124, 196, 142, 196, 196, 196, 196, 196, 196, 196, 196, 196, 196, 196, 196, 170, 159, 181], 115) := by decide +kernel
theorem dX8_joined_116 : decode cX8_joined 116 = .ok (.iload_n 1, 1) := by decide +kernel
theorem dX8_joined_117 : decode cX8_joined 117 = .ok (.i2l, 1) := by decide +kernel
theorem dX8_joined_118 : decode cX8_joined 118 = .ok (.iload_n 2, 1) := by decide +kernel
theorem dX8_joined_119 : decode cX8_joined 119 = .ok (.i2l, 1) := by decide +kernel
theorem dX8_joined_120 : decode cX8_joined 120 = .ok (.ladd, 1) := by decide +kernel
theorem dX8_joined_121 : decode cX8_joined 121 = .ok (.invokestatic 56, 3) := by decide +kernel
theorem dX8_joined_124 : decode cX8_joined 124 = .ok (.ireturn, 1) := by decide +kernel
theorem dX8_joined_125 : decode cX8_joined 125 = .ok (.iload_n 1, 1) := by decide +kernel
theorem dX8_joined_126 : decode cX8_joined 126 = .ok (.i2l, 1) := by decide +kernel
theorem dX8_joined_127 : decode cX8_joined 127 = .ok (.iload_n 2, 1) := by decide +kernel
theorem dX8_joined_128 : decode cX8_joined 128 = .ok (.i2l, 1) := by decide +kernel
theorem dX8_joined_129 : decode cX8_joined 129 = .ok (.lsub, 1) := by decide +kernel
theorem dX8_joined_130 : decode cX8_joined 130 = .ok (.invokestatic 56, 3) := by decide +kernel
theorem dX8_joined_133 : decode cX8_joined 133 = .ok (.ireturn, 1) := by decide +kernel
theorem dX8_joined_134 : decode cX8_joined 134 = .ok (.iload_n 1, 1) := by decide +kernel
theorem dX8_joined_135 : decode cX8_joined 135 = .ok (.i2l, 1) := by decide +kernel
theorem dX8_joined_136 : decode cX8_joined 136 = .ok (.iload_n 2, 1) := by decide +kernel
theorem dX8_joined_137 : decode cX8_joined 137 = .ok (.i2l, 1) := by decide +kernel
theorem dX8_joined_138 : decode cX8_joined 138 = .ok (.lmul, 1) := by decide +kernel
theorem dX8_joined_139 : decode cX8_joined 139 = .ok (.invokestatic 56, 3) := by decide +kernel
theorem dX8_joined_142 : decode cX8_joined 142 = .ok (.ireturn, 1) := by decide +kernel
theorem dX8_joined_143 : decode cX8_joined 143 = .ok (.iload_n 2, 1) := by decide +kernel
theorem dX8_joined_144 : decode cX8_joined 144 = .ok (.ifCond .ne 7, 3) := by decide +kernel
theorem dX8_joined_147 : decode cX8_joined 147 = .ok (.iconst 0, 1) := by decide +kernel
theorem dX8_joined_148 : decode cX8_joined 148 = .ok (.goto 11, 3) := by decide +kernel
theorem dX8_joined_151 : decode cX8_joined 151 = .ok (.iload_n 1, 1) := by decide +kernel
theorem dX8_joined_152 : decode cX8_joined 152 = .ok (.i2l, 1) := by decide +kernel
theorem dX8_joined_153 : decode cX8_joined 153 = .ok (.iload_n 2, 1) := by decide +kernel
theorem dX8_joined_154 : decode cX8_joined 154 = .ok (.i2l, 1) := by decide +kernel
theorem dX8_joined_155 : decode cX8_joined 155 = .ok (.ldiv, 1) := by decide +kernel
theorem dX8_joined_156 : decode cX8_joined 156 = .ok (.invokestatic 56, 3) := by decide +kernel
theorem dX8_joined_159 : decode cX8_joined 159 = .ok (.ireturn, 1) := by decide +kernel
theorem dX8_joined_160 : decode cX8_joined 160 = .ok (.iload_n 1, 1) := by decide +kernel
theorem dX8_joined_161 : decode cX8_joined 161 = .ok (.iload_n 2, 1) := by decide +kernel
theorem dX8_joined_162 : decode cX8_joined 162 = .ok (.if_icmp .ne 7, 3) := by decide +kernel
theorem dX8_joined_165 : decode cX8_joined 165 = .ok (.iconst 1, 1) := by decide +kernel
theorem dX8_joined_166 : decode cX8_joined 166 = .ok (.goto 4, 3) := by decide +kernel
theorem dX8_joined_169 : decode cX8_joined 169 = .ok (.iconst 0, 1) := by decide +kernel
theorem dX8_joined_170 : decode cX8_joined 170 = .ok (.ireturn, 1) := by decide +kernel
theorem dX8_joined_171 : decode cX8_joined 171 = .ok (.iload_n 1, 1) := by decide +kernel
theorem dX8_joined_172 : decode cX8_joined 172 = .ok (.iload_n 2, 1) := by decide +kernel
theorem dX8_joined_173 : decode cX8_joined 173 = .ok (.if_icmp .ge 7, 3) := by decide +kernel
theorem dX8_joined_176 : decode cX8_joined 176 = .ok (.iconst 1, 1) := by decide +kernel
theorem dX8_joined_177 : decode cX8_joined 177 = .ok (.goto 4, 3) := by decide +kernel
theorem dX8_joined_180 : decode cX8_joined 180 = .ok (.iconst 0, 1) := by decide +kernel
theorem dX8_joined_181 : decode cX8_joined 181 = .ok (.ireturn, 1) := by decide +kernel
theorem dX8_joined_182 : decode cX8_joined 182 = .ok (.iload_n 1, 1) := by decide +kernel
theorem dX8_joined_183 : decode cX8_joined 183 = .ok (.iload_n 2, 1) := by decide +kernel
theorem dX8_joined_184 : decode cX8_joined 184 = .ok (.if_icmp .le 7, 3) := by decide +kernel
theorem dX8_joined_187 : decode cX8_joined 187 = .ok (.iconst 1, 1) := by decide +kernel
theorem dX8_joined_188 : decode cX8_joined 188 = .ok (.goto 4, 3) := by decide +kernel
theorem dX8_joined_191 : decode cX8_joined 191 = .ok (.iconst 0, 1) := by decide +kernel
theorem dX8_joined_192 : decode cX8_joined 192 = .ok (.ireturn, 1) := by decide +kernel
theorem dX8_joined_193 : decode cX8_joined 193 = .ok (.iload_n 1, 1) := by decide +kernel
theorem dX8_joined_194 : decode cX8_joined 194 = .ok (.iload_n 2, 1) := by decide +kernel
theorem dX8_joined_195 : decode cX8_joined 195 = .ok (.iand, 1) := by decide +kernel
theorem dX8_joined_196 : decode cX8_joined 196 = .ok (.ireturn, 1) := by decide +kernel
theorem dX8_joined_197 : decode cX8_joined 197 = .ok (.iload_n 1, 1) := by decide +kernel
theorem dX8_joined_198 : decode cX8_joined 198 = .ok (.iload_n 2, 1) := by decide +kernel
theorem dX8_joined_199 : decode cX8_joined 199 = .ok (.ior, 1) := by decide +kernel
theorem dX8_joined_200 : decode cX8_joined 200 = .ok (.ireturn, 1) := by decide +kernel
theorem dX8_bounded_0 : decode cX8_bounded 0 = .ok (.ldc2_w 60, 3) := by decide +kernel
theorem dX8_bounded_3 : decode cX8_bounded 3 = .ok (.ldc2_w 62, 3) := by decide +kernel
theorem dX8_bounded_6 : decode cX8_bounded 6 = .ok (.lload_n 0, 1) := by decide +kernel
theorem dX8_bounded_7 : decode cX8_bounded 7 = .ok (.invokestatic 64, 3) := by decide +kernel
theorem dX8_bounded_10 : decode cX8_bounded 10 = .ok (.invokestatic 67, 3) := by decide +kernel
theorem dX8_bounded_13 : decode cX8_bounded 13 = .ok (.l2i, 1) := by decide +kernel
theorem dX8_bounded_14 : decode cX8_bounded 14 = .ok (.ireturn, 1) := by decide +kernel
theorem dX8_push_0 : decode cX8_push 0 = .ok (.aload_n 0, 1) := by decide +kernel
theorem dX8_push_1 : decode cX8_push 1 = .ok (.getfield 22, 3) := by decide +kernel
theorem dX8_push_4 : decode cX8_push 4 = .ok (.ifCond .lt 35, 3) := by decide +kernel
theorem dX8_push_7 : decode cX8_push 7 = .ok (.aload_n 0, 1) := by decide +kernel
theorem dX8_push_8 : decode cX8_push 8 = .ok (.getfield 22, 3) := by decide +kernel
theorem dX8_push_11 : decode cX8_push 11 = .ok (.aload_n 0, 1) := by decide +kernel
theorem dX8_push_12 : decode cX8_push 12 = .ok (.getfield 19, 3) := by decide +kernel
theorem dX8_push_15 : decode cX8_push 15 = .ok (.arraylength, 1) := by decide +kernel
theorem dX8_push_16 : decode cX8_push 16 = .ok (.if_icmp .ge 23, 3) := by decide +kernel
theorem dX8_push_19 : decode cX8_push 19 = .ok (.aload_n 0, 1) := by decide +kernel
theorem dX8_push_20 : decode cX8_push 20 = .ok (.getfield 19, 3) := by decide +kernel
theorem dX8_push_23 : decode cX8_push 23 = .ok (.aload_n 0, 1) := by decide +kernel
theorem dX8_push_24 : decode cX8_push 24 = .ok (.getfield 22, 3) := by decide +kernel
theorem dX8_push_27 : decode cX8_push 27 = .ok (.iload_n 1, 1) := by decide +kernel
theorem dX8_push_28 : decode cX8_push 28 = .ok (.iastore, 1) := by decide +kernel
theorem dX8_push_29 : decode cX8_push 29 = .ok (.aload_n 0, 1) := by decide +kernel
theorem dX8_push_30 : decode cX8_push 30 = .ok (.dup, 1) := by decide +kernel
theorem dX8_push_31 : decode cX8_push 31 = .ok (.getfield 22, 3) := by decide +kernel
theorem dX8_push_34 : decode cX8_push 34 = .ok (.iconst 1, 1) := by decide +kernel
theorem dX8_push_35 : decode cX8_push 35 = .ok (.iadd, 1) := by decide +kernel
theorem dX8_push_36 : decode cX8_push 36 = .ok (.putfield 22, 3) := by decide +kernel
theorem dX8_push_39 : decode cX8_push 39 = .ok (.return_, 1) := by decide +kernel
theorem dX8_pop_0 : decode cX8_pop 0 = .ok (.aload_n 0, 1) := by decide +kernel
theorem dX8_pop_1 : decode cX8_pop 1 = .ok (.getfield 22, 3) := by decide +kernel
theorem dX8_pop_4 : decode cX8_pop 4 = .ok (.ifCond .le 15, 3) := by decide +kernel
theorem dX8_pop_7 : decode cX8_pop 7 = .ok (.aload_n 0, 1) := by decide +kernel
theorem dX8_pop_8 : decode cX8_pop 8 = .ok (.getfield 22, 3) := by decide +kernel
theorem dX8_pop_11 : decode cX8_pop 11 = .ok (.aload_n 0, 1) := by decide +kernel
theorem dX8_pop_12 : decode cX8_pop 12 = .ok (.getfield 19, 3) := by decide +kernel
theorem dX8_pop_15 : decode cX8_pop 15 = .ok (.arraylength, 1) := by decide +kernel
theorem dX8_pop_16 : decode cX8_pop 16 = .ok (.if_icmp .le 5, 3) := by decide +kernel
theorem dX8_pop_19 : decode cX8_pop 19 = .ok (.iconst 0, 1) := by decide +kernel
theorem dX8_pop_20 : decode cX8_pop 20 = .ok (.ireturn, 1) := by decide +kernel
theorem dX8_pop_21 : decode cX8_pop 21 = .ok (.aload_n 0, 1) := by decide +kernel
theorem dX8_pop_22 : decode cX8_pop 22 = .ok (.dup, 1) := by decide +kernel
theorem dX8_pop_23 : decode cX8_pop 23 = .ok (.getfield 22, 3) := by decide +kernel
theorem dX8_pop_26 : decode cX8_pop 26 = .ok (.iconst 1, 1) := by decide +kernel
theorem dX8_pop_27 : decode cX8_pop 27 = .ok (.isub, 1) := by decide +kernel
theorem dX8_pop_28 : decode cX8_pop 28 = .ok (.putfield 22, 3) := by decide +kernel
theorem dX8_pop_31 : decode cX8_pop 31 = .ok (.aload_n 0, 1) := by decide +kernel
theorem dX8_pop_32 : decode cX8_pop 32 = .ok (.getfield 19, 3) := by decide +kernel
theorem dX8_pop_35 : decode cX8_pop 35 = .ok (.aload_n 0, 1) := by decide +kernel
theorem dX8_pop_36 : decode cX8_pop 36 = .ok (.getfield 22, 3) := by decide +kernel
theorem dX8_pop_39 : decode cX8_pop 39 = .ok (.iaload, 1) := by decide +kernel
theorem dX8_pop_40 : decode cX8_pop 40 = .ok (.ireturn, 1) := by decide +kernel
theorem dX9_init_0 : decode cX9_init 0 = .ok (.aload_n 0, 1) := by decide +kernel
theorem dX9_init_1 : decode cX9_init 1 = .ok (.invokespecial 3, 3) := by decide +kernel
theorem dX9_init_4 : decode cX9_init 4 = .ok (.aload_n 0, 1) := by decide +kernel
theorem dX9_init_5 : decode cX9_init 5 = .ok (.sipush 160, 3) := by decide +kernel
theorem dX9_init_8 : decode cX9_init 8 = .ok (.newarray .int, 2) := by decide +kernel
theorem dX9_init_10 : decode cX9_init 10 = .ok (.putfield 11, 3) := by decide +kernel
theorem dX9_init_13 : decode cX9_init 13 = .ok (.aload_n 0, 1) := by decide +kernel
theorem dX9_init_14 : decode cX9_init 14 = .ok (.iconst 0, 1) := by decide +kernel
theorem dX9_init_15 : decode cX9_init 15 = .ok (.putfield 17, 3) := by decide +kernel
theorem dX9_init_18 : decode cX9_init 18 = .ok (.return_, 1) := by decide +kernel
theorem dX9_read_0 : decode cX9_read 0 = .ok (.aload_n 0, 1) := by decide +kernel
theorem dX9_read_1 : decode cX9_read 1 = .ok (.iconst 0, 1) := by decide +kernel
theorem dX9_read_2 : decode cX9_read 2 = .ok (.putfield 17, 3) := by decide +kernel
theorem dX9_read_5 : decode cX9_read 5 = .ok (.aload_n 1, 1) := by decide +kernel
theorem dX9_read_6 : decode cX9_read 6 = .ok (.iconst 0, 1) := by decide +kernel
theorem dX9_read_7 : decode cX9_read 7 = .ok (.putfield 21, 3) := by decide +kernel
theorem dX9_read_10 : decode cX9_read 10 = .ok (.iconst 1, 1) := by decide +kernel
theorem dX9_read_11 : decode cX9_read 11 = .ok (.istore_n 2, 1) := by decide +kernel
theorem dX9_read_12 : decode cX9_read 12 = .ok (.iconst 0, 1) := by decide +kernel
theorem dX9_read_13 : decode cX9_read 13 = .ok (.istore_n 3, 1) := by decide +kernel
theorem dX9_read_14 : decode cX9_read 14 = .ok (.iload_n 2, 1) := by decide +kernel
theorem dX9_read_15 : decode cX9_read 15 = .ok (.ifCond .eq 36, 3) := by decide +kernel
theorem dX9_read_18 : decode cX9_read 18 = .ok (.iload_n 3, 1) := by decide +kernel
theorem dX9_read_19 : decode cX9_read 19 = .ok (.sipush 160, 3) := by decide +kernel
theorem dX9_read_22 : decode cX9_read 22 = .ok (.if_icmp .gt 29, 3) := by decide +kernel
theorem dX9_read_25 : decode cX9_read 25 = .ok (.aload_n 0, 1) := by decide +kernel
theorem dX9_read_26 : decode cX9_read 26 = .ok (.aload_n 1, 1) := by decide +kernel
theorem dX9_read_27 : decode cX9_read 27 = .ok (.invokevirtual 24, 3) := by decide +kernel
theorem dX9_read_30 : decode cX9_read 30 = .ok (.ifCond .ne 8, 3) := by decide +kernel
theorem dX9_read_33 : decode cX9_read 33 = .ok (.aload_n 1, 1) := by decide +kernel
theorem dX9_read_34 : decode cX9_read 34 = .ok (.getfield 21, 3) := by decide +kernel
theorem dX9_read_37 : decode cX9_read 37 = .ok (.ireturn, 1) := by decide +kernel
theorem dX9_read_38 : decode cX9_read 38 = .ok (.aload_n 1, 1) := by decide +kernel
theorem dX9_read_39 : decode cX9_read 39 = .ok (.bipush 59, 2) := by decide +kernel
theorem dX9_read_41 : decode cX9_read 41 = .ok (.invokevirtual 28, 3) := by decide +kernel
theorem dX9_read_44 : decode cX9_read 44 = .ok (.istore_n 2, 1) := by decide +kernel
theorem dX9_read_45 : decode cX9_read 45 = .ok (.iinc 3 1, 3) := by decide +kernel
theorem dX9_read_48 : decode cX9_read 48 = .ok (.goto (-34), 3) := by decide +kernel
theorem dX9_read_51 : decode cX9_read 51 = .ok (.aload_n 1, 1) := by decide +kernel
theorem dX9_read_52 : decode cX9_read 52 = .ok (.invokevirtual 32, 3) := by decide +kernel
theorem dX9_read_55 : decode cX9_read 55 = .ok (.iconst (-1), 1) := by decide +kernel
theorem dX9_read_56 : decode cX9_read 56 = .ok (.if_icmp .ne 7, 3) := by decide +kernel
theorem dX9_read_59 : decode cX9_read 59 = .ok (.iconst (-1), 1) := by decide +kernel
theorem dX9_read_60 : decode cX9_read 60 = .ok (.goto 7, 3) := by decide +kernel
theorem dX9_read_63 : decode cX9_read 63 = .ok (.aload_n 1, 1) := by decide +kernel
theorem dX9_read_64 : decode cX9_read 64 = .ok (.getfield 21, 3) := by decide +kernel
theorem dX9_read_67 : decode cX9_read 67 = .ok (.ireturn, 1) := by decide +kernel
theorem dX9_put_0 : decode cX9_put 0 = .ok (.aload_n 0, 1) := by decide +kernel
theorem dX9_put_1 : decode cX9_put 1 = .ok (.getfield 17, 3) := by decide +kernel
theorem dX9_put_4 : decode cX9_put 4 = .ok (.ifCond .lt 35, 3) := by decide +kernel
theorem dX9_put_7 : decode cX9_put 7 = .ok (.aload_n 0, 1) := by decide +kernel
theorem dX9_put_8 : decode cX9_put 8 = .ok (.getfield 17, 3) := by decide +kernel
theorem dX9_put_11 : decode cX9_put 11 = .ok (.aload_n 0, 1) := by decide +kernel
theorem dX9_put_12 : decode cX9_put 12 = .ok (.getfield 11, 3) := by decide +kernel
theorem dX9_put_15 : decode cX9_put 15 = .ok (.arraylength, 1) := by decide +kernel
theorem dX9_put_16 : decode cX9_put 16 = .ok (.if_icmp .ge 23, 3) := by decide +kernel
theorem dX9_put_19 : decode cX9_put 19 = .ok (.aload_n 0, 1) := by decide +kernel
theorem dX9_put_20 : decode cX9_put 20 = .ok (.getfield 11, 3) := by decide +kernel
theorem dX9_put_23 : decode cX9_put 23 = .ok (.aload_n 0, 1) := by decide +kernel
theorem dX9_put_24 : decode cX9_put 24 = .ok (.getfield 17, 3) := by decide +kernel
theorem dX9_put_27 : decode cX9_put 27 = .ok (.iload_n 1, 1) := by decide +kernel
theorem dX9_put_28 : decode cX9_put 28 = .ok (.iastore, 1) := by decide +kernel
theorem dX9_put_29 : decode cX9_put 29 = .ok (.aload_n 0, 1) := by decide +kernel
theorem dX9_put_30 : decode cX9_put 30 = .ok (.dup, 1) := by decide +kernel
theorem dX9_put_31 : decode cX9_put 31 = .ok (.getfield 17, 3) := by decide +kernel
theorem dX9_put_34 : decode cX9_put 34 = .ok (.iconst 1, 1) := by decide +kernel
theorem dX9_put_35 : decode cX9_put 35 = .ok (.iadd, 1) := by decide +kernel
theorem dX9_put_36 : decode cX9_put 36 = .ok (.putfield 17, 3) := by decide +kernel
theorem dX9_put_39 : decode cX9_put 39 = .ok (.return_, 1) := by decide +kernel
theorem dX9_clause_0 : decode cX9_clause 0 = .ok (.aload_n 1, 1) := by decide +kernel
theorem dX9_clause_1 : decode cX9_clause 1 = .ok (.bipush 121, 2) := by decide +kernel
theorem dX9_clause_3 : decode cX9_clause 3 = .ok (.invokevirtual 28, 3) := by decide +kernel
theorem dX9_clause_6 : decode cX9_clause 6 = .ok (.ifCond .eq 12, 3) := by decide +kernel
theorem dX9_clause_9 : decode cX9_clause 9 = .ok (.aload_n 1, 1) := by decide +kernel
theorem dX9_clause_10 : decode cX9_clause 10 = .ok (.bipush 58, 2) := by decide +kernel
theorem dX9_clause_12 : decode cX9_clause 12 = .ok (.invokevirtual 28, 3) := by decide +kernel
theorem dX9_clause_15 : decode cX9_clause 15 = .ok (.ifCond .ne 5, 3) := by decide +kernel
theorem dX9_clause_18 : decode cX9_clause 18 = .ok (.iconst 0, 1) := by decide +kernel
theorem dX9_clause_19 : decode cX9_clause 19 = .ok (.ireturn, 1) := by decide +kernel
theorem dX9_clause_20 : decode cX9_clause 20 = .ok (.aload_n 1, 1) := by decide +kernel
theorem dX9_clause_21 : decode cX9_clause 21 = .ok (.invokevirtual 32, 3) := by decide +kernel
theorem dX9_clause_24 : decode cX9_clause 24 = .ok (.istore_n 2, 1) := by decide +kernel
theorem dX9_clause_25 : decode cX9_clause 25 = .ok (.iload_n 2, 1) := by decide +kernel
theorem dX9_clause_26 : decode cX9_clause 26 = .ok (.bipush 33, 2) := by decide +kernel
theorem dX9_clause_28 : decode cX9_clause 28 = .ok (.if_icmp .eq 13, 3) := by decide +kernel
theorem dX9_clause_31 : decode cX9_clause 31 = .ok (.iload_n 2, 1) := by decide +kernel
theorem dX9_clause_32 : decode cX9_clause 32 = .ok (.bipush 40, 2) := by decide +kernel
theorem dX9_clause_34 : decode cX9_clause 34 = .ok (.if_icmp .eq 7, 3) := by decide +kernel
theorem dX9_clause_37 : decode cX9_clause 37 = .ok (.iconst 1, 1) := by decide +kernel
theorem dX9_clause_38 : decode cX9_clause 38 = .ok (.goto 4, 3) := by decide +kernel
theorem dX9_clause_41 : decode cX9_clause 41 = .ok (.iconst 0, 1) := by decide +kernel
theorem dX9_clause_42 : decode cX9_clause 42 = .ok (.istore_n 3, 1) := by decide +kernel
theorem dX9_clause_43 : decode cX9_clause 43 = .ok (.iload_n 3, 1) := by decide +kernel
theorem dX9_clause_44 : decode cX9_clause 44 = .ok (.ifCond .eq 32, 3) := by decide +kernel
theorem dX9_clause_47 : decode cX9_clause 47 = .ok (.aload_n 0, 1) := by decide +kernel
theorem dX9_clause_48 : decode cX9_clause 48 = .ok (.aload_n 1, 1) := by decide +kernel
theorem dX9_clause_49 : decode cX9_clause 49 = .ok (.iconst 0, 1) := by decide +kernel
theorem dX9_clause_50 : decode cX9_clause 50 = .ok (.invokevirtual 36, 3) := by decide +kernel
theorem dX9_clause_53 : decode cX9_clause 53 = .ok (.ifCond .ne 5, 3) := by decide +kernel
theorem dX9_clause_56 : decode cX9_clause 56 = .ok (.iconst 0, 1) := by decide +kernel
theorem dX9_clause_57 : decode cX9_clause 57 = .ok (.ireturn, 1) := by decide +kernel
theorem dX9_clause_58 : decode cX9_clause 58 = .ok (.aload_n 1, 1) := by decide +kernel
theorem dX9_clause_59 : decode cX9_clause 59 = .ok (.invokevirtual 32, 3) := by decide +kernel
theorem dX9_clause_62 : decode cX9_clause 62 = .ok (.invokestatic 40, 3) := by decide +kernel
theorem dX9_clause_65 : decode cX9_clause 65 = .ok (.ifCond .ne 11, 3) := by decide +kernel
theorem dX9_clause_68 : decode cX9_clause 68 = .ok (.aload_n 0, 1) := by decide +kernel
theorem dX9_clause_69 : decode cX9_clause 69 = .ok (.bipush (-59), 2) := by decide +kernel
theorem dX9_clause_71 : decode cX9_clause 71 = .ok (.invokevirtual 45, 3) := by decide +kernel
theorem dX9_clause_74 : decode cX9_clause 74 = .ok (.iconst 1, 1) := by decide +kernel
theorem dX9_clause_75 : decode cX9_clause 75 = .ok (.ireturn, 1) := by decide +kernel
theorem dX9_clause_76 : decode cX9_clause 76 = .ok (.aload_n 0, 1) := by decide +kernel
theorem dX9_clause_77 : decode cX9_clause 77 = .ok (.aload_n 1, 1) := by decide +kernel
theorem dX9_clause_78 : decode cX9_clause 78 = .ok (.iconst 0, 1) := by decide +kernel
theorem dX9_clause_79 : decode cX9_clause 79 = .ok (.iload_n 3, 1) := by decide +kernel
theorem dX9_clause_80 : decode cX9_clause 80 = .ok (.invokevirtual 49, 3) := by decide +kernel
theorem dX9_clause_83 : decode cX9_clause 83 = .ok (.ifCond .eq 12, 3) := by decide +kernel
theorem dX9_clause_86 : decode cX9_clause 86 = .ok (.aload_n 1, 1) := by decide +kernel
theorem dX9_clause_87 : decode cX9_clause 87 = .ok (.bipush 63, 2) := by decide +kernel
theorem dX9_clause_89 : decode cX9_clause 89 = .ok (.invokevirtual 28, 3) := by decide +kernel
theorem dX9_clause_92 : decode cX9_clause 92 = .ok (.ifCond .ne 5, 3) := by decide +kernel
theorem dX9_clause_95 : decode cX9_clause 95 = .ok (.iconst 0, 1) := by decide +kernel
theorem dX9_clause_96 : decode cX9_clause 96 = .ok (.ireturn, 1) := by decide +kernel
theorem dX9_clause_97 : decode cX9_clause 97 = .ok (.aload_n 0, 1) := by decide +kernel
theorem dX9_clause_98 : decode cX9_clause 98 = .ok (.bipush (-63), 2) := by decide +kernel
theorem dX9_clause_100 : decode cX9_clause 100 = .ok (.invokevirtual 45, 3) := by decide +kernel
theorem dX9_clause_103 : decode cX9_clause 103 = .ok (.aload_n 0, 1) := by decide +kernel
theorem dX9_clause_104 : decode cX9_clause 104 = .ok (.getfield 17, 3) := by decide +kernel
theorem dX9_clause_107 : decode cX9_clause 107 = .ok (.istore 4, 2) := by decide +kernel
theorem dX9_clause_109 : decode cX9_clause 109 = .ok (.aload_n 0, 1) := by decide +kernel
theorem dX9_clause_110 : decode cX9_clause 110 = .ok (.iconst 0, 1) := by decide +kernel
theorem dX9_clause_111 : decode cX9_clause 111 = .ok (.invokevirtual 45, 3) := by decide +kernel
theorem dX9_clause_114 : decode cX9_clause 114 = .ok (.aload_n 0, 1) := by decide +kernel
theorem dX9_clause_115 : decode cX9_clause 115 = .ok (.aload_n 1, 1) := by decide +kernel
theorem dX9_clause_116 : decode cX9_clause 116 = .ok (.iconst 0, 1) := by decide +kernel
theorem dX9_clause_117 : decode cX9_clause 117 = .ok (.invokevirtual 36, 3) := by decide +kernel
theorem dX9_clause_120 : decode cX9_clause 120 = .ok (.ifCond .ne 5, 3) := by decide +kernel
theorem dX9_clause_123 : decode cX9_clause 123 = .ok (.iconst 0, 1) := by decide +kernel
theorem dX9_clause_124 : decode cX9_clause 124 = .ok (.ireturn, 1) := by decide +kernel
theorem dX9_clause_125 : decode cX9_clause 125 = .ok (.aload_n 0, 1) := by decide +kernel
theorem dX9_clause_126 : decode cX9_clause 126 = .ok (.bipush (-59), 2) := by decide +kernel
theorem dX9_clause_128 : decode cX9_clause 128 = .ok (.invokevirtual 45, 3) := by decide +kernel
theorem dX9_clause_131 : decode cX9_clause 131 = .ok (.iload 4, 2) := by decide +kernel
theorem dX9_clause_133 : decode cX9_clause 133 = .ok (.ifCond .lt 24, 3) := by decide +kernel
theorem dX9_clause_136 : decode cX9_clause 136 = .ok (.iload 4, 2) := by decide +kernel
theorem dX9_clause_138 : decode cX9_clause 138 = .ok (.aload_n 0, 1) := by decide +kernel
theorem dX9_clause_139 : decode cX9_clause 139 = .ok (.getfield 11, 3) := by decide +kernel
theorem dX9_clause_142 : decode cX9_clause 142 = .ok (.arraylength, 1) := by decide +kernel
theorem dX9_clause_143 : decode cX9_clause 143 = .ok (.if_icmp .ge 14, 3) := by decide +kernel
theorem dX9_clause_146 : decode cX9_clause 146 = .ok (.aload_n 0, 1) := by decide +kernel
theorem dX9_clause_147 : decode cX9_clause 147 = .ok (.getfield 11, 3) := by decide +kernel
theorem dX9_clause_150 : decode cX9_clause 150 = .ok (.iload 4, 2) := by decide +kernel
theorem dX9_clause_152 : decode cX9_clause 152 = .ok (.aload_n 0, 1) := by decide +kernel
theorem dX9_clause_153 : decode cX9_clause 153 = .ok (.getfield 17, 3) := by decide +kernel
theorem dX9_clause_156 : decode cX9_clause 156 = .ok (.iastore, 1) := by decide +kernel
theorem dX9_clause_157 : decode cX9_clause 157 = .ok (.iconst 1, 1) := by decide +kernel
theorem dX9_clause_158 : decode cX9_clause 158 = .ok (.ireturn, 1) := by decide +kernel
theorem dX9_isComparing_0 : decode cX9_isComparing 0 = .ok (.iload_n 0, 1) := by decide +kernel
theorem dX9_isComparing_1 : decode cX9_isComparing 1 = .ok (.bipush 61, 2) := by decide +kernel
theorem dX9_isComparing_3 : decode cX9_isComparing 3 = .ok (.if_icmp .eq 15, 3) := by decide +kernel
theorem dX9_isComparing_6 : decode cX9_isComparing 6 = .ok (.iload_n 0, 1) := by decide +kernel
theorem dX9_isComparing_7 : decode cX9_isComparing 7 = .ok (.bipush 60, 2) := by decide +kernel
theorem dX9_isComparing_9 : decode cX9_isComparing 9 = .ok (.if_icmp .eq 9, 3) := by decide +kernel
theorem dX9_isComparing_12 : decode cX9_isComparing 12 = .ok (.iload_n 0, 1) := by decide +kernel
theorem dX9_isComparing_13 : decode cX9_isComparing 13 = .ok (.bipush 62, 2) := by decide +kernel
theorem dX9_isComparing_15 : decode cX9_isComparing 15 = .ok (.if_icmp .ne 7, 3) := by decide +kernel
theorem dX9_isComparing_18 : decode cX9_isComparing 18 = .ok (.iconst 1, 1) := by decide +kernel
theorem dX9_isComparing_19 : decode cX9_isComparing 19 = .ok (.goto 4, 3) := by decide +kernel
theorem dX9_isComparing_22 : decode cX9_isComparing 22 = .ok (.iconst 0, 1) := by decide +kernel
theorem dX9_isComparing_23 : decode cX9_isComparing 23 = .ok (.ireturn, 1) := by decide +kernel
theorem dX9_condition_0 : decode cX9_condition 0 = .ok (.iconst 0, 1) := by decide +kernel
theorem dX9_condition_1 : decode cX9_condition 1 = .ok (.istore 4, 2) := by decide +kernel
theorem dX9_condition_3 : decode cX9_condition 3 = .ok (.iconst 0, 1) := by decide +kernel
theorem dX9_condition_4 : decode cX9_condition 4 = .ok (.istore 5, 2) := by decide +kernel
theorem dX9_condition_6 : decode cX9_condition 6 = .ok (.iconst 0, 1) := by decide +kernel
theorem dX9_condition_7 : decode cX9_condition 7 = .ok (.istore 6, 2) := by decide +kernel
theorem dX9_condition_9 : decode cX9_condition 9 = .ok (.iload 6, 2) := by decide +kernel
theorem dX9_condition_11 : decode cX9_condition 11 = .ok (.sipush 160, 3) := by decide +kernel
theorem dX9_condition_14 : decode cX9_condition 14 = .ok (.if_icmp .ge 112, 3) := by decide +kernel
theorem dX9_condition_17 : decode cX9_condition 17 = .ok (.aload_n 0, 1) := by decide +kernel
theorem dX9_condition_18 : decode cX9_condition 18 = .ok (.aload_n 1, 1) := by decide +kernel
theorem dX9_condition_19 : decode cX9_condition 19 = .ok (.iload_n 2, 1) := by decide +kernel
theorem dX9_condition_20 : decode cX9_condition 20 = .ok (.iload_n 3, 1) := by decide +kernel
theorem dX9_condition_21 : decode cX9_condition 21 = .ok (.ifCond .eq 12, 3) := by decide +kernel
theorem dX9_condition_24 : decode cX9_condition 24 = .ok (.iload 6, 2) := by decide +kernel
theorem dX9_condition_26 : decode cX9_condition 26 = .ok (.ifCond .ne 7, 3) := by decide +kernel
theorem dX9_condition_29 : decode cX9_condition 29 = .ok (.iconst 1, 1) := by decide +kernel
theorem dX9_condition_30 : decode cX9_condition 30 = .ok (.goto 4, 3) := by decide +kernel
theorem dX9_condition_33 : decode cX9_condition 33 = .ok (.iconst 0, 1) := by decide +kernel
theorem dX9_condition_34 : decode cX9_condition 34 = .ok (.invokevirtual 53, 3) := by decide +kernel
theorem dX9_condition_37 : decode cX9_condition 37 = .ok (.ifCond .ne 5, 3) := by decide +kernel
theorem dX9_condition_40 : decode cX9_condition 40 = .ok (.iconst 0, 1) := by decide +kernel
theorem dX9_condition_41 : decode cX9_condition 41 = .ok (.ireturn, 1) := by decide +kernel
theorem dX9_condition_42 : decode cX9_condition 42 = .ok (.iload 5, 2) := by decide +kernel
theorem dX9_condition_44 : decode cX9_condition 44 = .ok (.ifCond .eq 9, 3) := by decide +kernel
theorem dX9_condition_47 : decode cX9_condition 47 = .ok (.aload_n 0, 1) := by decide +kernel
theorem dX9_condition_48 : decode cX9_condition 48 = .ok (.bipush (-38), 2) := by decide +kernel
theorem dX9_condition_50 : decode cX9_condition 50 = .ok (.invokevirtual 45, 3) := by decide +kernel
theorem dX9_condition_53 : decode cX9_condition 53 = .ok (.aload_n 1, 1) := by decide +kernel
theorem dX9_condition_54 : decode cX9_condition 54 = .ok (.invokevirtual 32, 3) := by decide +kernel
theorem dX9_condition_57 : decode cX9_condition 57 = .ok (.istore 7, 2) := by decide +kernel
theorem dX9_condition_59 : decode cX9_condition 59 = .ok (.iload 7, 2) := by decide +kernel
theorem dX9_condition_61 : decode cX9_condition 61 = .ok (.bipush 38, 2) := by decide +kernel
theorem dX9_condition_63 : decode cX9_condition 63 = .ok (.if_icmp .ne 7, 3) := by decide +kernel
theorem dX9_condition_66 : decode cX9_condition 66 = .ok (.iconst 1, 1) := by decide +kernel
theorem dX9_condition_67 : decode cX9_condition 67 = .ok (.goto 4, 3) := by decide +kernel
theorem dX9_condition_70 : decode cX9_condition 70 = .ok (.iconst 0, 1) := by decide +kernel
theorem dX9_condition_71 : decode cX9_condition 71 = .ok (.istore 5, 2) := by decide +kernel
theorem dX9_condition_73 : decode cX9_condition 73 = .ok (.iload 5, 2) := by decide +kernel
theorem dX9_condition_75 : decode cX9_condition 75 = .ok (.ifCond .ne 35, 3) := by decide +kernel
theorem dX9_condition_78 : decode cX9_condition 78 = .ok (.iload 4, 2) := by decide +kernel
theorem dX9_condition_80 : decode cX9_condition 80 = .ok (.ifCond .eq 9, 3) := by decide +kernel
theorem dX9_condition_83 : decode cX9_condition 83 = .ok (.aload_n 0, 1) := by decide +kernel
theorem dX9_condition_84 : decode cX9_condition 84 = .ok (.bipush (-124), 2) := by decide +kernel
theorem dX9_condition_86 : decode cX9_condition 86 = .ok (.invokevirtual 45, 3) := by decide +kernel
theorem dX9_condition_89 : decode cX9_condition 89 = .ok (.iload 7, 2) := by decide +kernel
theorem dX9_condition_91 : decode cX9_condition 91 = .ok (.bipush 124, 2) := by decide +kernel
theorem dX9_condition_93 : decode cX9_condition 93 = .ok (.if_icmp .ne 7, 3) := by decide +kernel
theorem dX9_condition_96 : decode cX9_condition 96 = .ok (.iconst 1, 1) := by decide +kernel
theorem dX9_condition_97 : decode cX9_condition 97 = .ok (.goto 4, 3) := by decide +kernel
theorem dX9_condition_100 : decode cX9_condition 100 = .ok (.iconst 0, 1) := by decide +kernel
theorem dX9_condition_101 : decode cX9_condition 101 = .ok (.istore 4, 2) := by decide +kernel
theorem dX9_condition_103 : decode cX9_condition 103 = .ok (.iload 4, 2) := by decide +kernel
theorem dX9_condition_105 : decode cX9_condition 105 = .ok (.ifCond .ne 5, 3) := by decide +kernel
theorem dX9_condition_108 : decode cX9_condition 108 = .ok (.iconst 1, 1) := by decide +kernel
theorem dX9_condition_109 : decode cX9_condition 109 = .ok (.ireturn, 1) := by decide +kernel
theorem dX9_condition_110 : decode cX9_condition 110 = .ok (.aload_n 1, 1) := by decide +kernel
theorem dX9_condition_111 : decode cX9_condition 111 = .ok (.dup, 1) := by decide +kernel
theorem dX9_condition_112 : decode cX9_condition 112 = .ok (.getfield 21, 3) := by decide +kernel
theorem dX9_condition_115 : decode cX9_condition 115 = .ok (.iconst 1, 1) := by decide +kernel
theorem dX9_condition_116 : decode cX9_condition 116 = .ok (.iadd, 1) := by decide +kernel
theorem dX9_condition_117 : decode cX9_condition 117 = .ok (.putfield 21, 3) := by decide +kernel
theorem dX9_condition_120 : decode cX9_condition 120 = .ok (.iinc 6 1, 3) := by decide +kernel
theorem dX9_condition_123 : decode cX9_condition 123 = .ok (.goto (-114), 3) := by decide +kernel
theorem dX9_condition_126 : decode cX9_condition 126 = .ok (.iconst 0, 1) := by decide +kernel
theorem dX9_condition_127 : decode cX9_condition 127 = .ok (.ireturn, 1) := by decide +kernel
theorem dX9_unit_0 : decode cX9_unit 0 = .ok (.aload_n 1, 1) := by decide +kernel
theorem dX9_unit_1 : decode cX9_unit 1 = .ok (.invokevirtual 32, 3) := by decide +kernel
theorem dX9_unit_4 : decode cX9_unit 4 = .ok (.istore 4, 2) := by decide +kernel
theorem dX9_unit_6 : decode cX9_unit 6 = .ok (.iload_n 3, 1) := by decide +kernel
theorem dX9_unit_7 : decode cX9_unit 7 = .ok (.ifCond .ne 91, 3) := by decide +kernel
theorem dX9_unit_10 : decode cX9_unit 10 = .ok (.iload 4, 2) := by decide +kernel
theorem dX9_unit_12 : decode cX9_unit 12 = .ok (.bipush 33, 2) := by decide +kernel
theorem dX9_unit_14 : decode cX9_unit 14 = .ok (.if_icmp .eq 10, 3) := by decide +kernel
theorem dX9_unit_17 : decode cX9_unit 17 = .ok (.iload 4, 2) := by decide +kernel
theorem dX9_unit_19 : decode cX9_unit 19 = .ok (.bipush 40, 2) := by decide +kernel
theorem dX9_unit_21 : decode cX9_unit 21 = .ok (.if_icmp .ne 77, 3) := by decide +kernel
theorem dX9_unit_24 : decode cX9_unit 24 = .ok (.iload_n 2, 1) := by decide +kernel
theorem dX9_unit_25 : decode cX9_unit 25 = .ok (.bipush 6, 2) := by decide +kernel
theorem dX9_unit_27 : decode cX9_unit 27 = .ok (.if_icmp .lt 5, 3) := by decide +kernel
theorem dX9_unit_30 : decode cX9_unit 30 = .ok (.iconst 0, 1) := by decide +kernel
theorem dX9_unit_31 : decode cX9_unit 31 = .ok (.ireturn, 1) := by decide +kernel
theorem dX9_unit_32 : decode cX9_unit 32 = .ok (.aload_n 1, 1) := by decide +kernel
theorem dX9_unit_33 : decode cX9_unit 33 = .ok (.dup, 1) := by decide +kernel
theorem dX9_unit_34 : decode cX9_unit 34 = .ok (.getfield 21, 3) := by decide +kernel
theorem dX9_unit_37 : decode cX9_unit 37 = .ok (.iconst 1, 1) := by decide +kernel
theorem dX9_unit_38 : decode cX9_unit 38 = .ok (.iadd, 1) := by decide +kernel
theorem dX9_unit_39 : decode cX9_unit 39 = .ok (.putfield 21, 3) := by decide +kernel
theorem dX9_unit_42 : decode cX9_unit 42 = .ok (.iload 4, 2) := by decide +kernel
theorem dX9_unit_44 : decode cX9_unit 44 = .ok (.bipush 40, 2) := by decide +kernel
theorem dX9_unit_46 : decode cX9_unit 46 = .ok (.if_icmp .ne 30, 3) := by decide +kernel
theorem dX9_unit_49 : decode cX9_unit 49 = .ok (.aload_n 0, 1) := by decide +kernel
theorem dX9_unit_50 : decode cX9_unit 50 = .ok (.aload_n 1, 1) := by decide +kernel
theorem dX9_unit_51 : decode cX9_unit 51 = .ok (.iload_n 2, 1) := by decide +kernel
theorem dX9_unit_52 : decode cX9_unit 52 = .ok (.iconst 1, 1) := by decide +kernel
theorem dX9_unit_53 : decode cX9_unit 53 = .ok (.iadd, 1) := by decide +kernel
theorem dX9_unit_54 : decode cX9_unit 54 = .ok (.iconst 0, 1) := by decide +kernel
theorem dX9_unit_55 : decode cX9_unit 55 = .ok (.invokevirtual 49, 3) := by decide +kernel
theorem dX9_unit_58 : decode cX9_unit 58 = .ok (.ifCond .eq 16, 3) := by decide +kernel
theorem dX9_unit_61 : decode cX9_unit 61 = .ok (.aload_n 1, 1) := by decide +kernel
theorem dX9_unit_62 : decode cX9_unit 62 = .ok (.bipush 41, 2) := by decide +kernel
theorem dX9_unit_64 : decode cX9_unit 64 = .ok (.invokevirtual 28, 3) := by decide +kernel
theorem dX9_unit_67 : decode cX9_unit 67 = .ok (.ifCond .eq 7, 3) := by decide +kernel
theorem dX9_unit_70 : decode cX9_unit 70 = .ok (.iconst 1, 1) := by decide +kernel
theorem dX9_unit_71 : decode cX9_unit 71 = .ok (.goto 4, 3) := by decide +kernel
theorem dX9_unit_74 : decode cX9_unit 74 = .ok (.iconst 0, 1) := by decide +kernel
theorem dX9_unit_75 : decode cX9_unit 75 = .ok (.ireturn, 1) := by decide +kernel
theorem dX9_unit_76 : decode cX9_unit 76 = .ok (.aload_n 0, 1) := by decide +kernel
theorem dX9_unit_77 : decode cX9_unit 77 = .ok (.aload_n 1, 1) := by decide +kernel
theorem dX9_unit_78 : decode cX9_unit 78 = .ok (.iload_n 2, 1) := by decide +kernel
theorem dX9_unit_79 : decode cX9_unit 79 = .ok (.iconst 1, 1) := by decide +kernel
theorem dX9_unit_80 : decode cX9_unit 80 = .ok (.iadd, 1) := by decide +kernel
theorem dX9_unit_81 : decode cX9_unit 81 = .ok (.iconst 0, 1) := by decide +kernel
theorem dX9_unit_82 : decode cX9_unit 82 = .ok (.invokevirtual 53, 3) := by decide +kernel
theorem dX9_unit_85 : decode cX9_unit 85 = .ok (.ifCond .ne 5, 3) := by decide +kernel
theorem dX9_unit_88 : decode cX9_unit 88 = .ok (.iconst 0, 1) := by decide +kernel
theorem dX9_unit_89 : decode cX9_unit 89 = .ok (.ireturn, 1) := by decide +kernel
theorem dX9_unit_90 : decode cX9_unit 90 = .ok (.aload_n 0, 1) := by decide +kernel
theorem dX9_unit_91 : decode cX9_unit 91 = .ok (.bipush (-33), 2) := by decide +kernel
theorem dX9_unit_93 : decode cX9_unit 93 = .ok (.invokevirtual 45, 3) := by decide +kernel
theorem dX9_unit_96 : decode cX9_unit 96 = .ok (.iconst 1, 1) := by decide +kernel
theorem dX9_unit_97 : decode cX9_unit 97 = .ok (.ireturn, 1) := by decide +kernel
theorem dX9_unit_98 : decode cX9_unit 98 = .ok (.iload_n 3, 1) := by decide +kernel
theorem dX9_unit_99 : decode cX9_unit 99 = .ok (.ifCond .ne 14, 3) := by decide +kernel
theorem dX9_unit_102 : decode cX9_unit 102 = .ok (.aload_n 0, 1) := by decide +kernel
theorem dX9_unit_103 : decode cX9_unit 103 = .ok (.aload_n 1, 1) := by decide +kernel
theorem dX9_unit_104 : decode cX9_unit 104 = .ok (.iload_n 2, 1) := by decide +kernel
theorem dX9_unit_105 : decode cX9_unit 105 = .ok (.invokevirtual 36, 3) := by decide +kernel
theorem dX9_unit_108 : decode cX9_unit 108 = .ok (.ifCond .ne 5, 3) := by decide +kernel
theorem dX9_unit_111 : decode cX9_unit 111 = .ok (.iconst 0, 1) := by decide +kernel
theorem dX9_unit_112 : decode cX9_unit 112 = .ok (.ireturn, 1) := by decide +kernel
theorem dX9_unit_113 : decode cX9_unit 113 = .ok (.aload_n 1, 1) := by decide +kernel
theorem dX9_unit_114 : decode cX9_unit 114 = .ok (.invokevirtual 32, 3) := by decide +kernel
theorem dX9_unit_117 : decode cX9_unit 117 = .ok (.istore 5, 2) := by decide +kernel
theorem dX9_unit_119 : decode cX9_unit 119 = .ok (.iload 5, 2) := by decide +kernel
theorem dX9_unit_121 : decode cX9_unit 121 = .ok (.invokestatic 40, 3) := by decide +kernel
theorem dX9_unit_124 : decode cX9_unit 124 = .ok (.ifCond .ne 5, 3) := by decide +kernel
theorem dX9_unit_127 : decode cX9_unit 127 = .ok (.iconst 0, 1) := by decide +kernel
theorem dX9_unit_128 : decode cX9_unit 128 = .ok (.ireturn, 1) := by decide +kernel
theorem dX9_unit_129 : decode cX9_unit 129 = .ok (.aload_n 1, 1) := by decide +kernel
theorem dX9_unit_130 : decode cX9_unit 130 = .ok (.dup, 1) := by decide +kernel
theorem dX9_unit_131 : decode cX9_unit 131 = .ok (.getfield 21, 3) := by decide +kernel
theorem dX9_unit_134 : decode cX9_unit 134 = .ok (.iconst 1, 1) := by decide +kernel
theorem dX9_unit_135 : decode cX9_unit 135 = .ok (.iadd, 1) := by decide +kernel
theorem dX9_unit_136 : decode cX9_unit 136 = .ok (.putfield 21, 3) := by decide +kernel
theorem dX9_unit_139 : decode cX9_unit 139 = .ok (.aload_n 0, 1) := by decide +kernel
theorem dX9_unit_140 : decode cX9_unit 140 = .ok (.aload_n 1, 1) := by decide +kernel
theorem dX9_unit_141 : decode cX9_unit 141 = .ok (.iload_n 2, 1) := by decide +kernel
theorem dX9_unit_142 : decode cX9_unit 142 = .ok (.invokevirtual 36, 3) := by decide +kernel
theorem dX9_unit_145 : decode cX9_unit 145 = .ok (.ifCond .ne 5, 3) := by decide +kernel
theorem dX9_unit_148 : decode cX9_unit 148 = .ok (.iconst 0, 1) := by decide +kernel
theorem dX9_unit_149 : decode cX9_unit 149 = .ok (.ireturn, 1) := by decide +kernel
theorem dX9_unit_150 : decode cX9_unit 150 = .ok (.aload_n 0, 1) := by decide +kernel
theorem dX9_unit_151 : decode cX9_unit 151 = .ok (.iload 5, 2) := by decide +kernel
theorem dX9_unit_153 : decode cX9_unit 153 = .ok (.ineg, 1) := by decide +kernel
theorem dX9_unit_154 : decode cX9_unit 154 = .ok (.invokevirtual 45, 3) := by decide +kernel
theorem dX9_unit_157 : decode cX9_unit 157 = .ok (.iconst 1, 1) := by decide +kernel
theorem dX9_unit_158 : decode cX9_unit 158 = .ok (.ireturn, 1) := by decide +kernel
theorem dX9_sum_0 : decode cX9_sum 0 = .ok (.iconst 0, 1) := by decide +kernel
theorem dX9_sum_1 : decode cX9_sum 1 = .ok (.istore_n 3, 1) := by decide +kernel
theorem dX9_sum_2 : decode cX9_sum 2 = .ok (.iconst 0, 1) := by decide +kernel
theorem dX9_sum_3 : decode cX9_sum 3 = .ok (.istore 4, 2) := by decide +kernel
theorem dX9_sum_5 : decode cX9_sum 5 = .ok (.iconst 0, 1) := by decide +kernel
theorem dX9_sum_6 : decode cX9_sum 6 = .ok (.istore 5, 2) := by decide +kernel
theorem dX9_sum_8 : decode cX9_sum 8 = .ok (.iload 5, 2) := by decide +kernel
theorem dX9_sum_10 : decode cX9_sum 10 = .ok (.sipush 160, 3) := by decide +kernel
theorem dX9_sum_13 : decode cX9_sum 13 = .ok (.if_icmp .ge 112, 3) := by decide +kernel
theorem dX9_sum_16 : decode cX9_sum 16 = .ok (.aload_n 0, 1) := by decide +kernel
theorem dX9_sum_17 : decode cX9_sum 17 = .ok (.aload_n 1, 1) := by decide +kernel
theorem dX9_sum_18 : decode cX9_sum 18 = .ok (.iload_n 2, 1) := by decide +kernel
theorem dX9_sum_19 : decode cX9_sum 19 = .ok (.invokevirtual 56, 3) := by decide +kernel
theorem dX9_sum_22 : decode cX9_sum 22 = .ok (.ifCond .ne 5, 3) := by decide +kernel
theorem dX9_sum_25 : decode cX9_sum 25 = .ok (.iconst 0, 1) := by decide +kernel
theorem dX9_sum_26 : decode cX9_sum 26 = .ok (.ireturn, 1) := by decide +kernel
theorem dX9_sum_27 : decode cX9_sum 27 = .ok (.iload 4, 2) := by decide +kernel
theorem dX9_sum_29 : decode cX9_sum 29 = .ok (.ifCond .eq 10, 3) := by decide +kernel
theorem dX9_sum_32 : decode cX9_sum 32 = .ok (.aload_n 0, 1) := by decide +kernel
theorem dX9_sum_33 : decode cX9_sum 33 = .ok (.iload 4, 2) := by decide +kernel
theorem dX9_sum_35 : decode cX9_sum 35 = .ok (.ineg, 1) := by decide +kernel
theorem dX9_sum_36 : decode cX9_sum 36 = .ok (.invokevirtual 45, 3) := by decide +kernel
theorem dX9_sum_39 : decode cX9_sum 39 = .ok (.aload_n 1, 1) := by decide +kernel
theorem dX9_sum_40 : decode cX9_sum 40 = .ok (.invokevirtual 32, 3) := by decide +kernel
theorem dX9_sum_43 : decode cX9_sum 43 = .ok (.istore 6, 2) := by decide +kernel
theorem dX9_sum_45 : decode cX9_sum 45 = .ok (.iload 6, 2) := by decide +kernel
theorem dX9_sum_47 : decode cX9_sum 47 = .ok (.bipush 42, 2) := by decide +kernel
theorem dX9_sum_49 : decode cX9_sum 49 = .ok (.if_icmp .eq 10, 3) := by decide +kernel
theorem dX9_sum_52 : decode cX9_sum 52 = .ok (.iload 6, 2) := by decide +kernel
theorem dX9_sum_54 : decode cX9_sum 54 = .ok (.bipush 47, 2) := by decide +kernel
theorem dX9_sum_56 : decode cX9_sum 56 = .ok (.if_icmp .ne 8, 3) := by decide +kernel
theorem dX9_sum_59 : decode cX9_sum 59 = .ok (.iload 6, 2) := by decide +kernel
theorem dX9_sum_61 : decode cX9_sum 61 = .ok (.goto 4, 3) := by decide +kernel
theorem dX9_sum_64 : decode cX9_sum 64 = .ok (.iconst 0, 1) := by decide +kernel
theorem dX9_sum_65 : decode cX9_sum 65 = .ok (.istore 4, 2) := by decide +kernel
theorem dX9_sum_67 : decode cX9_sum 67 = .ok (.iload 4, 2) := by decide +kernel
theorem dX9_sum_69 : decode cX9_sum 69 = .ok (.ifCond .ne 40, 3) := by decide +kernel
theorem dX9_sum_72 : decode cX9_sum 72 = .ok (.iload_n 3, 1) := by decide +kernel
theorem dX9_sum_73 : decode cX9_sum 73 = .ok (.ifCond .eq 9, 3) := by decide +kernel
theorem dX9_sum_76 : decode cX9_sum 76 = .ok (.aload_n 0, 1) := by decide +kernel
theorem dX9_sum_77 : decode cX9_sum 77 = .ok (.iload_n 3, 1) := by decide +kernel
theorem dX9_sum_78 : decode cX9_sum 78 = .ok (.ineg, 1) := by decide +kernel
theorem dX9_sum_79 : decode cX9_sum 79 = .ok (.invokevirtual 45, 3) := by decide +kernel
theorem dX9_sum_82 : decode cX9_sum 82 = .ok (.iload 6, 2) := by decide +kernel
theorem dX9_sum_84 : decode cX9_sum 84 = .ok (.bipush 43, 2) := by decide +kernel
theorem dX9_sum_86 : decode cX9_sum 86 = .ok (.if_icmp .eq 10, 3) := by decide +kernel
theorem dX9_sum_89 : decode cX9_sum 89 = .ok (.iload 6, 2) := by decide +kernel
theorem dX9_sum_91 : decode cX9_sum 91 = .ok (.bipush 45, 2) := by decide +kernel
theorem dX9_sum_93 : decode cX9_sum 93 = .ok (.if_icmp .ne 8, 3) := by decide +kernel
theorem dX9_sum_96 : decode cX9_sum 96 = .ok (.iload 6, 2) := by decide +kernel
theorem dX9_sum_98 : decode cX9_sum 98 = .ok (.goto 4, 3) := by decide +kernel
theorem dX9_sum_101 : decode cX9_sum 101 = .ok (.iconst 0, 1) := by decide +kernel
theorem dX9_sum_102 : decode cX9_sum 102 = .ok (.istore_n 3, 1) := by decide +kernel
theorem dX9_sum_103 : decode cX9_sum 103 = .ok (.iload_n 3, 1) := by decide +kernel
theorem dX9_sum_104 : decode cX9_sum 104 = .ok (.ifCond .ne 5, 3) := by decide +kernel
theorem dX9_sum_107 : decode cX9_sum 107 = .ok (.iconst 1, 1) := by decide +kernel
theorem dX9_sum_108 : decode cX9_sum 108 = .ok (.ireturn, 1) := by decide +kernel
theorem dX9_sum_109 : decode cX9_sum 109 = .ok (.aload_n 1, 1) := by decide +kernel
theorem dX9_sum_110 : decode cX9_sum 110 = .ok (.dup, 1) := by decide +kernel
theorem dX9_sum_111 : decode cX9_sum 111 = .ok (.getfield 21, 3) := by decide +kernel
theorem dX9_sum_114 : decode cX9_sum 114 = .ok (.iconst 1, 1) := by decide +kernel
theorem dX9_sum_115 : decode cX9_sum 115 = .ok (.iadd, 1) := by decide +kernel
theorem dX9_sum_116 : decode cX9_sum 116 = .ok (.putfield 21, 3) := by decide +kernel
theorem dX9_sum_119 : decode cX9_sum 119 = .ok (.iinc 5 1, 3) := by decide +kernel
theorem dX9_sum_122 : decode cX9_sum 122 = .ok (.goto (-114), 3) := by decide +kernel
theorem dX9_sum_125 : decode cX9_sum 125 = .ok (.iconst 0, 1) := by decide +kernel
theorem dX9_sum_126 : decode cX9_sum 126 = .ok (.ireturn, 1) := by decide +kernel
theorem dX9_atom_0 : decode cX9_atom 0 = .ok (.aload_n 1, 1) := by decide +kernel
theorem dX9_atom_1 : decode cX9_atom 1 = .ok (.invokevirtual 32, 3) := by decide +kernel
theorem dX9_atom_4 : decode cX9_atom 4 = .ok (.istore_n 3, 1) := by decide +kernel
theorem dX9_atom_5 : decode cX9_atom 5 = .ok (.iload_n 3, 1) := by decide +kernel
theorem dX9_atom_6 : decode cX9_atom 6 = .ok (.bipush 91, 2) := by decide +kernel
theorem dX9_atom_8 : decode cX9_atom 8 = .ok (.if_icmp .ne 47, 3) := by decide +kernel
theorem dX9_atom_11 : decode cX9_atom 11 = .ok (.iload_n 2, 1) := by decide +kernel
theorem dX9_atom_12 : decode cX9_atom 12 = .ok (.bipush 6, 2) := by decide +kernel
theorem dX9_atom_14 : decode cX9_atom 14 = .ok (.if_icmp .lt 5, 3) := by decide +kernel
theorem dX9_atom_17 : decode cX9_atom 17 = .ok (.iconst 0, 1) := by decide +kernel
theorem dX9_atom_18 : decode cX9_atom 18 = .ok (.ireturn, 1) := by decide +kernel
theorem dX9_atom_19 : decode cX9_atom 19 = .ok (.aload_n 1, 1) := by decide +kernel
theorem dX9_atom_20 : decode cX9_atom 20 = .ok (.dup, 1) := by decide +kernel
theorem dX9_atom_21 : decode cX9_atom 21 = .ok (.getfield 21, 3) := by decide +kernel
theorem dX9_atom_24 : decode cX9_atom 24 = .ok (.iconst 1, 1) := by decide +kernel
theorem dX9_atom_25 : decode cX9_atom 25 = .ok (.iadd, 1) := by decide +kernel
theorem dX9_atom_26 : decode cX9_atom 26 = .ok (.putfield 21, 3) := by decide +kernel
theorem dX9_atom_29 : decode cX9_atom 29 = .ok (.aload_n 0, 1) := by decide +kernel
theorem dX9_atom_30 : decode cX9_atom 30 = .ok (.aload_n 1, 1) := by decide +kernel
theorem dX9_atom_31 : decode cX9_atom 31 = .ok (.iload_n 2, 1) := by decide +kernel
theorem dX9_atom_32 : decode cX9_atom 32 = .ok (.iconst 1, 1) := by decide +kernel
theorem dX9_atom_33 : decode cX9_atom 33 = .ok (.iadd, 1) := by decide +kernel
theorem dX9_atom_34 : decode cX9_atom 34 = .ok (.invokevirtual 36, 3) := by decide +kernel
theorem dX9_atom_37 : decode cX9_atom 37 = .ok (.ifCond .eq 16, 3) := by decide +kernel
theorem dX9_atom_40 : decode cX9_atom 40 = .ok (.aload_n 1, 1) := by decide +kernel
theorem dX9_atom_41 : decode cX9_atom 41 = .ok (.bipush 93, 2) := by decide +kernel
theorem dX9_atom_43 : decode cX9_atom 43 = .ok (.invokevirtual 28, 3) := by decide +kernel
theorem dX9_atom_46 : decode cX9_atom 46 = .ok (.ifCond .eq 7, 3) := by decide +kernel
theorem dX9_atom_49 : decode cX9_atom 49 = .ok (.iconst 1, 1) := by decide +kernel
theorem dX9_atom_50 : decode cX9_atom 50 = .ok (.goto 4, 3) := by decide +kernel
theorem dX9_atom_53 : decode cX9_atom 53 = .ok (.iconst 0, 1) := by decide +kernel
theorem dX9_atom_54 : decode cX9_atom 54 = .ok (.ireturn, 1) := by decide +kernel
theorem dX9_atom_55 : decode cX9_atom 55 = .ok (.iload_n 3, 1) := by decide +kernel
theorem dX9_atom_56 : decode cX9_atom 56 = .ok (.bipush 103, 2) := by decide +kernel
theorem dX9_atom_58 : decode cX9_atom 58 = .ok (.if_icmp .eq 27, 3) := by decide +kernel
theorem dX9_atom_61 : decode cX9_atom 61 = .ok (.iload_n 3, 1) := by decide +kernel
theorem dX9_atom_62 : decode cX9_atom 62 = .ok (.bipush 112, 2) := by decide +kernel
theorem dX9_atom_64 : decode cX9_atom 64 = .ok (.if_icmp .eq 21, 3) := by decide +kernel
theorem dX9_atom_67 : decode cX9_atom 67 = .ok (.iload_n 3, 1) := by decide +kernel
theorem dX9_atom_68 : decode cX9_atom 68 = .ok (.bipush 116, 2) := by decide +kernel
theorem dX9_atom_70 : decode cX9_atom 70 = .ok (.if_icmp .eq 15, 3) := by decide +kernel
theorem dX9_atom_73 : decode cX9_atom 73 = .ok (.iload_n 3, 1) := by decide +kernel
theorem dX9_atom_74 : decode cX9_atom 74 = .ok (.bipush 115, 2) := by decide +kernel
theorem dX9_atom_76 : decode cX9_atom 76 = .ok (.if_icmp .eq 9, 3) := by decide +kernel
theorem dX9_atom_79 : decode cX9_atom 79 = .ok (.iload_n 3, 1) := by decide +kernel
theorem dX9_atom_80 : decode cX9_atom 80 = .ok (.bipush 110, 2) := by decide +kernel
theorem dX9_atom_82 : decode cX9_atom 82 = .ok (.if_icmp .ne 21, 3) := by decide +kernel
theorem dX9_atom_85 : decode cX9_atom 85 = .ok (.aload_n 1, 1) := by decide +kernel
theorem dX9_atom_86 : decode cX9_atom 86 = .ok (.dup, 1) := by decide +kernel
theorem dX9_atom_87 : decode cX9_atom 87 = .ok (.getfield 21, 3) := by decide +kernel
theorem dX9_atom_90 : decode cX9_atom 90 = .ok (.iconst 1, 1) := by decide +kernel
theorem dX9_atom_91 : decode cX9_atom 91 = .ok (.iadd, 1) := by decide +kernel
theorem dX9_atom_92 : decode cX9_atom 92 = .ok (.putfield 21, 3) := by decide +kernel
theorem dX9_atom_95 : decode cX9_atom 95 = .ok (.aload_n 0, 1) := by decide +kernel
theorem dX9_atom_96 : decode cX9_atom 96 = .ok (.iload_n 3, 1) := by decide +kernel
theorem dX9_atom_97 : decode cX9_atom 97 = .ok (.ineg, 1) := by decide +kernel
theorem dX9_atom_98 : decode cX9_atom 98 = .ok (.invokevirtual 45, 3) := by decide +kernel
theorem dX9_atom_101 : decode cX9_atom 101 = .ok (.iconst 1, 1) := by decide +kernel
theorem dX9_atom_102 : decode cX9_atom 102 = .ok (.ireturn, 1) := by decide +kernel
theorem dX9_atom_103 : decode cX9_atom 103 = .ok (.aload_n 1, 1) := by decide +kernel
theorem dX9_atom_104 : decode cX9_atom 104 = .ok (.iconst 4, 1) := by decide +kernel
theorem dX9_atom_105 : decode cX9_atom 105 = .ok (.invokevirtual 59, 3) := by decide +kernel
theorem dX9_atom_108 : decode cX9_atom 108 = .ok (.istore 4, 2) := by decide +kernel
theorem dX9_atom_110 : decode cX9_atom 110 = .ok (.iload 4, 2) := by decide +kernel
theorem dX9_atom_112 : decode cX9_atom 112 = .ok (.iconst (-1), 1) := by decide +kernel
theorem dX9_atom_113 : decode cX9_atom 113 = .ok (.if_icmp .ne 5, 3) := by decide +kernel
theorem dX9_atom_116 : decode cX9_atom 116 = .ok (.iconst 0, 1) := by decide +kernel
theorem dX9_atom_117 : decode cX9_atom 117 = .ok (.ireturn, 1) := by decide +kernel
theorem dX9_atom_118 : decode cX9_atom 118 = .ok (.aload_n 0, 1) := by decide +kernel
theorem dX9_atom_119 : decode cX9_atom 119 = .ok (.iload 4, 2) := by decide +kernel
theorem dX9_atom_121 : decode cX9_atom 121 = .ok (.invokevirtual 45, 3) := by decide +kernel
theorem dX9_atom_124 : decode cX9_atom 124 = .ok (.iconst 1, 1) := by decide +kernel
theorem dX9_atom_125 : decode cX9_atom 125 = .ok (.ireturn, 1) := by decide +kernel
theorem dX10_init_0 : decode cX10_init 0 = .ok (.aload_n 0, 1) := by decide +kernel
theorem dX10_init_1 : decode cX10_init 1 = .ok (.invokespecial 1, 3) := by decide +kernel
theorem dX10_init_4 : decode cX10_init 4 = .ok (.aload_n 0, 1) := by decide +kernel
theorem dX10_init_5 : decode cX10_init 5 = .ok (.new 7, 3) := by decide +kernel
theorem dX10_init_8 : decode cX10_init 8 = .ok (.dup, 1) := by decide +kernel
theorem dX10_init_9 : decode cX10_init 9 = .ok (.invokespecial 9, 3) := by decide +kernel
theorem dX10_init_12 : decode cX10_init 12 = .ok (.putfield 10, 3) := by decide +kernel
theorem dX10_init_15 : decode cX10_init 15 = .ok (.aload_n 0, 1) := by decide +kernel
theorem dX10_init_16 : decode cX10_init 16 = .ok (.new 16, 3) := by decide +kernel
theorem dX10_init_19 : decode cX10_init 19 = .ok (.dup, 1) := by decide +kernel
theorem dX10_init_20 : decode cX10_init 20 = .ok (.invokespecial 18, 3) := by decide +kernel
theorem dX10_init_23 : decode cX10_init 23 = .ok (.putfield 19, 3) := by decide +kernel
theorem dX10_init_26 : decode cX10_init 26 = .ok (.aload_n 0, 1) := by decide +kernel
theorem dX10_init_27 : decode cX10_init 27 = .ok (.new 23, 3) := by decide +kernel
theorem dX10_init_30 : decode cX10_init 30 = .ok (.dup, 1) := by decide +kernel
theorem dX10_init_31 : decode cX10_init 31 = .ok (.invokespecial 25, 3) := by decide +kernel
theorem dX10_init_34 : decode cX10_init 34 = .ok (.putfield 26, 3) := by decide +kernel
theorem dX10_init_37 : decode cX10_init 37 = .ok (.aload_n 0, 1) := by decide +kernel
theorem dX10_init_38 : decode cX10_init 38 = .ok (.iconst 4, 1) := by decide +kernel
theorem dX10_init_39 : decode cX10_init 39 = .ok (.anewarray 30, 3) := by decide +kernel
theorem dX10_init_42 : decode cX10_init 42 = .ok (.putfield 32, 3) := by decide +kernel
theorem dX10_init_45 : decode cX10_init 45 = .ok (.aload_n 0, 1) := by decide +kernel
theorem dX10_init_46 : decode cX10_init 46 = .ok (.iconst 0, 1) := by decide +kernel
theorem dX10_init_47 : decode cX10_init 47 = .ok (.putfield 36, 3) := by decide +kernel
theorem dX10_init_50 : decode cX10_init 50 = .ok (.aload_n 0, 1) := by decide +kernel
theorem dX10_init_51 : decode cX10_init 51 = .ok (.iconst (-1), 1) := by decide +kernel
theorem dX10_init_52 : decode cX10_init 52 = .ok (.putfield 40, 3) := by decide +kernel
theorem dX10_init_55 : decode cX10_init 55 = .ok (.aload_n 0, 1) := by decide +kernel
theorem dX10_init_56 : decode cX10_init 56 = .ok (.new 43, 3) := by decide +kernel
theorem dX10_init_59 : decode cX10_init 59 = .ok (.dup, 1) := by decide +kernel
theorem dX10_init_60 : decode cX10_init 60 = .ok (.invokespecial 45, 3) := by decide +kernel
theorem dX10_init_63 : decode cX10_init 63 = .ok (.putfield 46, 3) := by decide +kernel
theorem dX10_init_66 : decode cX10_init 66 = .ok (.aload_n 0, 1) := by decide +kernel
theorem dX10_init_67 : decode cX10_init 67 = .ok (.new 43, 3) := by decide +kernel
theorem dX10_init_70 : decode cX10_init 70 = .ok (.dup, 1) := by decide +kernel
theorem dX10_init_71 : decode cX10_init 71 = .ok (.invokespecial 45, 3) := by decide +kernel
theorem dX10_init_74 : decode cX10_init 74 = .ok (.putfield 50, 3) := by decide +kernel
theorem dX10_init_77 : decode cX10_init 77 = .ok (.aload_n 0, 1) := by decide +kernel
theorem dX10_init_78 : decode cX10_init 78 = .ok (.new 53, 3) := by decide +kernel
theorem dX10_init_81 : decode cX10_init 81 = .ok (.dup, 1) := by decide +kernel
theorem dX10_init_82 : decode cX10_init 82 = .ok (.invokespecial 55, 3) := by decide +kernel
theorem dX10_init_85 : decode cX10_init 85 = .ok (.putfield 56, 3) := by decide +kernel
theorem dX10_init_88 : decode cX10_init 88 = .ok (.aload_n 0, 1) := by decide +kernel
theorem dX10_init_89 : decode cX10_init 89 = .ok (.new 60, 3) := by decide +kernel
theorem dX10_init_92 : decode cX10_init 92 = .ok (.dup, 1) := by decide +kernel
theorem dX10_init_93 : decode cX10_init 93 = .ok (.invokespecial 62, 3) := by decide +kernel
theorem dX10_init_96 : decode cX10_init 96 = .ok (.putfield 63, 3) := by decide +kernel
theorem dX10_init_99 : decode cX10_init 99 = .ok (.aload_n 0, 1) := by decide +kernel
theorem dX10_init_100 : decode cX10_init 100 = .ok (.bipush 28, 2) := by decide +kernel
theorem dX10_init_102 : decode cX10_init 102 = .ok (.newarray .int, 2) := by decide +kernel
theorem dX10_init_104 : decode cX10_init 104 = .ok (.putfield 67, 3) := by decide +kernel
theorem dX10_init_107 : decode cX10_init 107 = .ok (.aload_n 0, 1) := by decide +kernel
theorem dX10_init_108 : decode cX10_init 108 = .ok (.iconst 0, 1) := by decide +kernel
theorem dX10_init_109 : decode cX10_init 109 = .ok (.putfield 71, 3) := by decide +kernel
theorem dX10_init_112 : decode cX10_init 112 = .ok (.aload_n 0, 1) := by decide +kernel
theorem dX10_init_113 : decode cX10_init 113 = .ok (.new 75, 3) := by decide +kernel
theorem dX10_init_116 : decode cX10_init 116 = .ok (.dup, 1) := by decide +kernel
theorem dX10_init_117 : decode cX10_init 117 = .ok (.invokespecial 77, 3) := by decide +kernel
theorem dX10_init_120 : decode cX10_init 120 = .ok (.putfield 78, 3) := by decide +kernel
theorem dX10_init_123 : decode cX10_init 123 = .ok (.aload_n 0, 1) := by decide +kernel
theorem dX10_init_124 : decode cX10_init 124 = .ok (.new 82, 3) := by decide +kernel
theorem dX10_init_127 : decode cX10_init 127 = .ok (.dup, 1) := by decide +kernel
theorem dX10_init_128 : decode cX10_init 128 = .ok (.invokespecial 84, 3) := by decide +kernel
theorem dX10_init_131 : decode cX10_init 131 = .ok (.putfield 85, 3) := by decide +kernel
theorem dX10_init_134 : decode cX10_init 134 = .ok (.aload_n 0, 1) := by decide +kernel
theorem dX10_init_135 : decode cX10_init 135 = .ok (.new 89, 3) := by decide +kernel
theorem dX10_init_138 : decode cX10_init 138 = .ok (.dup, 1) := by decide +kernel
theorem dX10_init_139 : decode cX10_init 139 = .ok (.invokespecial 91, 3) := by decide +kernel
theorem dX10_init_142 : decode cX10_init 142 = .ok (.putfield 92, 3) := by decide +kernel
theorem dX10_init_145 : decode cX10_init 145 = .ok (.aload_n 0, 1) := by decide +kernel
theorem dX10_init_146 : decode cX10_init 146 = .ok (.bipush 24, 2) := by decide +kernel
theorem dX10_init_148 : decode cX10_init 148 = .ok (.newarray .int, 2) := by decide +kernel
theorem dX10_init_150 : decode cX10_init 150 = .ok (.putfield 96, 3) := by decide +kernel
theorem dX10_init_153 : decode cX10_init 153 = .ok (.aload_n 0, 1) := by decide +kernel
theorem dX10_init_154 : decode cX10_init 154 = .ok (.bipush 24, 2) := by decide +kernel
theorem dX10_init_156 : decode cX10_init 156 = .ok (.newarray .int, 2) := by decide +kernel
theorem dX10_init_158 : decode cX10_init 158 = .ok (.putfield 99, 3) := by decide +kernel
theorem dX10_init_161 : decode cX10_init 161 = .ok (.iconst 0, 1) := by decide +kernel
theorem dX10_init_162 : decode cX10_init 162 = .ok (.istore_n 1, 1) := by decide +kernel
theorem dX10_init_163 : decode cX10_init 163 = .ok (.iload_n 1, 1) := by decide +kernel
theorem dX10_init_164 : decode cX10_init 164 = .ok (.aload_n 0, 1) := by decide +kernel
theorem dX10_init_165 : decode cX10_init 165 = .ok (.getfield 32, 3) := by decide +kernel
theorem dX10_init_168 : decode cX10_init 168 = .ok (.arraylength, 1) := by decide +kernel
theorem dX10_init_169 : decode cX10_init 169 = .ok (.if_icmp .ge 22, 3) := by decide +kernel
theorem dX10_init_172 : decode cX10_init 172 = .ok (.aload_n 0, 1) := by decide +kernel
theorem dX10_init_173 : decode cX10_init 173 = .ok (.getfield 32, 3) := by decide +kernel
theorem dX10_init_176 : decode cX10_init 176 = .ok (.iload_n 1, 1) := by decide +kernel
theorem dX10_init_177 : decode cX10_init 177 = .ok (.new 30, 3) := by decide +kernel
theorem dX10_init_180 : decode cX10_init 180 = .ok (.dup, 1) := by decide +kernel
theorem dX10_init_181 : decode cX10_init 181 = .ok (.invokespecial 102, 3) := by decide +kernel
theorem dX10_init_184 : decode cX10_init 184 = .ok (.aastore, 1) := by decide +kernel
theorem dX10_init_185 : decode cX10_init 185 = .ok (.iinc 1 1, 3) := by decide +kernel
theorem dX10_init_188 : decode cX10_init 188 = .ok (.goto (-25), 3) := by decide +kernel
theorem dX10_init_191 : decode cX10_init 191 = .ok (.return_, 1) := by decide +kernel
theorem dX10_feed_0 : decode cX10_feed 0 = .ok (.iload_n 1, 1) := by decide +kernel
theorem dX10_feed_1 : decode cX10_feed 1 = .ok (.invokestatic 103, 3) := by decide +kernel
theorem dX10_feed_4 : decode cX10_feed 4 = .ok (.iload_n 2, 1) := by decide +kernel
theorem dX10_feed_5 : decode cX10_feed 5 = .ok (.invokestatic 103, 3) := by decide +kernel
theorem dX10_feed_8 : decode cX10_feed 8 = .ok (.iadd, 1) := by decide +kernel
theorem dX10_feed_9 : decode cX10_feed 9 = .ok (.iload_n 3, 1) := by decide +kernel
theorem dX10_feed_10 : decode cX10_feed 10 = .ok (.invokestatic 103, 3) := by decide +kernel
theorem dX10_feed_13 : decode cX10_feed 13 = .ok (.iadd, 1) := by decide +kernel
theorem dX10_feed_14 : decode cX10_feed 14 = .ok (.iload 4, 2) := by decide +kernel
theorem dX10_feed_16 : decode cX10_feed 16 = .ok (.invokestatic 103, 3) := by decide +kernel
theorem dX10_feed_19 : decode cX10_feed 19 = .ok (.iadd, 1) := by decide +kernel
theorem dX10_feed_20 : decode cX10_feed 20 = .ok (.iload 5, 2) := by decide +kernel
theorem dX10_feed_22 : decode cX10_feed 22 = .ok (.invokestatic 103, 3) := by decide +kernel
theorem dX10_feed_25 : decode cX10_feed 25 = .ok (.iadd, 1) := by decide +kernel
theorem dX10_feed_26 : decode cX10_feed 26 = .ok (.istore 6, 2) := by decide +kernel
theorem dX10_feed_28 : decode cX10_feed 28 = .ok (.aload_n 0, 1) := by decide +kernel
theorem dX10_feed_29 : decode cX10_feed 29 = .ok (.getfield 10, 3) := by decide +kernel
theorem dX10_feed_32 : decode cX10_feed 32 = .ok (.getfield 107, 3) := by decide +kernel
theorem dX10_feed_35 : decode cX10_feed 35 = .ok (.iload 6, 2) := by decide +kernel
theorem dX10_feed_37 : decode cX10_feed 37 = .ok (.iadd, 1) := by decide +kernel
theorem dX10_feed_38 : decode cX10_feed 38 = .ok (.sipush 160, 3) := by decide +kernel
theorem dX10_feed_41 : decode cX10_feed 41 = .ok (.if_icmp .le 5, 3) := by decide +kernel
theorem dX10_feed_44 : decode cX10_feed 44 = .ok (.iconst (-1), 1) := by decide +kernel
theorem dX10_feed_45 : decode cX10_feed 45 = .ok (.ireturn, 1) := by decide +kernel
theorem dX10_feed_46 : decode cX10_feed 46 = .ok (.aload_n 0, 1) := by decide +kernel
theorem dX10_feed_47 : decode cX10_feed 47 = .ok (.getfield 10, 3) := by decide +kernel
theorem dX10_feed_50 : decode cX10_feed 50 = .ok (.iload_n 1, 1) := by decide +kernel
theorem dX10_feed_51 : decode cX10_feed 51 = .ok (.invokevirtual 110, 3) := by decide +kernel
theorem dX10_feed_54 : decode cX10_feed 54 = .ok (.aload_n 0, 1) := by decide +kernel
theorem dX10_feed_55 : decode cX10_feed 55 = .ok (.getfield 10, 3) := by decide +kernel
theorem dX10_feed_58 : decode cX10_feed 58 = .ok (.iload_n 2, 1) := by decide +kernel
theorem dX10_feed_59 : decode cX10_feed 59 = .ok (.invokevirtual 110, 3) := by decide +kernel
theorem dX10_feed_62 : decode cX10_feed 62 = .ok (.aload_n 0, 1) := by decide +kernel
theorem dX10_feed_63 : decode cX10_feed 63 = .ok (.getfield 10, 3) := by decide +kernel
theorem dX10_feed_66 : decode cX10_feed 66 = .ok (.iload_n 3, 1) := by decide +kernel
theorem dX10_feed_67 : decode cX10_feed 67 = .ok (.invokevirtual 110, 3) := by decide +kernel
theorem dX10_feed_70 : decode cX10_feed 70 = .ok (.aload_n 0, 1) := by decide +kernel
theorem dX10_feed_71 : decode cX10_feed 71 = .ok (.getfield 10, 3) := by decide +kernel
theorem dX10_feed_74 : decode cX10_feed 74 = .ok (.iload 4, 2) := by decide +kernel
theorem dX10_feed_76 : decode cX10_feed 76 = .ok (.invokevirtual 110, 3) := by decide +kernel
theorem dX10_feed_79 : decode cX10_feed 79 = .ok (.aload_n 0, 1) := by decide +kernel
theorem dX10_feed_80 : decode cX10_feed 80 = .ok (.getfield 10, 3) := by decide +kernel
theorem dX10_feed_83 : decode cX10_feed 83 = .ok (.iload 5, 2) := by decide +kernel
theorem dX10_feed_85 : decode cX10_feed 85 = .ok (.invokevirtual 110, 3) := by decide +kernel
theorem dX10_feed_88 : decode cX10_feed 88 = .ok (.aload_n 0, 1) := by decide +kernel
theorem dX10_feed_89 : decode cX10_feed 89 = .ok (.getfield 10, 3) := by decide +kernel
theorem dX10_feed_92 : decode cX10_feed 92 = .ok (.getfield 107, 3) := by decide +kernel
theorem dX10_feed_95 : decode cX10_feed 95 = .ok (.ireturn, 1) := by decide +kernel
theorem dX10_end_0 : decode cX10_end 0 = .ok (.iload_n 1, 1) := by decide +kernel
theorem dX10_end_1 : decode cX10_end 1 = .ok (.ifCond .lt 14, 3) := by decide +kernel
theorem dX10_end_4 : decode cX10_end 4 = .ok (.iload_n 1, 1) := by decide +kernel
theorem dX10_end_5 : decode cX10_end 5 = .ok (.aload_n 0, 1) := by decide +kernel
theorem dX10_end_6 : decode cX10_end 6 = .ok (.getfield 10, 3) := by decide +kernel
theorem dX10_end_9 : decode cX10_end 9 = .ok (.getfield 107, 3) := by decide +kernel
theorem dX10_end_12 : decode cX10_end 12 = .ok (.if_icmp .le 5, 3) := by decide +kernel
theorem dX10_end_15 : decode cX10_end 15 = .ok (.iconst 0, 1) := by decide +kernel
theorem dX10_end_16 : decode cX10_end 16 = .ok (.ireturn, 1) := by decide +kernel
theorem dX10_end_17 : decode cX10_end 17 = .ok (.aload_n 0, 1) := by decide +kernel
theorem dX10_end_18 : decode cX10_end 18 = .ok (.getfield 10, 3) := by decide +kernel
theorem dX10_end_21 : decode cX10_end 21 = .ok (.iload_n 1, 1) := by decide +kernel
theorem dX10_end_22 : decode cX10_end 22 = .ok (.putfield 107, 3) := by decide +kernel
theorem dX10_end_25 : decode cX10_end 25 = .ok (.iconst 1, 1) := by decide +kernel
theorem dX10_end_26 : decode cX10_end 26 = .ok (.ireturn, 1) := by decide +kernel
theorem dX10_fault_0 : decode cX10_fault 0 = .ok (.iload_n 1, 1) := by decide +kernel
theorem dX10_fault_1 : decode cX10_fault 1 = .ok (.ifCond .ne 19, 3) := by decide +kernel
theorem dX10_fault_4 : decode cX10_fault 4 = .ok (.aload_n 0, 1) := by decide +kernel
theorem dX10_fault_5 : decode cX10_fault 5 = .ok (.getfield 19, 3) := by decide +kernel
theorem dX10_fault_8 : decode cX10_fault 8 = .ok (.aload_n 0, 1) := by decide +kernel
theorem dX10_fault_9 : decode cX10_fault 9 = .ok (.getfield 10, 3) := by decide +kernel
theorem dX10_fault_12 : decode cX10_fault 12 = .ok (.aload_n 0, 1) := by decide +kernel
theorem dX10_fault_13 : decode cX10_fault 13 = .ok (.getfield 50, 3) := by decide +kernel
theorem dX10_fault_16 : decode cX10_fault 16 = .ok (.invokevirtual 114, 3) := by decide +kernel
theorem dX10_fault_19 : decode cX10_fault 19 = .ok (.ireturn, 1) := by decide +kernel
theorem dX10_fault_20 : decode cX10_fault 20 = .ok (.iload_n 1, 1) := by decide +kernel
theorem dX10_fault_21 : decode cX10_fault 21 = .ok (.iconst 1, 1) := by decide +kernel
theorem dX10_fault_22 : decode cX10_fault 22 = .ok (.if_icmp .ne 17, 3) := by decide +kernel
theorem dX10_fault_25 : decode cX10_fault 25 = .ok (.aload_n 0, 1) := by decide +kernel
theorem dX10_fault_26 : decode cX10_fault 26 = .ok (.getfield 26, 3) := by decide +kernel
theorem dX10_fault_29 : decode cX10_fault 29 = .ok (.aload_n 0, 1) := by decide +kernel
theorem dX10_fault_30 : decode cX10_fault 30 = .ok (.getfield 10, 3) := by decide +kernel
theorem dX10_fault_33 : decode cX10_fault 33 = .ok (.invokevirtual 118, 3) := by decide +kernel
theorem dX10_fault_36 : decode cX10_fault 36 = .ok (.goto 5, 3) := by decide +kernel
theorem dX10_fault_39 : decode cX10_fault 39 = .ok (.bipush (-2), 2) := by decide +kernel
theorem dX10_fault_41 : decode cX10_fault 41 = .ok (.ireturn, 1) := by decide +kernel
theorem dX10_text_0 : decode cX10_text 0 = .ok (.iload_n 1, 1) := by decide +kernel
theorem dX10_text_1 : decode cX10_text 1 = .ok (.ifCond .ne 31, 3) := by decide +kernel
theorem dX10_text_4 : decode cX10_text 4 = .ok (.aload_n 0, 1) := by decide +kernel
theorem dX10_text_5 : decode cX10_text 5 = .ok (.getfield 19, 3) := by decide +kernel
theorem dX10_text_8 : decode cX10_text 8 = .ok (.aload_n 0, 1) := by decide +kernel
theorem dX10_text_9 : decode cX10_text 9 = .ok (.getfield 10, 3) := by decide +kernel
theorem dX10_text_12 : decode cX10_text 12 = .ok (.aload_n 0, 1) := by decide +kernel
theorem dX10_text_13 : decode cX10_text 13 = .ok (.getfield 50, 3) := by decide +kernel
theorem dX10_text_16 : decode cX10_text 16 = .ok (.invokevirtual 114, 3) := by decide +kernel
theorem dX10_text_19 : decode cX10_text 19 = .ok (.iconst (-1), 1) := by decide +kernel
theorem dX10_text_20 : decode cX10_text 20 = .ok (.if_icmp .ne 10, 3) := by decide +kernel
theorem dX10_text_23 : decode cX10_text 23 = .ok (.aload_n 0, 1) := by decide +kernel
theorem dX10_text_24 : decode cX10_text 24 = .ok (.invokevirtual 121, 3) := by decide +kernel
theorem dX10_text_27 : decode cX10_text 27 = .ok (.goto 4, 3) := by decide +kernel
theorem dX10_text_30 : decode cX10_text 30 = .ok (.iconst (-1), 1) := by decide +kernel
theorem dX10_text_31 : decode cX10_text 31 = .ok (.ireturn, 1) := by decide +kernel
theorem dX10_text_32 : decode cX10_text 32 = .ok (.iload_n 1, 1) := by decide +kernel
theorem dX10_text_33 : decode cX10_text 33 = .ok (.iconst 1, 1) := by decide +kernel
theorem dX10_text_34 : decode cX10_text 34 = .ok (.if_icmp .ne 27, 3) := by decide +kernel
theorem dX10_text_37 : decode cX10_text 37 = .ok (.aload_n 0, 1) := by decide +kernel
theorem dX10_text_38 : decode cX10_text 38 = .ok (.getfield 26, 3) := by decide +kernel
theorem dX10_text_41 : decode cX10_text 41 = .ok (.aload_n 0, 1) := by decide +kernel
theorem dX10_text_42 : decode cX10_text 42 = .ok (.getfield 10, 3) := by decide +kernel
theorem dX10_text_45 : decode cX10_text 45 = .ok (.invokevirtual 118, 3) := by decide +kernel
theorem dX10_text_48 : decode cX10_text 48 = .ok (.iconst (-1), 1) := by decide +kernel
theorem dX10_text_49 : decode cX10_text 49 = .ok (.if_icmp .ne 10, 3) := by decide +kernel
theorem dX10_text_52 : decode cX10_text 52 = .ok (.aload_n 0, 1) := by decide +kernel
theorem dX10_text_53 : decode cX10_text 53 = .ok (.invokevirtual 125, 3) := by decide +kernel
theorem dX10_text_56 : decode cX10_text 56 = .ok (.goto 4, 3) := by decide +kernel
theorem dX10_text_59 : decode cX10_text 59 = .ok (.iconst (-1), 1) := by decide +kernel
theorem dX10_text_60 : decode cX10_text 60 = .ok (.ireturn, 1) := by decide +kernel
theorem dX10_text_61 : decode cX10_text 61 = .ok (.iconst (-1), 1) := by decide +kernel
theorem dX10_text_62 : decode cX10_text 62 = .ok (.ireturn, 1) := by decide +kernel
theorem dX10_takeGarden_0 : decode cX10_takeGarden 0 = .ok (.aload_n 0, 1) := by decide +kernel
theorem dX10_takeGarden_1 : decode cX10_takeGarden 1 = .ok (.getfield 50, 3) := by decide +kernel
theorem dX10_takeGarden_4 : decode cX10_takeGarden 4 = .ok (.astore_n 1, 1) := by decide +kernel
theorem dX10_takeGarden_5 : decode cX10_takeGarden 5 = .ok (.aload_n 0, 1) := by decide +kernel
theorem dX10_takeGarden_6 : decode cX10_takeGarden 6 = .ok (.aload_n 0, 1) := by decide +kernel
theorem dX10_takeGarden_7 : decode cX10_takeGarden 7 = .ok (.getfield 46, 3) := by decide +kernel
theorem dX10_takeGarden_10 : decode cX10_takeGarden 10 = .ok (.putfield 50, 3) := by decide +kernel
theorem dX10_takeGarden_13 : decode cX10_takeGarden 13 = .ok (.aload_n 0, 1) := by decide +kernel
theorem dX10_takeGarden_14 : decode cX10_takeGarden 14 = .ok (.aload_n 1, 1) := by decide +kernel
theorem dX10_takeGarden_15 : decode cX10_takeGarden 15 = .ok (.putfield 46, 3) := by decide +kernel
theorem dX10_takeGarden_18 : decode cX10_takeGarden 18 = .ok (.aload_n 0, 1) := by decide +kernel
theorem dX10_takeGarden_19 : decode cX10_takeGarden 19 = .ok (.iconst (-1), 1) := by decide +kernel
theorem dX10_takeGarden_20 : decode cX10_takeGarden 20 = .ok (.putfield 40, 3) := by decide +kernel
theorem dX10_takeGarden_23 : decode cX10_takeGarden 23 = .ok (.aload_n 0, 1) := by decide +kernel
theorem dX10_takeGarden_24 : decode cX10_takeGarden 24 = .ok (.iconst 0, 1) := by decide +kernel
theorem dX10_takeGarden_25 : decode cX10_takeGarden 25 = .ok (.putfield 71, 3) := by decide +kernel
theorem dX10_takeGarden_28 : decode cX10_takeGarden 28 = .ok (.aload_n 0, 1) := by decide +kernel
theorem dX10_takeGarden_29 : decode cX10_takeGarden 29 = .ok (.getfield 56, 3) := by decide +kernel
theorem dX10_takeGarden_32 : decode cX10_takeGarden 32 = .ok (.iconst 0, 1) := by decide +kernel
theorem dX10_takeGarden_33 : decode cX10_takeGarden 33 = .ok (.putfield 128, 3) := by decide +kernel
theorem dX10_takeGarden_36 : decode cX10_takeGarden 36 = .ok (.aload_n 0, 1) := by decide +kernel
theorem dX10_takeGarden_37 : decode cX10_takeGarden 37 = .ok (.getfield 63, 3) := by decide +kernel
theorem dX10_takeGarden_40 : decode cX10_takeGarden 40 = .ok (.invokevirtual 131, 3) := by decide +kernel
theorem dX10_takeGarden_43 : decode cX10_takeGarden 43 = .ok (.aload_n 0, 1) := by decide +kernel
theorem dX10_takeGarden_44 : decode cX10_takeGarden 44 = .ok (.getfield 78, 3) := by decide +kernel
theorem dX10_takeGarden_47 : decode cX10_takeGarden 47 = .ok (.iconst 0, 1) := by decide +kernel
theorem dX10_takeGarden_48 : decode cX10_takeGarden 48 = .ok (.putfield 134, 3) := by decide +kernel
theorem dX10_takeGarden_51 : decode cX10_takeGarden 51 = .ok (.aload_n 0, 1) := by decide +kernel
theorem dX10_takeGarden_52 : decode cX10_takeGarden 52 = .ok (.getfield 10, 3) := by decide +kernel
theorem dX10_takeGarden_55 : decode cX10_takeGarden 55 = .ok (.iconst 0, 1) := by decide +kernel
theorem dX10_takeGarden_56 : decode cX10_takeGarden 56 = .ok (.putfield 107, 3) := by decide +kernel
theorem dX10_takeGarden_59 : decode cX10_takeGarden 59 = .ok (.aload_n 0, 1) := by decide +kernel
theorem dX10_takeGarden_60 : decode cX10_takeGarden 60 = .ok (.getfield 46, 3) := by decide +kernel
theorem dX10_takeGarden_63 : decode cX10_takeGarden 63 = .ok (.getfield 137, 3) := by decide +kernel
theorem dX10_takeGarden_66 : decode cX10_takeGarden 66 = .ok (.ireturn, 1) := by decide +kernel
theorem dX10_takeWish_0 : decode cX10_takeWish 0 = .ok (.aload_n 0, 1) := by decide +kernel
theorem dX10_takeWish_1 : decode cX10_takeWish 1 = .ok (.getfield 36, 3) := by decide +kernel
theorem dX10_takeWish_4 : decode cX10_takeWish 4 = .ok (.ifCond .lt 15, 3) := by decide +kernel
theorem dX10_takeWish_7 : decode cX10_takeWish 7 = .ok (.aload_n 0, 1) := by decide +kernel
theorem dX10_takeWish_8 : decode cX10_takeWish 8 = .ok (.getfield 36, 3) := by decide +kernel
theorem dX10_takeWish_11 : decode cX10_takeWish 11 = .ok (.aload_n 0, 1) := by decide +kernel
theorem dX10_takeWish_12 : decode cX10_takeWish 12 = .ok (.getfield 32, 3) := by decide +kernel
theorem dX10_takeWish_15 : decode cX10_takeWish 15 = .ok (.arraylength, 1) := by decide +kernel
theorem dX10_takeWish_16 : decode cX10_takeWish 16 = .ok (.if_icmp .lt 5, 3) := by decide +kernel
theorem dX10_takeWish_19 : decode cX10_takeWish 19 = .ok (.iconst (-1), 1) := by decide +kernel
theorem dX10_takeWish_20 : decode cX10_takeWish 20 = .ok (.ireturn, 1) := by decide +kernel
theorem dX10_takeWish_21 : decode cX10_takeWish 21 = .ok (.aload_n 0, 1) := by decide +kernel
theorem dX10_takeWish_22 : decode cX10_takeWish 22 = .ok (.getfield 32, 3) := by decide +kernel
theorem dX10_takeWish_25 : decode cX10_takeWish 25 = .ok (.aload_n 0, 1) := by decide +kernel
theorem dX10_takeWish_26 : decode cX10_takeWish 26 = .ok (.getfield 36, 3) := by decide +kernel
theorem dX10_takeWish_29 : decode cX10_takeWish 29 = .ok (.aaload, 1) := by decide +kernel
theorem dX10_takeWish_30 : decode cX10_takeWish 30 = .ok (.aload_n 0, 1) := by decide +kernel
theorem dX10_takeWish_31 : decode cX10_takeWish 31 = .ok (.getfield 26, 3) := by decide +kernel
theorem dX10_takeWish_34 : decode cX10_takeWish 34 = .ok (.getfield 140, 3) := by decide +kernel
theorem dX10_takeWish_37 : decode cX10_takeWish 37 = .ok (.aload_n 0, 1) := by decide +kernel
theorem dX10_takeWish_38 : decode cX10_takeWish 38 = .ok (.getfield 26, 3) := by decide +kernel
theorem dX10_takeWish_41 : decode cX10_takeWish 41 = .ok (.getfield 143, 3) := by decide +kernel
theorem dX10_takeWish_44 : decode cX10_takeWish 44 = .ok (.invokevirtual 144, 3) := by decide +kernel
theorem dX10_takeWish_47 : decode cX10_takeWish 47 = .ok (.aload_n 0, 1) := by decide +kernel
theorem dX10_takeWish_48 : decode cX10_takeWish 48 = .ok (.getfield 10, 3) := by decide +kernel
theorem dX10_takeWish_51 : decode cX10_takeWish 51 = .ok (.iconst 0, 1) := by decide +kernel
theorem dX10_takeWish_52 : decode cX10_takeWish 52 = .ok (.putfield 107, 3) := by decide +kernel
theorem dX10_takeWish_55 : decode cX10_takeWish 55 = .ok (.aload_n 0, 1) := by decide +kernel
theorem dX10_takeWish_56 : decode cX10_takeWish 56 = .ok (.dup, 1) := by decide +kernel
theorem dX10_takeWish_57 : decode cX10_takeWish 57 = .ok (.getfield 36, 3) := by decide +kernel
theorem dX10_takeWish_60 : decode cX10_takeWish 60 = .ok (.iconst 1, 1) := by decide +kernel
theorem dX10_takeWish_61 : decode cX10_takeWish 61 = .ok (.iadd, 1) := by decide +kernel
theorem dX10_takeWish_62 : decode cX10_takeWish 62 = .ok (.putfield 36, 3) := by decide +kernel
theorem dX10_takeWish_65 : decode cX10_takeWish 65 = .ok (.aload_n 0, 1) := by decide +kernel
theorem dX10_takeWish_66 : decode cX10_takeWish 66 = .ok (.getfield 36, 3) := by decide +kernel
theorem dX10_takeWish_69 : decode cX10_takeWish 69 = .ok (.iconst 1, 1) := by decide +kernel
theorem dX10_takeWish_70 : decode cX10_takeWish 70 = .ok (.isub, 1) := by decide +kernel
theorem dX10_takeWish_71 : decode cX10_takeWish 71 = .ok (.ireturn, 1) := by decide +kernel
theorem dX10_wish_0 : decode cX10_wish 0 = .ok (.aload_n 0, 1) := by decide +kernel
theorem dX10_wish_1 : decode cX10_wish 1 = .ok (.invokevirtual 148, 3) := by decide +kernel
theorem dX10_wish_4 : decode cX10_wish 4 = .ok (.ifCond .ne 16, 3) := by decide +kernel
theorem dX10_wish_7 : decode cX10_wish 7 = .ok (.iload_n 1, 1) := by decide +kernel
theorem dX10_wish_8 : decode cX10_wish 8 = .ok (.iconst (-1), 1) := by decide +kernel
theorem dX10_wish_9 : decode cX10_wish 9 = .ok (.if_icmp .lt 11, 3) := by decide +kernel
theorem dX10_wish_12 : decode cX10_wish 12 = .ok (.iload_n 1, 1) := by decide +kernel
theorem dX10_wish_13 : decode cX10_wish 13 = .ok (.aload_n 0, 1) := by decide +kernel
theorem dX10_wish_14 : decode cX10_wish 14 = .ok (.getfield 36, 3) := by decide +kernel
theorem dX10_wish_17 : decode cX10_wish 17 = .ok (.if_icmp .lt 5, 3) := by decide +kernel
theorem dX10_wish_20 : decode cX10_wish 20 = .ok (.iconst 0, 1) := by decide +kernel
theorem dX10_wish_21 : decode cX10_wish 21 = .ok (.ireturn, 1) := by decide +kernel
theorem dX10_wish_22 : decode cX10_wish 22 = .ok (.aload_n 0, 1) := by decide +kernel
theorem dX10_wish_23 : decode cX10_wish 23 = .ok (.iload_n 1, 1) := by decide +kernel
theorem dX10_wish_24 : decode cX10_wish 24 = .ok (.putfield 40, 3) := by decide +kernel
theorem dX10_wish_27 : decode cX10_wish 27 = .ok (.iconst 1, 1) := by decide +kernel
theorem dX10_wish_28 : decode cX10_wish 28 = .ok (.ireturn, 1) := by decide +kernel
theorem dX10_height_0 : decode cX10_height 0 = .ok (.aload_n 0, 1) := by decide +kernel
theorem dX10_height_1 : decode cX10_height 1 = .ok (.getfield 46, 3) := by decide +kernel
theorem dX10_height_4 : decode cX10_height 4 = .ok (.iload_n 1, 1) := by decide +kernel
theorem dX10_height_5 : decode cX10_height 5 = .ok (.invokevirtual 152, 3) := by decide +kernel
theorem dX10_height_8 : decode cX10_height 8 = .ok (.ifCond .ne 11, 3) := by decide +kernel
theorem dX10_height_11 : decode cX10_height 11 = .ok (.new 156, 3) := by decide +kernel
theorem dX10_height_14 : decode cX10_height 14 = .ok (.dup, 1) := by decide +kernel
theorem dX10_height_15 : decode cX10_height 15 = .ok (.invokespecial 158, 3) := by decide +kernel
theorem dX10_height_18 : decode cX10_height 18 = .ok (.athrow, 1) := by decide +kernel
theorem dX10_height_19 : decode cX10_height 19 = .ok (.aload_n 0, 1) := by decide +kernel
theorem dX10_height_20 : decode cX10_height 20 = .ok (.getfield 46, 3) := by decide +kernel
theorem dX10_height_23 : decode cX10_height 23 = .ok (.iload_n 1, 1) := by decide +kernel
theorem dX10_height_24 : decode cX10_height 24 = .ok (.invokevirtual 159, 3) := by decide +kernel
theorem dX10_height_27 : decode cX10_height 27 = .ok (.ireturn, 1) := by decide +kernel
theorem dX10_shorter_0 : decode cX10_shorter 0 = .ok (.aload_n 0, 1) := by decide +kernel
theorem dX10_shorter_1 : decode cX10_shorter 1 = .ok (.invokevirtual 148, 3) := by decide +kernel
theorem dX10_shorter_4 : decode cX10_shorter 4 = .ok (.ifCond .ne 10, 3) := by decide +kernel
theorem dX10_shorter_7 : decode cX10_shorter 7 = .ok (.iload_n 1, 1) := by decide +kernel
theorem dX10_shorter_8 : decode cX10_shorter 8 = .ok (.invokestatic 162, 3) := by decide +kernel
theorem dX10_shorter_11 : decode cX10_shorter 11 = .ok (.ifCond .ne 7, 3) := by decide +kernel
theorem dX10_shorter_14 : decode cX10_shorter 14 = .ok (.iconst (-1), 1) := by decide +kernel
theorem dX10_shorter_15 : decode cX10_shorter 15 = .ok (.goto 11, 3) := by decide +kernel
theorem dX10_shorter_18 : decode cX10_shorter 18 = .ok (.aload_n 0, 1) := by decide +kernel
theorem dX10_shorter_19 : decode cX10_shorter 19 = .ok (.getfield 46, 3) := by decide +kernel
theorem dX10_shorter_22 : decode cX10_shorter 22 = .ok (.iload_n 1, 1) := by decide +kernel
theorem dX10_shorter_23 : decode cX10_shorter 23 = .ok (.invokevirtual 165, 3) := by decide +kernel
theorem dX10_shorter_26 : decode cX10_shorter 26 = .ok (.ireturn, 1) := by decide +kernel
theorem dX10_card_0 : decode cX10_card 0 = .ok (.iload_n 1, 1) := by decide +kernel
theorem dX10_card_1 : decode cX10_card 1 = .ok (.ifCond .lt 28, 3) := by decide +kernel
theorem dX10_card_4 : decode cX10_card 4 = .ok (.iload_n 1, 1) := by decide +kernel
theorem dX10_card_5 : decode cX10_card 5 = .ok (.aload_n 0, 1) := by decide +kernel
theorem dX10_card_6 : decode cX10_card 6 = .ok (.getfield 46, 3) := by decide +kernel
theorem dX10_card_9 : decode cX10_card 9 = .ok (.getfield 168, 3) := by decide +kernel
theorem dX10_card_12 : decode cX10_card 12 = .ok (.if_icmp .ge 17, 3) := by decide +kernel
theorem dX10_card_15 : decode cX10_card 15 = .ok (.iload_n 1, 1) := by decide +kernel
theorem dX10_card_16 : decode cX10_card 16 = .ok (.iconst 4, 1) := by decide +kernel
theorem dX10_card_17 : decode cX10_card 17 = .ok (.if_icmp .ge 12, 3) := by decide +kernel
theorem dX10_card_20 : decode cX10_card 20 = .ok (.iload_n 2, 1) := by decide +kernel
theorem dX10_card_21 : decode cX10_card 21 = .ok (.ifCond .lt 8, 3) := by decide +kernel
theorem dX10_card_24 : decode cX10_card 24 = .ok (.iload_n 2, 1) := by decide +kernel
theorem dX10_card_25 : decode cX10_card 25 = .ok (.iconst 1, 1) := by decide +kernel
theorem dX10_card_26 : decode cX10_card 26 = .ok (.if_icmp .le 5, 3) := by decide +kernel
theorem dX10_card_29 : decode cX10_card 29 = .ok (.iconst (-1), 1) := by decide +kernel
theorem dX10_card_30 : decode cX10_card 30 = .ok (.ireturn, 1) := by decide +kernel
theorem dX10_card_31 : decode cX10_card 31 = .ok (.iload_n 2, 1) := by decide +kernel
theorem dX10_card_32 : decode cX10_card 32 = .ok (.ifCond .ne 15, 3) := by decide +kernel
theorem dX10_card_35 : decode cX10_card 35 = .ok (.aload_n 0, 1) := by decide +kernel
theorem dX10_card_36 : decode cX10_card 36 = .ok (.getfield 46, 3) := by decide +kernel
theorem dX10_card_39 : decode cX10_card 39 = .ok (.getfield 171, 3) := by decide +kernel
theorem dX10_card_42 : decode cX10_card 42 = .ok (.iload_n 1, 1) := by decide +kernel
theorem dX10_card_43 : decode cX10_card 43 = .ok (.iaload, 1) := by decide +kernel
theorem dX10_card_44 : decode cX10_card 44 = .ok (.goto 12, 3) := by decide +kernel
theorem dX10_card_47 : decode cX10_card 47 = .ok (.aload_n 0, 1) := by decide +kernel
theorem dX10_card_48 : decode cX10_card 48 = .ok (.getfield 46, 3) := by decide +kernel
theorem dX10_card_51 : decode cX10_card 51 = .ok (.getfield 174, 3) := by decide +kernel
theorem dX10_card_54 : decode cX10_card 54 = .ok (.iload_n 1, 1) := by decide +kernel
theorem dX10_card_55 : decode cX10_card 55 = .ok (.iaload, 1) := by decide +kernel
theorem dX10_card_56 : decode cX10_card 56 = .ok (.ireturn, 1) := by decide +kernel
theorem dX10_count_0 : decode cX10_count 0 = .ok (.iload_n 1, 1) := by decide +kernel
theorem dX10_count_1 : decode cX10_count 1 = .ok (.tableswitch 105 0 7 #[47, 55, 63, 71, 76, 84, 89, 97], 47) := by decide +kernel
theorem dX10_count_48 : decode cX10_count 48 = .ok (.aload_n 0, 1) := by decide +kernel
theorem dX10_count_49 : decode cX10_count 49 = .ok (.getfield 46, 3) := by decide +kernel
theorem dX10_count_52 : decode cX10_count 52 = .ok (.getfield 137, 3) := by decide +kernel
theorem dX10_count_55 : decode cX10_count 55 = .ok (.ireturn, 1) := by decide +kernel
theorem dX10_count_56 : decode cX10_count 56 = .ok (.aload_n 0, 1) := by decide +kernel
theorem dX10_count_57 : decode cX10_count 57 = .ok (.getfield 46, 3) := by decide +kernel
theorem dX10_count_60 : decode cX10_count 60 = .ok (.getfield 177, 3) := by decide +kernel
theorem dX10_count_63 : decode cX10_count 63 = .ok (.ireturn, 1) := by decide +kernel
theorem dX10_count_64 : decode cX10_count 64 = .ok (.aload_n 0, 1) := by decide +kernel
theorem dX10_count_65 : decode cX10_count 65 = .ok (.getfield 46, 3) := by decide +kernel
theorem dX10_count_68 : decode cX10_count 68 = .ok (.getfield 168, 3) := by decide +kernel
theorem dX10_count_71 : decode cX10_count 71 = .ok (.ireturn, 1) := by decide +kernel
theorem dX10_count_72 : decode cX10_count 72 = .ok (.aload_n 0, 1) := by decide +kernel
theorem dX10_count_73 : decode cX10_count 73 = .ok (.getfield 36, 3) := by decide +kernel
theorem dX10_count_76 : decode cX10_count 76 = .ok (.ireturn, 1) := by decide +kernel
theorem dX10_count_77 : decode cX10_count 77 = .ok (.aload_n 0, 1) := by decide +kernel
theorem dX10_count_78 : decode cX10_count 78 = .ok (.getfield 10, 3) := by decide +kernel
theorem dX10_count_81 : decode cX10_count 81 = .ok (.getfield 107, 3) := by decide +kernel
theorem dX10_count_84 : decode cX10_count 84 = .ok (.ireturn, 1) := by decide +kernel
theorem dX10_count_85 : decode cX10_count 85 = .ok (.aload_n 0, 1) := by decide +kernel
theorem dX10_count_86 : decode cX10_count 86 = .ok (.getfield 40, 3) := by decide +kernel
theorem dX10_count_89 : decode cX10_count 89 = .ok (.ireturn, 1) := by decide +kernel
theorem dX10_count_90 : decode cX10_count 90 = .ok (.aload_n 0, 1) := by decide +kernel
theorem dX10_count_91 : decode cX10_count 91 = .ok (.getfield 56, 3) := by decide +kernel
theorem dX10_count_94 : decode cX10_count 94 = .ok (.getfield 128, 3) := by decide +kernel
theorem dX10_count_97 : decode cX10_count 97 = .ok (.ireturn, 1) := by decide +kernel
theorem dX10_count_98 : decode cX10_count 98 = .ok (.aload_n 0, 1) := by decide +kernel
theorem dX10_count_99 : decode cX10_count 99 = .ok (.getfield 63, 3) := by decide +kernel
theorem dX10_count_102 : decode cX10_count 102 = .ok (.getfield 180, 3) := by decide +kernel
theorem dX10_count_105 : decode cX10_count 105 = .ok (.ireturn, 1) := by decide +kernel
theorem dX10_count_106 : decode cX10_count 106 = .ok (.ldc 181, 2) := by decide +kernel
theorem dX10_count_108 : decode cX10_count 108 = .ok (.ireturn, 1) := by decide +kernel
theorem dX10_gap_0 : decode cX10_gap 0 = .ok (.aload_n 0, 1) := by decide +kernel
theorem dX10_gap_1 : decode cX10_gap 1 = .ok (.getfield 46, 3) := by decide +kernel
theorem dX10_gap_4 : decode cX10_gap 4 = .ok (.iload_n 1, 1) := by decide +kernel
theorem dX10_gap_5 : decode cX10_gap 5 = .ok (.invokevirtual 152, 3) := by decide +kernel
theorem dX10_gap_8 : decode cX10_gap 8 = .ok (.ifCond .eq 14, 3) := by decide +kernel
theorem dX10_gap_11 : decode cX10_gap 11 = .ok (.aload_n 0, 1) := by decide +kernel
theorem dX10_gap_12 : decode cX10_gap 12 = .ok (.getfield 46, 3) := by decide +kernel
theorem dX10_gap_15 : decode cX10_gap 15 = .ok (.iload_n 1, 1) := by decide +kernel
theorem dX10_gap_16 : decode cX10_gap 16 = .ok (.invokevirtual 182, 3) := by decide +kernel
theorem dX10_gap_19 : decode cX10_gap 19 = .ok (.goto 5, 3) := by decide +kernel
theorem dX10_gap_22 : decode cX10_gap 22 = .ok (.ldc 181, 2) := by decide +kernel
theorem dX10_gap_24 : decode cX10_gap 24 = .ok (.ireturn, 1) := by decide +kernel
theorem dX10_tilt_0 : decode cX10_tilt 0 = .ok (.aload_n 0, 1) := by decide +kernel
theorem dX10_tilt_1 : decode cX10_tilt 1 = .ok (.getfield 46, 3) := by decide +kernel
theorem dX10_tilt_4 : decode cX10_tilt 4 = .ok (.iload_n 1, 1) := by decide +kernel
theorem dX10_tilt_5 : decode cX10_tilt 5 = .ok (.invokevirtual 152, 3) := by decide +kernel
theorem dX10_tilt_8 : decode cX10_tilt 8 = .ok (.ifCond .eq 14, 3) := by decide +kernel
theorem dX10_tilt_11 : decode cX10_tilt 11 = .ok (.aload_n 0, 1) := by decide +kernel
theorem dX10_tilt_12 : decode cX10_tilt 12 = .ok (.getfield 46, 3) := by decide +kernel
theorem dX10_tilt_15 : decode cX10_tilt 15 = .ok (.iload_n 1, 1) := by decide +kernel
theorem dX10_tilt_16 : decode cX10_tilt 16 = .ok (.invokevirtual 185, 3) := by decide +kernel
theorem dX10_tilt_19 : decode cX10_tilt 19 = .ok (.goto 4, 3) := by decide +kernel
theorem dX10_tilt_22 : decode cX10_tilt 22 = .ok (.iconst (-1), 1) := by decide +kernel
theorem dX10_tilt_23 : decode cX10_tilt 23 = .ok (.ireturn, 1) := by decide +kernel
theorem dX10_stands_0 : decode cX10_stands 0 = .ok (.aload_n 0, 1) := by decide +kernel
theorem dX10_stands_1 : decode cX10_stands 1 = .ok (.invokevirtual 148, 3) := by decide +kernel
theorem dX10_stands_4 : decode cX10_stands 4 = .ok (.ifCond .ne 26, 3) := by decide +kernel
theorem dX10_stands_7 : decode cX10_stands 7 = .ok (.iload_n 1, 1) := by decide +kernel
theorem dX10_stands_8 : decode cX10_stands 8 = .ok (.iconst (-1), 1) := by decide +kernel
theorem dX10_stands_9 : decode cX10_stands 9 = .ok (.if_icmp .lt 21, 3) := by decide +kernel
theorem dX10_stands_12 : decode cX10_stands 12 = .ok (.iload_n 2, 1) := by decide +kernel
theorem dX10_stands_13 : decode cX10_stands 13 = .ok (.ifCond .lt 17, 3) := by decide +kernel
theorem dX10_stands_16 : decode cX10_stands 16 = .ok (.iload_n 2, 1) := by decide +kernel
theorem dX10_stands_17 : decode cX10_stands 17 = .ok (.iconst 2, 1) := by decide +kernel
theorem dX10_stands_18 : decode cX10_stands 18 = .ok (.if_icmp .gt 12, 3) := by decide +kernel
theorem dX10_stands_21 : decode cX10_stands 21 = .ok (.iload_n 1, 1) := by decide +kernel
theorem dX10_stands_22 : decode cX10_stands 22 = .ok (.iconst (-1), 1) := by decide +kernel
theorem dX10_stands_23 : decode cX10_stands 23 = .ok (.if_icmp .ne 9, 3) := by decide +kernel
