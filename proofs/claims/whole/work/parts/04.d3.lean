theorem dX10_heap_23 : decode cX10_heap 23 = .ok (.invokevirtual 159, 3) := by decide +kernel
theorem dX10_heap_26 : decode cX10_heap 26 = .ok (.iload_n 2, 1) := by decide +kernel
theorem dX10_heap_27 : decode cX10_heap 27 = .ok (.if_icmp .ne 5, 3) := by decide +kernel
theorem dX10_heap_30 : decode cX10_heap 30 = .ok (.iconst (-1), 1) := by decide +kernel
theorem dX10_heap_31 : decode cX10_heap 31 = .ok (.ireturn, 1) := by decide +kernel
theorem dX10_heap_32 : decode cX10_heap 32 = .ok (.aload_n 0, 1) := by decide +kernel
theorem dX10_heap_33 : decode cX10_heap 33 = .ok (.getfield 63, 3) := by decide +kernel
theorem dX10_heap_36 : decode cX10_heap 36 = .ok (.aload_n 0, 1) := by decide +kernel
theorem dX10_heap_37 : decode cX10_heap 37 = .ok (.getfield 46, 3) := by decide +kernel
theorem dX10_heap_40 : decode cX10_heap 40 = .ok (.invokevirtual 355, 3) := by decide +kernel
theorem dX10_heap_43 : decode cX10_heap 43 = .ok (.aload_n 0, 1) := by decide +kernel
theorem dX10_heap_44 : decode cX10_heap 44 = .ok (.getfield 46, 3) := by decide +kernel
theorem dX10_heap_47 : decode cX10_heap 47 = .ok (.getfield 304, 3) := by decide +kernel
theorem dX10_heap_50 : decode cX10_heap 50 = .ok (.iload_n 1, 1) := by decide +kernel
theorem dX10_heap_51 : decode cX10_heap 51 = .ok (.iload_n 2, 1) := by decide +kernel
theorem dX10_heap_52 : decode cX10_heap 52 = .ok (.iastore, 1) := by decide +kernel
theorem dX10_heap_53 : decode cX10_heap 53 = .ok (.aload_n 0, 1) := by decide +kernel
theorem dX10_heap_54 : decode cX10_heap 54 = .ok (.getfield 63, 3) := by decide +kernel
theorem dX10_heap_57 : decode cX10_heap 57 = .ok (.getfield 180, 3) := by decide +kernel
theorem dX10_heap_60 : decode cX10_heap 60 = .ok (.ireturn, 1) := by decide +kernel
theorem dX10_drawn_0 : decode cX10_drawn 0 = .ok (.aload_n 0, 1) := by decide +kernel
theorem dX10_drawn_1 : decode cX10_drawn 1 = .ok (.invokevirtual 148, 3) := by decide +kernel
theorem dX10_drawn_4 : decode cX10_drawn 4 = .ok (.ifCond .ne 10, 3) := by decide +kernel
theorem dX10_drawn_7 : decode cX10_drawn 7 = .ok (.iload_n 3, 1) := by decide +kernel
theorem dX10_drawn_8 : decode cX10_drawn 8 = .ok (.invokestatic 253, 3) := by decide +kernel
theorem dX10_drawn_11 : decode cX10_drawn 11 = .ok (.ifCond .ne 5, 3) := by decide +kernel
theorem dX10_drawn_14 : decode cX10_drawn 14 = .ok (.iconst (-1), 1) := by decide +kernel
theorem dX10_drawn_15 : decode cX10_drawn 15 = .ok (.ireturn, 1) := by decide +kernel
theorem dX10_drawn_16 : decode cX10_drawn 16 = .ok (.aload_n 0, 1) := by decide +kernel
theorem dX10_drawn_17 : decode cX10_drawn 17 = .ok (.getfield 63, 3) := by decide +kernel
theorem dX10_drawn_20 : decode cX10_drawn 20 = .ok (.aload_n 0, 1) := by decide +kernel
theorem dX10_drawn_21 : decode cX10_drawn 21 = .ok (.getfield 46, 3) := by decide +kernel
theorem dX10_drawn_24 : decode cX10_drawn 24 = .ok (.invokevirtual 355, 3) := by decide +kernel
theorem dX10_drawn_27 : decode cX10_drawn 27 = .ok (.aload_n 0, 1) := by decide +kernel
theorem dX10_drawn_28 : decode cX10_drawn 28 = .ok (.getfield 92, 3) := by decide +kernel
theorem dX10_drawn_31 : decode cX10_drawn 31 = .ok (.lload_n 1, 1) := by decide +kernel
theorem dX10_drawn_32 : decode cX10_drawn 32 = .ok (.putfield 334, 3) := by decide +kernel
theorem dX10_drawn_35 : decode cX10_drawn 35 = .ok (.aload_n 0, 1) := by decide +kernel
theorem dX10_drawn_36 : decode cX10_drawn 36 = .ok (.aload_n 0, 1) := by decide +kernel
theorem dX10_drawn_37 : decode cX10_drawn 37 = .ok (.getfield 46, 3) := by decide +kernel
theorem dX10_drawn_40 : decode cX10_drawn 40 = .ok (.getfield 304, 3) := by decide +kernel
theorem dX10_drawn_43 : decode cX10_drawn 43 = .ok (.iload_n 3, 1) := by decide +kernel
theorem dX10_drawn_44 : decode cX10_drawn 44 = .ok (.invokevirtual 338, 3) := by decide +kernel
theorem dX10_drawn_47 : decode cX10_drawn 47 = .ok (.aload_n 0, 1) := by decide +kernel
theorem dX10_drawn_48 : decode cX10_drawn 48 = .ok (.getfield 63, 3) := by decide +kernel
theorem dX10_drawn_51 : decode cX10_drawn 51 = .ok (.getfield 180, 3) := by decide +kernel
theorem dX10_drawn_54 : decode cX10_drawn 54 = .ok (.ireturn, 1) := by decide +kernel
theorem dX10_undo_0 : decode cX10_undo 0 = .ok (.aload_n 0, 1) := by decide +kernel
theorem dX10_undo_1 : decode cX10_undo 1 = .ok (.getfield 63, 3) := by decide +kernel
theorem dX10_undo_4 : decode cX10_undo 4 = .ok (.aload_n 0, 1) := by decide +kernel
theorem dX10_undo_5 : decode cX10_undo 5 = .ok (.getfield 46, 3) := by decide +kernel
theorem dX10_undo_8 : decode cX10_undo 8 = .ok (.invokevirtual 362, 3) := by decide +kernel
theorem dX10_undo_11 : decode cX10_undo 11 = .ok (.ifCond .eq 13, 3) := by decide +kernel
theorem dX10_undo_14 : decode cX10_undo 14 = .ok (.aload_n 0, 1) := by decide +kernel
theorem dX10_undo_15 : decode cX10_undo 15 = .ok (.getfield 63, 3) := by decide +kernel
theorem dX10_undo_18 : decode cX10_undo 18 = .ok (.getfield 180, 3) := by decide +kernel
theorem dX10_undo_21 : decode cX10_undo 21 = .ok (.goto 4, 3) := by decide +kernel
theorem dX10_undo_24 : decode cX10_undo 24 = .ok (.iconst (-1), 1) := by decide +kernel
theorem dX10_undo_25 : decode cX10_undo 25 = .ok (.ireturn, 1) := by decide +kernel
theorem dX10_image_0 : decode cX10_image 0 = .ok (.aload_n 0, 1) := by decide +kernel
theorem dX10_image_1 : decode cX10_image 1 = .ok (.invokevirtual 148, 3) := by decide +kernel
theorem dX10_image_4 : decode cX10_image 4 = .ok (.ifCond .eq 5, 3) := by decide +kernel
theorem dX10_image_7 : decode cX10_image 7 = .ok (.iconst (-1), 1) := by decide +kernel
theorem dX10_image_8 : decode cX10_image 8 = .ok (.ireturn, 1) := by decide +kernel
theorem dX10_image_9 : decode cX10_image 9 = .ok (.aload_n 0, 1) := by decide +kernel
theorem dX10_image_10 : decode cX10_image 10 = .ok (.getfield 46, 3) := by decide +kernel
theorem dX10_image_13 : decode cX10_image 13 = .ok (.aload_n 0, 1) := by decide +kernel
theorem dX10_image_14 : decode cX10_image 14 = .ok (.getfield 67, 3) := by decide +kernel
theorem dX10_image_17 : decode cX10_image 17 = .ok (.iconst 0, 1) := by decide +kernel
theorem dX10_image_18 : decode cX10_image 18 = .ok (.invokevirtual 366, 3) := by decide +kernel
theorem dX10_image_21 : decode cX10_image 21 = .ok (.aload_n 0, 1) := by decide +kernel
theorem dX10_image_22 : decode cX10_image 22 = .ok (.iconst 1, 1) := by decide +kernel
theorem dX10_image_23 : decode cX10_image 23 = .ok (.putfield 71, 3) := by decide +kernel
theorem dX10_image_26 : decode cX10_image 26 = .ok (.aload_n 0, 1) := by decide +kernel
theorem dX10_image_27 : decode cX10_image 27 = .ok (.getfield 46, 3) := by decide +kernel
theorem dX10_image_30 : decode cX10_image 30 = .ok (.getfield 137, 3) := by decide +kernel
theorem dX10_image_33 : decode cX10_image 33 = .ok (.ireturn, 1) := by decide +kernel
theorem dX10_back_0 : decode cX10_back 0 = .ok (.aload_n 0, 1) := by decide +kernel
theorem dX10_back_1 : decode cX10_back 1 = .ok (.getfield 71, 3) := by decide +kernel
theorem dX10_back_4 : decode cX10_back 4 = .ok (.ifCond .ne 5, 3) := by decide +kernel
theorem dX10_back_7 : decode cX10_back 7 = .ok (.iconst (-1), 1) := by decide +kernel
theorem dX10_back_8 : decode cX10_back 8 = .ok (.ireturn, 1) := by decide +kernel
theorem dX10_back_9 : decode cX10_back 9 = .ok (.aload_n 0, 1) := by decide +kernel
theorem dX10_back_10 : decode cX10_back 10 = .ok (.getfield 46, 3) := by decide +kernel
theorem dX10_back_13 : decode cX10_back 13 = .ok (.aload_n 0, 1) := by decide +kernel
theorem dX10_back_14 : decode cX10_back 14 = .ok (.getfield 67, 3) := by decide +kernel
theorem dX10_back_17 : decode cX10_back 17 = .ok (.iconst 0, 1) := by decide +kernel
theorem dX10_back_18 : decode cX10_back 18 = .ok (.invokevirtual 369, 3) := by decide +kernel
theorem dX10_back_21 : decode cX10_back 21 = .ok (.aload_n 0, 1) := by decide +kernel
theorem dX10_back_22 : decode cX10_back 22 = .ok (.getfield 63, 3) := by decide +kernel
theorem dX10_back_25 : decode cX10_back 25 = .ok (.invokevirtual 131, 3) := by decide +kernel
theorem dX10_back_28 : decode cX10_back 28 = .ok (.aload_n 0, 1) := by decide +kernel
theorem dX10_back_29 : decode cX10_back 29 = .ok (.getfield 46, 3) := by decide +kernel
theorem dX10_back_32 : decode cX10_back 32 = .ok (.getfield 137, 3) := by decide +kernel
theorem dX10_back_35 : decode cX10_back 35 = .ok (.ireturn, 1) := by decide +kernel
theorem dX10_noGarden_0 : decode cX10_noGarden 0 = .ok (.aload_n 0, 1) := by decide +kernel
theorem dX10_noGarden_1 : decode cX10_noGarden 1 = .ok (.getfield 46, 3) := by decide +kernel
theorem dX10_noGarden_4 : decode cX10_noGarden 4 = .ok (.getfield 137, 3) := by decide +kernel
theorem dX10_noGarden_7 : decode cX10_noGarden 7 = .ok (.ifCond .ne 7, 3) := by decide +kernel
theorem dX10_noGarden_10 : decode cX10_noGarden 10 = .ok (.iconst 1, 1) := by decide +kernel
theorem dX10_noGarden_11 : decode cX10_noGarden 11 = .ok (.goto 4, 3) := by decide +kernel
theorem dX10_noGarden_14 : decode cX10_noGarden 14 = .ok (.iconst 0, 1) := by decide +kernel
theorem dX10_noGarden_15 : decode cX10_noGarden 15 = .ok (.ireturn, 1) := by decide +kernel
theorem dX10_layRound_0 : decode cX10_layRound 0 = .ok (.aload_n 0, 1) := by decide +kernel
theorem dX10_layRound_1 : decode cX10_layRound 1 = .ok (.getfield 85, 3) := by decide +kernel
theorem dX10_layRound_4 : decode cX10_layRound 4 = .ok (.aload_n 0, 1) := by decide +kernel
theorem dX10_layRound_5 : decode cX10_layRound 5 = .ok (.getfield 46, 3) := by decide +kernel
theorem dX10_layRound_8 : decode cX10_layRound 8 = .ok (.aload_n 0, 1) := by decide +kernel
theorem dX10_layRound_9 : decode cX10_layRound 9 = .ok (.getfield 46, 3) := by decide +kernel
theorem dX10_layRound_12 : decode cX10_layRound 12 = .ok (.getfield 304, 3) := by decide +kernel
theorem dX10_layRound_15 : decode cX10_layRound 15 = .ok (.aload_n 0, 1) := by decide +kernel
theorem dX10_layRound_16 : decode cX10_layRound 16 = .ok (.getfield 46, 3) := by decide +kernel
theorem dX10_layRound_19 : decode cX10_layRound 19 = .ok (.getfield 177, 3) := by decide +kernel
theorem dX10_layRound_22 : decode cX10_layRound 22 = .ok (.invokevirtual 316, 3) := by decide +kernel
theorem dX10_layRound_25 : decode cX10_layRound 25 = .ok (.return_, 1) := by decide +kernel
theorem dX10_isLeg_0 : decode cX10_isLeg 0 = .ok (.iload_n 0, 1) := by decide +kernel
theorem dX10_isLeg_1 : decode cX10_isLeg 1 = .ok (.ifCond .lt 12, 3) := by decide +kernel
theorem dX10_isLeg_4 : decode cX10_isLeg 4 = .ok (.iload_n 0, 1) := by decide +kernel
theorem dX10_isLeg_5 : decode cX10_isLeg 5 = .ok (.iconst 4, 1) := by decide +kernel
theorem dX10_isLeg_6 : decode cX10_isLeg 6 = .ok (.if_icmp .ge 7, 3) := by decide +kernel
theorem dX10_isLeg_9 : decode cX10_isLeg 9 = .ok (.iconst 1, 1) := by decide +kernel
theorem dX10_isLeg_10 : decode cX10_isLeg 10 = .ok (.goto 4, 3) := by decide +kernel
theorem dX10_isLeg_13 : decode cX10_isLeg 13 = .ok (.iconst 0, 1) := by decide +kernel
theorem dX10_isLeg_14 : decode cX10_isLeg 14 = .ok (.ireturn, 1) := by decide +kernel
theorem dX10_isTold_0 : decode cX10_isTold 0 = .ok (.iload_n 0, 1) := by decide +kernel
theorem dX10_isTold_1 : decode cX10_isTold 1 = .ok (.ifCond .lt 13, 3) := by decide +kernel
theorem dX10_isTold_4 : decode cX10_isTold 4 = .ok (.iload_n 0, 1) := by decide +kernel
theorem dX10_isTold_5 : decode cX10_isTold 5 = .ok (.bipush 99, 2) := by decide +kernel
theorem dX10_isTold_7 : decode cX10_isTold 7 = .ok (.if_icmp .gt 7, 3) := by decide +kernel
theorem dX10_isTold_10 : decode cX10_isTold 10 = .ok (.iconst 1, 1) := by decide +kernel
theorem dX10_isTold_11 : decode cX10_isTold 11 = .ok (.goto 4, 3) := by decide +kernel
theorem dX10_isTold_14 : decode cX10_isTold 14 = .ok (.iconst 0, 1) := by decide +kernel
theorem dX10_isTold_15 : decode cX10_isTold 15 = .ok (.ireturn, 1) := by decide +kernel
theorem dX10_common_0 : decode cX10_common 0 = .ok (.iload_n 0, 1) := by decide +kernel
theorem dX10_common_1 : decode cX10_common 1 = .ok (.invokestatic 222, 3) := by decide +kernel
theorem dX10_common_4 : decode cX10_common 4 = .ok (.istore_n 2, 1) := by decide +kernel
theorem dX10_common_5 : decode cX10_common 5 = .ok (.iload_n 1, 1) := by decide +kernel
theorem dX10_common_6 : decode cX10_common 6 = .ok (.invokestatic 222, 3) := by decide +kernel
theorem dX10_common_9 : decode cX10_common 9 = .ok (.istore_n 3, 1) := by decide +kernel
theorem dX10_common_10 : decode cX10_common 10 = .ok (.iconst 0, 1) := by decide +kernel
theorem dX10_common_11 : decode cX10_common 11 = .ok (.istore 4, 2) := by decide +kernel
theorem dX10_common_13 : decode cX10_common 13 = .ok (.iload 4, 2) := by decide +kernel
theorem dX10_common_15 : decode cX10_common 15 = .ok (.bipush 64, 2) := by decide +kernel
theorem dX10_common_17 : decode cX10_common 17 = .ok (.if_icmp .ge 23, 3) := by decide +kernel
theorem dX10_common_20 : decode cX10_common 20 = .ok (.iload_n 3, 1) := by decide +kernel
theorem dX10_common_21 : decode cX10_common 21 = .ok (.ifCond .eq 19, 3) := by decide +kernel
theorem dX10_common_24 : decode cX10_common 24 = .ok (.iload_n 2, 1) := by decide +kernel
theorem dX10_common_25 : decode cX10_common 25 = .ok (.iload_n 3, 1) := by decide +kernel
theorem dX10_common_26 : decode cX10_common 26 = .ok (.irem, 1) := by decide +kernel
theorem dX10_common_27 : decode cX10_common 27 = .ok (.istore 5, 2) := by decide +kernel
theorem dX10_common_29 : decode cX10_common 29 = .ok (.iload_n 3, 1) := by decide +kernel
theorem dX10_common_30 : decode cX10_common 30 = .ok (.istore_n 2, 1) := by decide +kernel
theorem dX10_common_31 : decode cX10_common 31 = .ok (.iload 5, 2) := by decide +kernel
theorem dX10_common_33 : decode cX10_common 33 = .ok (.istore_n 3, 1) := by decide +kernel
theorem dX10_common_34 : decode cX10_common 34 = .ok (.iinc 4 1, 3) := by decide +kernel
theorem dX10_common_37 : decode cX10_common 37 = .ok (.goto (-24), 3) := by decide +kernel
theorem dX10_common_40 : decode cX10_common 40 = .ok (.iload_n 2, 1) := by decide +kernel
theorem dX10_common_41 : decode cX10_common 41 = .ok (.ireturn, 1) := by decide +kernel
theorem dX11_init_0 : decode cX11_init 0 = .ok (.aload_n 0, 1) := by decide +kernel
theorem dX11_init_1 : decode cX11_init 1 = .ok (.invokespecial 1, 3) := by decide +kernel
theorem dX11_init_4 : decode cX11_init 4 = .ok (.aload_n 0, 1) := by decide +kernel
theorem dX11_init_5 : decode cX11_init 5 = .ok (.sipush 160, 3) := by decide +kernel
theorem dX11_init_8 : decode cX11_init 8 = .ok (.newarray .byte, 2) := by decide +kernel
theorem dX11_init_10 : decode cX11_init 10 = .ok (.putfield 9, 3) := by decide +kernel
theorem dX11_init_13 : decode cX11_init 13 = .ok (.aload_n 0, 1) := by decide +kernel
theorem dX11_init_14 : decode cX11_init 14 = .ok (.sipush 640, 3) := by decide +kernel
theorem dX11_init_17 : decode cX11_init 17 = .ok (.newarray .byte, 2) := by decide +kernel
theorem dX11_init_19 : decode cX11_init 19 = .ok (.putfield 13, 3) := by decide +kernel
theorem dX11_init_22 : decode cX11_init 22 = .ok (.aload_n 0, 1) := by decide +kernel
theorem dX11_init_23 : decode cX11_init 23 = .ok (.iconst 4, 1) := by decide +kernel
theorem dX11_init_24 : decode cX11_init 24 = .ok (.newarray .int, 2) := by decide +kernel
theorem dX11_init_26 : decode cX11_init 26 = .ok (.putfield 16, 3) := by decide +kernel
theorem dX11_init_29 : decode cX11_init 29 = .ok (.aload_n 0, 1) := by decide +kernel
theorem dX11_init_30 : decode cX11_init 30 = .ok (.sipush 128, 3) := by decide +kernel
theorem dX11_init_33 : decode cX11_init 33 = .ok (.newarray .int, 2) := by decide +kernel
theorem dX11_init_35 : decode cX11_init 35 = .ok (.putfield 20, 3) := by decide +kernel
theorem dX11_init_38 : decode cX11_init 38 = .ok (.aload_n 0, 1) := by decide +kernel
theorem dX11_init_39 : decode cX11_init 39 = .ok (.aload_n 0, 1) := by decide +kernel
theorem dX11_init_40 : decode cX11_init 40 = .ok (.getfield 9, 3) := by decide +kernel
theorem dX11_init_43 : decode cX11_init 43 = .ok (.putfield 23, 3) := by decide +kernel
theorem dX11_init_46 : decode cX11_init 46 = .ok (.aload_n 0, 1) := by decide +kernel
theorem dX11_init_47 : decode cX11_init 47 = .ok (.ldc 26, 2) := by decide +kernel
theorem dX11_init_49 : decode cX11_init 49 = .ok (.putfield 28, 3) := by decide +kernel
theorem dX11_init_52 : decode cX11_init 52 = .ok (.aload_n 0, 1) := by decide +kernel
theorem dX11_init_53 : decode cX11_init 53 = .ok (.ldc 32, 2) := by decide +kernel
theorem dX11_init_55 : decode cX11_init 55 = .ok (.putfield 34, 3) := by decide +kernel
theorem dX11_init_58 : decode cX11_init 58 = .ok (.aload_n 0, 1) := by decide +kernel
theorem dX11_init_59 : decode cX11_init 59 = .ok (.bipush 24, 2) := by decide +kernel
theorem dX11_init_61 : decode cX11_init 61 = .ok (.newarray .int, 2) := by decide +kernel
theorem dX11_init_63 : decode cX11_init 63 = .ok (.putfield 37, 3) := by decide +kernel
theorem dX11_init_66 : decode cX11_init 66 = .ok (.aload_n 0, 1) := by decide +kernel
theorem dX11_init_67 : decode cX11_init 67 = .ok (.bipush 24, 2) := by decide +kernel
theorem dX11_init_69 : decode cX11_init 69 = .ok (.newarray .int, 2) := by decide +kernel
theorem dX11_init_71 : decode cX11_init 71 = .ok (.putfield 40, 3) := by decide +kernel
theorem dX11_init_74 : decode cX11_init 74 = .ok (.aload_n 0, 1) := by decide +kernel
theorem dX11_init_75 : decode cX11_init 75 = .ok (.iconst 4, 1) := by decide +kernel
theorem dX11_init_76 : decode cX11_init 76 = .ok (.newarray .int, 2) := by decide +kernel
theorem dX11_init_78 : decode cX11_init 78 = .ok (.putfield 43, 3) := by decide +kernel
theorem dX11_init_81 : decode cX11_init 81 = .ok (.aload_n 0, 1) := by decide +kernel
theorem dX11_init_82 : decode cX11_init 82 = .ok (.iconst 5, 1) := by decide +kernel
theorem dX11_init_83 : decode cX11_init 83 = .ok (.newarray .int, 2) := by decide +kernel
theorem dX11_init_85 : decode cX11_init 85 = .ok (.putfield 46, 3) := by decide +kernel
theorem dX11_init_88 : decode cX11_init 88 = .ok (.aload_n 0, 1) := by decide +kernel
theorem dX11_init_89 : decode cX11_init 89 = .ok (.bipush 8, 2) := by decide +kernel
theorem dX11_init_91 : decode cX11_init 91 = .ok (.newarray .int, 2) := by decide +kernel
theorem dX11_init_93 : decode cX11_init 93 = .ok (.putfield 49, 3) := by decide +kernel
theorem dX11_init_96 : decode cX11_init 96 = .ok (.aload_n 0, 1) := by decide +kernel
theorem dX11_init_97 : decode cX11_init 97 = .ok (.bipush 8, 2) := by decide +kernel
theorem dX11_init_99 : decode cX11_init 99 = .ok (.newarray .int, 2) := by decide +kernel
theorem dX11_init_101 : decode cX11_init 101 = .ok (.putfield 52, 3) := by decide +kernel
theorem dX11_init_104 : decode cX11_init 104 = .ok (.aload_n 0, 1) := by decide +kernel
theorem dX11_init_105 : decode cX11_init 105 = .ok (.iconst (-1), 1) := by decide +kernel
theorem dX11_init_106 : decode cX11_init 106 = .ok (.putfield 55, 3) := by decide +kernel
theorem dX11_init_109 : decode cX11_init 109 = .ok (.aload_n 0, 1) := by decide +kernel
theorem dX11_init_110 : decode cX11_init 110 = .ok (.bipush 48, 2) := by decide +kernel
theorem dX11_init_112 : decode cX11_init 112 = .ok (.newarray .int, 2) := by decide +kernel
theorem dX11_init_114 : decode cX11_init 114 = .ok (.putfield 59, 3) := by decide +kernel
theorem dX11_init_117 : decode cX11_init 117 = .ok (.aload_n 0, 1) := by decide +kernel
theorem dX11_init_118 : decode cX11_init 118 = .ok (.bipush 48, 2) := by decide +kernel
theorem dX11_init_120 : decode cX11_init 120 = .ok (.newarray .int, 2) := by decide +kernel
theorem dX11_init_122 : decode cX11_init 122 = .ok (.putfield 62, 3) := by decide +kernel
theorem dX11_init_125 : decode cX11_init 125 = .ok (.aload_n 0, 1) := by decide +kernel
theorem dX11_init_126 : decode cX11_init 126 = .ok (.bipush 48, 2) := by decide +kernel
theorem dX11_init_128 : decode cX11_init 128 = .ok (.newarray .int, 2) := by decide +kernel
theorem dX11_init_130 : decode cX11_init 130 = .ok (.putfield 65, 3) := by decide +kernel
theorem dX11_init_133 : decode cX11_init 133 = .ok (.aload_n 0, 1) := by decide +kernel
theorem dX11_init_134 : decode cX11_init 134 = .ok (.iconst 4, 1) := by decide +kernel
theorem dX11_init_135 : decode cX11_init 135 = .ok (.newarray .int, 2) := by decide +kernel
theorem dX11_init_137 : decode cX11_init 137 = .ok (.putfield 68, 3) := by decide +kernel
theorem dX11_init_140 : decode cX11_init 140 = .ok (.aload_n 0, 1) := by decide +kernel
theorem dX11_init_141 : decode cX11_init 141 = .ok (.iconst 4, 1) := by decide +kernel
theorem dX11_init_142 : decode cX11_init 142 = .ok (.newarray .int, 2) := by decide +kernel
theorem dX11_init_144 : decode cX11_init 144 = .ok (.putfield 71, 3) := by decide +kernel
theorem dX11_init_147 : decode cX11_init 147 = .ok (.aload_n 0, 1) := by decide +kernel
theorem dX11_init_148 : decode cX11_init 148 = .ok (.bipush 20, 2) := by decide +kernel
theorem dX11_init_150 : decode cX11_init 150 = .ok (.newarray .int, 2) := by decide +kernel
theorem dX11_init_152 : decode cX11_init 152 = .ok (.putfield 74, 3) := by decide +kernel
theorem dX11_init_155 : decode cX11_init 155 = .ok (.aload_n 0, 1) := by decide +kernel
theorem dX11_init_156 : decode cX11_init 156 = .ok (.bipush 20, 2) := by decide +kernel
theorem dX11_init_158 : decode cX11_init 158 = .ok (.newarray .int, 2) := by decide +kernel
theorem dX11_init_160 : decode cX11_init 160 = .ok (.putfield 77, 3) := by decide +kernel
theorem dX11_init_163 : decode cX11_init 163 = .ok (.aload_n 0, 1) := by decide +kernel
theorem dX11_init_164 : decode cX11_init 164 = .ok (.bipush 24, 2) := by decide +kernel
theorem dX11_init_166 : decode cX11_init 166 = .ok (.newarray .int, 2) := by decide +kernel
theorem dX11_init_168 : decode cX11_init 168 = .ok (.putfield 80, 3) := by decide +kernel
theorem dX11_init_171 : decode cX11_init 171 = .ok (.aload_n 0, 1) := by decide +kernel
theorem dX11_init_172 : decode cX11_init 172 = .ok (.iconst 4, 1) := by decide +kernel
theorem dX11_init_173 : decode cX11_init 173 = .ok (.newarray .int, 2) := by decide +kernel
theorem dX11_init_175 : decode cX11_init 175 = .ok (.putfield 83, 3) := by decide +kernel
theorem dX11_init_178 : decode cX11_init 178 = .ok (.aload_n 0, 1) := by decide +kernel
theorem dX11_init_179 : decode cX11_init 179 = .ok (.sipush 1120, 3) := by decide +kernel
theorem dX11_init_182 : decode cX11_init 182 = .ok (.newarray .int, 2) := by decide +kernel
theorem dX11_init_184 : decode cX11_init 184 = .ok (.putfield 86, 3) := by decide +kernel
theorem dX11_init_187 : decode cX11_init 187 = .ok (.aload_n 0, 1) := by decide +kernel
theorem dX11_init_188 : decode cX11_init 188 = .ok (.bipush 24, 2) := by decide +kernel
theorem dX11_init_190 : decode cX11_init 190 = .ok (.newarray .int, 2) := by decide +kernel
theorem dX11_init_192 : decode cX11_init 192 = .ok (.putfield 89, 3) := by decide +kernel
theorem dX11_init_195 : decode cX11_init 195 = .ok (.aload_n 0, 1) := by decide +kernel
theorem dX11_init_196 : decode cX11_init 196 = .ok (.iconst 4, 1) := by decide +kernel
theorem dX11_init_197 : decode cX11_init 197 = .ok (.newarray .int, 2) := by decide +kernel
theorem dX11_init_199 : decode cX11_init 199 = .ok (.putfield 92, 3) := by decide +kernel
theorem dX11_init_202 : decode cX11_init 202 = .ok (.return_, 1) := by decide +kernel
theorem dX11_thrown_0 : decode cX11_thrown 0 = .ok (.aload_n 0, 1) := by decide +kernel
theorem dX11_thrown_1 : decode cX11_thrown 1 = .ok (.getfield 95, 3) := by decide +kernel
theorem dX11_thrown_4 : decode cX11_thrown 4 = .ok (.ireturn, 1) := by decide +kernel
theorem dX11_isIn_0 : decode cX11_isIn 0 = .ok (.lload_n 0, 1) := by decide +kernel
theorem dX11_isIn_1 : decode cX11_isIn 1 = .ok (.lload_n 2, 1) := by decide +kernel
theorem dX11_isIn_2 : decode cX11_isIn 2 = .ok (.lcmp, 1) := by decide +kernel
theorem dX11_isIn_3 : decode cX11_isIn 3 = .ok (.ifCond .lt 14, 3) := by decide +kernel
theorem dX11_isIn_6 : decode cX11_isIn 6 = .ok (.lload_n 0, 1) := by decide +kernel
theorem dX11_isIn_7 : decode cX11_isIn 7 = .ok (.lload 4, 2) := by decide +kernel
theorem dX11_isIn_9 : decode cX11_isIn 9 = .ok (.lcmp, 1) := by decide +kernel
theorem dX11_isIn_10 : decode cX11_isIn 10 = .ok (.ifCond .gt 7, 3) := by decide +kernel
theorem dX11_isIn_13 : decode cX11_isIn 13 = .ok (.iconst 1, 1) := by decide +kernel
theorem dX11_isIn_14 : decode cX11_isIn 14 = .ok (.goto 4, 3) := by decide +kernel
theorem dX11_isIn_17 : decode cX11_isIn 17 = .ok (.iconst 0, 1) := by decide +kernel
theorem dX11_isIn_18 : decode cX11_isIn 18 = .ok (.ireturn, 1) := by decide +kernel
theorem dX11_has_0 : decode cX11_has 0 = .ok (.iload_n 0, 1) := by decide +kernel
theorem dX11_has_1 : decode cX11_has 1 = .ok (.iload_n 1, 1) := by decide +kernel
theorem dX11_has_2 : decode cX11_has 2 = .ok (.ishr, 1) := by decide +kernel
theorem dX11_has_3 : decode cX11_has 3 = .ok (.iconst 1, 1) := by decide +kernel
theorem dX11_has_4 : decode cX11_has 4 = .ok (.iand, 1) := by decide +kernel
theorem dX11_has_5 : decode cX11_has 5 = .ok (.iconst 1, 1) := by decide +kernel
theorem dX11_has_6 : decode cX11_has 6 = .ok (.if_icmp .ne 7, 3) := by decide +kernel
theorem dX11_has_9 : decode cX11_has 9 = .ok (.iconst 1, 1) := by decide +kernel
theorem dX11_has_10 : decode cX11_has 10 = .ok (.goto 4, 3) := by decide +kernel
theorem dX11_has_13 : decode cX11_has 13 = .ok (.iconst 0, 1) := by decide +kernel
theorem dX11_has_14 : decode cX11_has 14 = .ok (.ireturn, 1) := by decide +kernel
theorem dX11_common_0 : decode cX11_common 0 = .ok (.lload_n 2, 1) := by decide +kernel
theorem dX11_common_1 : decode cX11_common 1 = .ok (.lconst 0, 1) := by decide +kernel
theorem dX11_common_2 : decode cX11_common 2 = .ok (.lcmp, 1) := by decide +kernel
theorem dX11_common_3 : decode cX11_common 3 = .ok (.ifCond .ne 7, 3) := by decide +kernel
theorem dX11_common_6 : decode cX11_common 6 = .ok (.lload_n 0, 1) := by decide +kernel
theorem dX11_common_7 : decode cX11_common 7 = .ok (.goto 10, 3) := by decide +kernel
theorem dX11_common_10 : decode cX11_common 10 = .ok (.lload_n 2, 1) := by decide +kernel
theorem dX11_common_11 : decode cX11_common 11 = .ok (.lload_n 0, 1) := by decide +kernel
theorem dX11_common_12 : decode cX11_common 12 = .ok (.lload_n 2, 1) := by decide +kernel
theorem dX11_common_13 : decode cX11_common 13 = .ok (.lrem, 1) := by decide +kernel
theorem dX11_common_14 : decode cX11_common 14 = .ok (.invokestatic 98, 3) := by decide +kernel
theorem dX11_common_17 : decode cX11_common 17 = .ok (.lreturn, 1) := by decide +kernel
theorem dX11_isAmong_0 : decode cX11_isAmong 0 = .ok (.iconst 0, 1) := by decide +kernel
theorem dX11_isAmong_1 : decode cX11_isAmong 1 = .ok (.istore_n 2, 1) := by decide +kernel
theorem dX11_isAmong_2 : decode cX11_isAmong 2 = .ok (.iload_n 2, 1) := by decide +kernel
theorem dX11_isAmong_3 : decode cX11_isAmong 3 = .ok (.aload_n 0, 1) := by decide +kernel
theorem dX11_isAmong_4 : decode cX11_isAmong 4 = .ok (.invokevirtual 102, 3) := by decide +kernel
theorem dX11_isAmong_7 : decode cX11_isAmong 7 = .ok (.if_icmp .ge 20, 3) := by decide +kernel
theorem dX11_isAmong_10 : decode cX11_isAmong 10 = .ok (.aload_n 0, 1) := by decide +kernel
theorem dX11_isAmong_11 : decode cX11_isAmong 11 = .ok (.iload_n 2, 1) := by decide +kernel
theorem dX11_isAmong_12 : decode cX11_isAmong 12 = .ok (.invokevirtual 108, 3) := by decide +kernel
theorem dX11_isAmong_15 : decode cX11_isAmong 15 = .ok (.iload_n 1, 1) := by decide +kernel
theorem dX11_isAmong_16 : decode cX11_isAmong 16 = .ok (.if_icmp .ne 5, 3) := by decide +kernel
theorem dX11_isAmong_19 : decode cX11_isAmong 19 = .ok (.iconst 1, 1) := by decide +kernel
theorem dX11_isAmong_20 : decode cX11_isAmong 20 = .ok (.ireturn, 1) := by decide +kernel
theorem dX11_isAmong_21 : decode cX11_isAmong 21 = .ok (.iinc 2 1, 3) := by decide +kernel
theorem dX11_isAmong_24 : decode cX11_isAmong 24 = .ok (.goto (-22), 3) := by decide +kernel
theorem dX11_isAmong_27 : decode cX11_isAmong 27 = .ok (.iconst 0, 1) := by decide +kernel
theorem dX11_isAmong_28 : decode cX11_isAmong 28 = .ok (.ireturn, 1) := by decide +kernel
theorem dX11_bytesIn_0 : decode cX11_bytesIn 0 = .ok (.iconst 0, 1) := by decide +kernel
theorem dX11_bytesIn_1 : decode cX11_bytesIn 1 = .ok (.istore_n 1, 1) := by decide +kernel
theorem dX11_bytesIn_2 : decode cX11_bytesIn 2 = .ok (.bipush 24, 2) := by decide +kernel
theorem dX11_bytesIn_4 : decode cX11_bytesIn 4 = .ok (.istore_n 2, 1) := by decide +kernel
theorem dX11_bytesIn_5 : decode cX11_bytesIn 5 = .ok (.iload_n 2, 1) := by decide +kernel
theorem dX11_bytesIn_6 : decode cX11_bytesIn 6 = .ok (.ifCond .lt 27, 3) := by decide +kernel
theorem dX11_bytesIn_9 : decode cX11_bytesIn 9 = .ok (.iload_n 1, 1) := by decide +kernel
theorem dX11_bytesIn_10 : decode cX11_bytesIn 10 = .ok (.iload_n 0, 1) := by decide +kernel
theorem dX11_bytesIn_11 : decode cX11_bytesIn 11 = .ok (.iload_n 2, 1) := by decide +kernel
theorem dX11_bytesIn_12 : decode cX11_bytesIn 12 = .ok (.ishr, 1) := by decide +kernel
theorem dX11_bytesIn_13 : decode cX11_bytesIn 13 = .ok (.sipush 255, 3) := by decide +kernel
theorem dX11_bytesIn_16 : decode cX11_bytesIn 16 = .ok (.iand, 1) := by decide +kernel
theorem dX11_bytesIn_17 : decode cX11_bytesIn 17 = .ok (.ifCond .eq 7, 3) := by decide +kernel
theorem dX11_bytesIn_20 : decode cX11_bytesIn 20 = .ok (.iconst 1, 1) := by decide +kernel
theorem dX11_bytesIn_21 : decode cX11_bytesIn 21 = .ok (.goto 4, 3) := by decide +kernel
theorem dX11_bytesIn_24 : decode cX11_bytesIn 24 = .ok (.iconst 0, 1) := by decide +kernel
theorem dX11_bytesIn_25 : decode cX11_bytesIn 25 = .ok (.iadd, 1) := by decide +kernel
theorem dX11_bytesIn_26 : decode cX11_bytesIn 26 = .ok (.istore_n 1, 1) := by decide +kernel
theorem dX11_bytesIn_27 : decode cX11_bytesIn 27 = .ok (.iinc 2 (-8), 3) := by decide +kernel
theorem dX11_bytesIn_30 : decode cX11_bytesIn 30 = .ok (.goto (-25), 3) := by decide +kernel
theorem dX11_bytesIn_33 : decode cX11_bytesIn 33 = .ok (.iload_n 1, 1) := by decide +kernel
theorem dX11_bytesIn_34 : decode cX11_bytesIn 34 = .ok (.ireturn, 1) := by decide +kernel
theorem dX11_put_0 : decode cX11_put 0 = .ok (.bipush 24, 2) := by decide +kernel
theorem dX11_put_2 : decode cX11_put 2 = .ok (.istore_n 2, 1) := by decide +kernel
theorem dX11_put_3 : decode cX11_put 3 = .ok (.iload_n 2, 1) := by decide +kernel
theorem dX11_put_4 : decode cX11_put 4 = .ok (.ifCond .lt 45, 3) := by decide +kernel
theorem dX11_put_7 : decode cX11_put 7 = .ok (.iload_n 1, 1) := by decide +kernel
theorem dX11_put_8 : decode cX11_put 8 = .ok (.iload_n 2, 1) := by decide +kernel
theorem dX11_put_9 : decode cX11_put 9 = .ok (.ishr, 1) := by decide +kernel
theorem dX11_put_10 : decode cX11_put 10 = .ok (.sipush 255, 3) := by decide +kernel
theorem dX11_put_13 : decode cX11_put 13 = .ok (.iand, 1) := by decide +kernel
theorem dX11_put_14 : decode cX11_put 14 = .ok (.ifCond .ne 6, 3) := by decide +kernel
theorem dX11_put_17 : decode cX11_put 17 = .ok (.goto 26, 3) := by decide +kernel
theorem dX11_put_20 : decode cX11_put 20 = .ok (.aload_n 0, 1) := by decide +kernel
theorem dX11_put_21 : decode cX11_put 21 = .ok (.getfield 9, 3) := by decide +kernel
theorem dX11_put_24 : decode cX11_put 24 = .ok (.aload_n 0, 1) := by decide +kernel
theorem dX11_put_25 : decode cX11_put 25 = .ok (.getfield 112, 3) := by decide +kernel
theorem dX11_put_28 : decode cX11_put 28 = .ok (.iload_n 1, 1) := by decide +kernel
theorem dX11_put_29 : decode cX11_put 29 = .ok (.iload_n 2, 1) := by decide +kernel
theorem dX11_put_30 : decode cX11_put 30 = .ok (.ishr, 1) := by decide +kernel
theorem dX11_put_31 : decode cX11_put 31 = .ok (.i2b, 1) := by decide +kernel
theorem dX11_put_32 : decode cX11_put 32 = .ok (.bastore, 1) := by decide +kernel
theorem dX11_put_33 : decode cX11_put 33 = .ok (.aload_n 0, 1) := by decide +kernel
theorem dX11_put_34 : decode cX11_put 34 = .ok (.dup, 1) := by decide +kernel
theorem dX11_put_35 : decode cX11_put 35 = .ok (.getfield 112, 3) := by decide +kernel
theorem dX11_put_38 : decode cX11_put 38 = .ok (.iconst 1, 1) := by decide +kernel
theorem dX11_put_39 : decode cX11_put 39 = .ok (.iadd, 1) := by decide +kernel
theorem dX11_put_40 : decode cX11_put 40 = .ok (.putfield 112, 3) := by decide +kernel
theorem dX11_put_43 : decode cX11_put 43 = .ok (.iinc 2 (-8), 3) := by decide +kernel
theorem dX11_put_46 : decode cX11_put 46 = .ok (.goto (-43), 3) := by decide +kernel
theorem dX11_put_49 : decode cX11_put 49 = .ok (.return_, 1) := by decide +kernel
theorem dX11_feed_0 : decode cX11_feed 0 = .ok (.aload_n 0, 1) := by decide +kernel
theorem dX11_feed_1 : decode cX11_feed 1 = .ok (.iconst 0, 1) := by decide +kernel
theorem dX11_feed_2 : decode cX11_feed 2 = .ok (.putfield 95, 3) := by decide +kernel
theorem dX11_feed_5 : decode cX11_feed 5 = .ok (.aload_n 0, 1) := by decide +kernel
theorem dX11_feed_6 : decode cX11_feed 6 = .ok (.getfield 112, 3) := by decide +kernel
theorem dX11_feed_9 : decode cX11_feed 9 = .ok (.iload_n 1, 1) := by decide +kernel
theorem dX11_feed_10 : decode cX11_feed 10 = .ok (.invokestatic 114, 3) := by decide +kernel
theorem dX11_feed_13 : decode cX11_feed 13 = .ok (.iadd, 1) := by decide +kernel
theorem dX11_feed_14 : decode cX11_feed 14 = .ok (.iload_n 2, 1) := by decide +kernel
theorem dX11_feed_15 : decode cX11_feed 15 = .ok (.invokestatic 114, 3) := by decide +kernel
theorem dX11_feed_18 : decode cX11_feed 18 = .ok (.iadd, 1) := by decide +kernel
theorem dX11_feed_19 : decode cX11_feed 19 = .ok (.iload_n 3, 1) := by decide +kernel
theorem dX11_feed_20 : decode cX11_feed 20 = .ok (.invokestatic 114, 3) := by decide +kernel
theorem dX11_feed_23 : decode cX11_feed 23 = .ok (.iadd, 1) := by decide +kernel
theorem dX11_feed_24 : decode cX11_feed 24 = .ok (.iload 4, 2) := by decide +kernel
theorem dX11_feed_26 : decode cX11_feed 26 = .ok (.invokestatic 114, 3) := by decide +kernel
theorem dX11_feed_29 : decode cX11_feed 29 = .ok (.iadd, 1) := by decide +kernel
theorem dX11_feed_30 : decode cX11_feed 30 = .ok (.iload 5, 2) := by decide +kernel
theorem dX11_feed_32 : decode cX11_feed 32 = .ok (.invokestatic 114, 3) := by decide +kernel
theorem dX11_feed_35 : decode cX11_feed 35 = .ok (.iadd, 1) := by decide +kernel
theorem dX11_feed_36 : decode cX11_feed 36 = .ok (.sipush 160, 3) := by decide +kernel
theorem dX11_feed_39 : decode cX11_feed 39 = .ok (.if_icmp .le 5, 3) := by decide +kernel
theorem dX11_feed_42 : decode cX11_feed 42 = .ok (.iconst (-1), 1) := by decide +kernel
theorem dX11_feed_43 : decode cX11_feed 43 = .ok (.ireturn, 1) := by decide +kernel
theorem dX11_feed_44 : decode cX11_feed 44 = .ok (.aload_n 0, 1) := by decide +kernel
theorem dX11_feed_45 : decode cX11_feed 45 = .ok (.iload_n 1, 1) := by decide +kernel
theorem dX11_feed_46 : decode cX11_feed 46 = .ok (.invokevirtual 118, 3) := by decide +kernel
theorem dX11_feed_49 : decode cX11_feed 49 = .ok (.aload_n 0, 1) := by decide +kernel
theorem dX11_feed_50 : decode cX11_feed 50 = .ok (.iload_n 2, 1) := by decide +kernel
theorem dX11_feed_51 : decode cX11_feed 51 = .ok (.invokevirtual 118, 3) := by decide +kernel
theorem dX11_feed_54 : decode cX11_feed 54 = .ok (.aload_n 0, 1) := by decide +kernel
theorem dX11_feed_55 : decode cX11_feed 55 = .ok (.iload_n 3, 1) := by decide +kernel
theorem dX11_feed_56 : decode cX11_feed 56 = .ok (.invokevirtual 118, 3) := by decide +kernel
theorem dX11_feed_59 : decode cX11_feed 59 = .ok (.aload_n 0, 1) := by decide +kernel
theorem dX11_feed_60 : decode cX11_feed 60 = .ok (.iload 4, 2) := by decide +kernel
theorem dX11_feed_62 : decode cX11_feed 62 = .ok (.invokevirtual 118, 3) := by decide +kernel
theorem dX11_feed_65 : decode cX11_feed 65 = .ok (.aload_n 0, 1) := by decide +kernel
theorem dX11_feed_66 : decode cX11_feed 66 = .ok (.iload 5, 2) := by decide +kernel
theorem dX11_feed_68 : decode cX11_feed 68 = .ok (.invokevirtual 118, 3) := by decide +kernel
theorem dX11_feed_71 : decode cX11_feed 71 = .ok (.aload_n 0, 1) := by decide +kernel
theorem dX11_feed_72 : decode cX11_feed 72 = .ok (.getfield 112, 3) := by decide +kernel
theorem dX11_feed_75 : decode cX11_feed 75 = .ok (.ireturn, 1) := by decide +kernel
theorem dX11_end_0 : decode cX11_end 0 = .ok (.aload_n 0, 1) := by decide +kernel
theorem dX11_end_1 : decode cX11_end 1 = .ok (.iconst 0, 1) := by decide +kernel
theorem dX11_end_2 : decode cX11_end 2 = .ok (.putfield 95, 3) := by decide +kernel
theorem dX11_end_5 : decode cX11_end 5 = .ok (.iload_n 1, 1) := by decide +kernel
theorem dX11_end_6 : decode cX11_end 6 = .ok (.ifCond .lt 11, 3) := by decide +kernel
theorem dX11_end_9 : decode cX11_end 9 = .ok (.iload_n 1, 1) := by decide +kernel
theorem dX11_end_10 : decode cX11_end 10 = .ok (.aload_n 0, 1) := by decide +kernel
theorem dX11_end_11 : decode cX11_end 11 = .ok (.getfield 112, 3) := by decide +kernel
theorem dX11_end_14 : decode cX11_end 14 = .ok (.if_icmp .le 5, 3) := by decide +kernel
theorem dX11_end_17 : decode cX11_end 17 = .ok (.iconst 0, 1) := by decide +kernel
theorem dX11_end_18 : decode cX11_end 18 = .ok (.ireturn, 1) := by decide +kernel
theorem dX11_end_19 : decode cX11_end 19 = .ok (.aload_n 0, 1) := by decide +kernel
theorem dX11_end_20 : decode cX11_end 20 = .ok (.iload_n 1, 1) := by decide +kernel
theorem dX11_end_21 : decode cX11_end 21 = .ok (.putfield 112, 3) := by decide +kernel
theorem dX11_end_24 : decode cX11_end 24 = .ok (.iconst 1, 1) := by decide +kernel
theorem dX11_end_25 : decode cX11_end 25 = .ok (.ireturn, 1) := by decide +kernel
theorem dX11_look_0 : decode cX11_look 0 = .ok (.aload_n 0, 1) := by decide +kernel
theorem dX11_look_1 : decode cX11_look 1 = .ok (.getfield 122, 3) := by decide +kernel
theorem dX11_look_4 : decode cX11_look 4 = .ok (.aload_n 0, 1) := by decide +kernel
theorem dX11_look_5 : decode cX11_look 5 = .ok (.getfield 125, 3) := by decide +kernel
theorem dX11_look_8 : decode cX11_look 8 = .ok (.if_icmp .ge 35, 3) := by decide +kernel
theorem dX11_look_11 : decode cX11_look 11 = .ok (.aload_n 0, 1) := by decide +kernel
theorem dX11_look_12 : decode cX11_look 12 = .ok (.getfield 23, 3) := by decide +kernel
theorem dX11_look_15 : decode cX11_look 15 = .ok (.aload_n 0, 1) := by decide +kernel
theorem dX11_look_16 : decode cX11_look 16 = .ok (.getfield 128, 3) := by decide +kernel
theorem dX11_look_19 : decode cX11_look 19 = .ok (.aload_n 0, 1) := by decide +kernel
theorem dX11_look_20 : decode cX11_look 20 = .ok (.getfield 122, 3) := by decide +kernel
theorem dX11_look_23 : decode cX11_look 23 = .ok (.iadd, 1) := by decide +kernel
theorem dX11_look_24 : decode cX11_look 24 = .ok (.baload, 1) := by decide +kernel
theorem dX11_look_25 : decode cX11_look 25 = .ok (.bipush 32, 2) := by decide +kernel
theorem dX11_look_27 : decode cX11_look 27 = .ok (.if_icmp .ne 16, 3) := by decide +kernel
theorem dX11_look_30 : decode cX11_look 30 = .ok (.aload_n 0, 1) := by decide +kernel
theorem dX11_look_31 : decode cX11_look 31 = .ok (.dup, 1) := by decide +kernel
theorem dX11_look_32 : decode cX11_look 32 = .ok (.getfield 122, 3) := by decide +kernel
theorem dX11_look_35 : decode cX11_look 35 = .ok (.iconst 1, 1) := by decide +kernel
theorem dX11_look_36 : decode cX11_look 36 = .ok (.iadd, 1) := by decide +kernel
theorem dX11_look_37 : decode cX11_look 37 = .ok (.putfield 122, 3) := by decide +kernel
theorem dX11_look_40 : decode cX11_look 40 = .ok (.goto (-40), 3) := by decide +kernel
theorem dX11_look_43 : decode cX11_look 43 = .ok (.aload_n 0, 1) := by decide +kernel
theorem dX11_look_44 : decode cX11_look 44 = .ok (.getfield 122, 3) := by decide +kernel
theorem dX11_look_47 : decode cX11_look 47 = .ok (.aload_n 0, 1) := by decide +kernel
theorem dX11_look_48 : decode cX11_look 48 = .ok (.getfield 125, 3) := by decide +kernel
theorem dX11_look_51 : decode cX11_look 51 = .ok (.if_icmp .ge 24, 3) := by decide +kernel
theorem dX11_look_54 : decode cX11_look 54 = .ok (.aload_n 0, 1) := by decide +kernel
theorem dX11_look_55 : decode cX11_look 55 = .ok (.getfield 23, 3) := by decide +kernel
theorem dX11_look_58 : decode cX11_look 58 = .ok (.aload_n 0, 1) := by decide +kernel
theorem dX11_look_59 : decode cX11_look 59 = .ok (.getfield 128, 3) := by decide +kernel
theorem dX11_look_62 : decode cX11_look 62 = .ok (.aload_n 0, 1) := by decide +kernel
theorem dX11_look_63 : decode cX11_look 63 = .ok (.getfield 122, 3) := by decide +kernel
theorem dX11_look_66 : decode cX11_look 66 = .ok (.iadd, 1) := by decide +kernel
theorem dX11_look_67 : decode cX11_look 67 = .ok (.baload, 1) := by decide +kernel
theorem dX11_look_68 : decode cX11_look 68 = .ok (.sipush 255, 3) := by decide +kernel
theorem dX11_look_71 : decode cX11_look 71 = .ok (.iand, 1) := by decide +kernel
theorem dX11_look_72 : decode cX11_look 72 = .ok (.goto 4, 3) := by decide +kernel
theorem dX11_look_75 : decode cX11_look 75 = .ok (.iconst (-1), 1) := by decide +kernel
theorem dX11_look_76 : decode cX11_look 76 = .ok (.ireturn, 1) := by decide +kernel
theorem dX11_fails_0 : decode cX11_fails 0 = .ok (.aload_n 0, 1) := by decide +kernel
theorem dX11_fails_1 : decode cX11_fails 1 = .ok (.getfield 131, 3) := by decide +kernel
theorem dX11_fails_4 : decode cX11_fails 4 = .ok (.iconst (-1), 1) := by decide +kernel
theorem dX11_fails_5 : decode cX11_fails 5 = .ok (.if_icmp .ne 11, 3) := by decide +kernel
theorem dX11_fails_8 : decode cX11_fails 8 = .ok (.aload_n 0, 1) := by decide +kernel
theorem dX11_fails_9 : decode cX11_fails 9 = .ok (.aload_n 0, 1) := by decide +kernel
theorem dX11_fails_10 : decode cX11_fails 10 = .ok (.getfield 122, 3) := by decide +kernel
theorem dX11_fails_13 : decode cX11_fails 13 = .ok (.putfield 131, 3) := by decide +kernel
theorem dX11_fails_16 : decode cX11_fails 16 = .ok (.iconst 0, 1) := by decide +kernel
theorem dX11_fails_17 : decode cX11_fails 17 = .ok (.ireturn, 1) := by decide +kernel
theorem dX11_goesIn_0 : decode cX11_goesIn 0 = .ok (.aload_n 0, 1) := by decide +kernel
theorem dX11_goesIn_1 : decode cX11_goesIn 1 = .ok (.getfield 134, 3) := by decide +kernel
theorem dX11_goesIn_4 : decode cX11_goesIn 4 = .ok (.bipush 6, 2) := by decide +kernel
theorem dX11_goesIn_6 : decode cX11_goesIn 6 = .ok (.if_icmp .ne 8, 3) := by decide +kernel
theorem dX11_goesIn_9 : decode cX11_goesIn 9 = .ok (.aload_n 0, 1) := by decide +kernel
theorem dX11_goesIn_10 : decode cX11_goesIn 10 = .ok (.invokevirtual 137, 3) := by decide +kernel
theorem dX11_goesIn_13 : decode cX11_goesIn 13 = .ok (.ireturn, 1) := by decide +kernel
theorem dX11_goesIn_14 : decode cX11_goesIn 14 = .ok (.aload_n 0, 1) := by decide +kernel
theorem dX11_goesIn_15 : decode cX11_goesIn 15 = .ok (.dup, 1) := by decide +kernel
theorem dX11_goesIn_16 : decode cX11_goesIn 16 = .ok (.getfield 134, 3) := by decide +kernel
theorem dX11_goesIn_19 : decode cX11_goesIn 19 = .ok (.iconst 1, 1) := by decide +kernel
theorem dX11_goesIn_20 : decode cX11_goesIn 20 = .ok (.iadd, 1) := by decide +kernel
theorem dX11_goesIn_21 : decode cX11_goesIn 21 = .ok (.putfield 134, 3) := by decide +kernel
theorem dX11_goesIn_24 : decode cX11_goesIn 24 = .ok (.aload_n 0, 1) := by decide +kernel
theorem dX11_goesIn_25 : decode cX11_goesIn 25 = .ok (.dup, 1) := by decide +kernel
theorem dX11_goesIn_26 : decode cX11_goesIn 26 = .ok (.getfield 122, 3) := by decide +kernel
theorem dX11_goesIn_29 : decode cX11_goesIn 29 = .ok (.iconst 1, 1) := by decide +kernel
theorem dX11_goesIn_30 : decode cX11_goesIn 30 = .ok (.iadd, 1) := by decide +kernel
theorem dX11_goesIn_31 : decode cX11_goesIn 31 = .ok (.putfield 122, 3) := by decide +kernel
theorem dX11_goesIn_34 : decode cX11_goesIn 34 = .ok (.iconst 1, 1) := by decide +kernel
theorem dX11_goesIn_35 : decode cX11_goesIn 35 = .ok (.ireturn, 1) := by decide +kernel
theorem dX11_takes_0 : decode cX11_takes 0 = .ok (.aload_n 0, 1) := by decide +kernel
theorem dX11_takes_1 : decode cX11_takes 1 = .ok (.getfield 131, 3) := by decide +kernel
theorem dX11_takes_4 : decode cX11_takes 4 = .ok (.iconst (-1), 1) := by decide +kernel
theorem dX11_takes_5 : decode cX11_takes 5 = .ok (.if_icmp .ne 11, 3) := by decide +kernel
theorem dX11_takes_8 : decode cX11_takes 8 = .ok (.aload_n 0, 1) := by decide +kernel
theorem dX11_takes_9 : decode cX11_takes 9 = .ok (.invokevirtual 141, 3) := by decide +kernel
theorem dX11_takes_12 : decode cX11_takes 12 = .ok (.iload_n 1, 1) := by decide +kernel
theorem dX11_takes_13 : decode cX11_takes 13 = .ok (.if_icmp .eq 8, 3) := by decide +kernel
theorem dX11_takes_16 : decode cX11_takes 16 = .ok (.aload_n 0, 1) := by decide +kernel
theorem dX11_takes_17 : decode cX11_takes 17 = .ok (.invokevirtual 137, 3) := by decide +kernel
theorem dX11_takes_20 : decode cX11_takes 20 = .ok (.ireturn, 1) := by decide +kernel
theorem dX11_takes_21 : decode cX11_takes 21 = .ok (.aload_n 0, 1) := by decide +kernel
theorem dX11_takes_22 : decode cX11_takes 22 = .ok (.dup, 1) := by decide +kernel
theorem dX11_takes_23 : decode cX11_takes 23 = .ok (.getfield 122, 3) := by decide +kernel
theorem dX11_takes_26 : decode cX11_takes 26 = .ok (.iconst 1, 1) := by decide +kernel
theorem dX11_takes_27 : decode cX11_takes 27 = .ok (.iadd, 1) := by decide +kernel
theorem dX11_takes_28 : decode cX11_takes 28 = .ok (.putfield 122, 3) := by decide +kernel
theorem dX11_takes_31 : decode cX11_takes 31 = .ok (.iconst 1, 1) := by decide +kernel
theorem dX11_takes_32 : decode cX11_takes 32 = .ok (.ireturn, 1) := by decide +kernel
theorem dX11_isDigit_0 : decode cX11_isDigit 0 = .ok (.aload_n 0, 1) := by decide +kernel
theorem dX11_isDigit_1 : decode cX11_isDigit 1 = .ok (.getfield 122, 3) := by decide +kernel
theorem dX11_isDigit_4 : decode cX11_isDigit 4 = .ok (.aload_n 0, 1) := by decide +kernel
theorem dX11_isDigit_5 : decode cX11_isDigit 5 = .ok (.getfield 125, 3) := by decide +kernel
theorem dX11_isDigit_8 : decode cX11_isDigit 8 = .ok (.if_icmp .ge 45, 3) := by decide +kernel
theorem dX11_isDigit_11 : decode cX11_isDigit 11 = .ok (.aload_n 0, 1) := by decide +kernel
theorem dX11_isDigit_12 : decode cX11_isDigit 12 = .ok (.getfield 23, 3) := by decide +kernel
theorem dX11_isDigit_15 : decode cX11_isDigit 15 = .ok (.aload_n 0, 1) := by decide +kernel
theorem dX11_isDigit_16 : decode cX11_isDigit 16 = .ok (.getfield 128, 3) := by decide +kernel
theorem dX11_isDigit_19 : decode cX11_isDigit 19 = .ok (.aload_n 0, 1) := by decide +kernel
theorem dX11_isDigit_20 : decode cX11_isDigit 20 = .ok (.getfield 122, 3) := by decide +kernel
theorem dX11_isDigit_23 : decode cX11_isDigit 23 = .ok (.iadd, 1) := by decide +kernel
theorem dX11_isDigit_24 : decode cX11_isDigit 24 = .ok (.baload, 1) := by decide +kernel
theorem dX11_isDigit_25 : decode cX11_isDigit 25 = .ok (.bipush 48, 2) := by decide +kernel
theorem dX11_isDigit_27 : decode cX11_isDigit 27 = .ok (.if_icmp .lt 26, 3) := by decide +kernel
theorem dX11_isDigit_30 : decode cX11_isDigit 30 = .ok (.aload_n 0, 1) := by decide +kernel
theorem dX11_isDigit_31 : decode cX11_isDigit 31 = .ok (.getfield 23, 3) := by decide +kernel
theorem dX11_isDigit_34 : decode cX11_isDigit 34 = .ok (.aload_n 0, 1) := by decide +kernel
theorem dX11_isDigit_35 : decode cX11_isDigit 35 = .ok (.getfield 128, 3) := by decide +kernel
theorem dX11_isDigit_38 : decode cX11_isDigit 38 = .ok (.aload_n 0, 1) := by decide +kernel
theorem dX11_isDigit_39 : decode cX11_isDigit 39 = .ok (.getfield 122, 3) := by decide +kernel
theorem dX11_isDigit_42 : decode cX11_isDigit 42 = .ok (.iadd, 1) := by decide +kernel
theorem dX11_isDigit_43 : decode cX11_isDigit 43 = .ok (.baload, 1) := by decide +kernel
theorem dX11_isDigit_44 : decode cX11_isDigit 44 = .ok (.bipush 57, 2) := by decide +kernel
theorem dX11_isDigit_46 : decode cX11_isDigit 46 = .ok (.if_icmp .gt 7, 3) := by decide +kernel
theorem dX11_isDigit_49 : decode cX11_isDigit 49 = .ok (.iconst 1, 1) := by decide +kernel
theorem dX11_isDigit_50 : decode cX11_isDigit 50 = .ok (.goto 4, 3) := by decide +kernel
theorem dX11_isDigit_53 : decode cX11_isDigit 53 = .ok (.iconst 0, 1) := by decide +kernel
theorem dX11_isDigit_54 : decode cX11_isDigit 54 = .ok (.ireturn, 1) := by decide +kernel
theorem dX11_within_0 : decode cX11_within 0 = .ok (.ldc2_w 144, 3) := by decide +kernel
theorem dX11_within_3 : decode cX11_within 3 = .ok (.ldc2_w 146, 3) := by decide +kernel
theorem dX11_within_6 : decode cX11_within 6 = .ok (.lload_n 0, 1) := by decide +kernel
theorem dX11_within_7 : decode cX11_within 7 = .ok (.invokestatic 148, 3) := by decide +kernel
theorem dX11_within_10 : decode cX11_within 10 = .ok (.invokestatic 153, 3) := by decide +kernel
theorem dX11_within_13 : decode cX11_within 13 = .ok (.l2i, 1) := by decide +kernel
theorem dX11_within_14 : decode cX11_within 14 = .ok (.ireturn, 1) := by decide +kernel
theorem dX11_atom_0 : decode cX11_atom 0 = .ok (.aload_n 0, 1) := by decide +kernel
theorem dX11_atom_1 : decode cX11_atom 1 = .ok (.invokevirtual 141, 3) := by decide +kernel
theorem dX11_atom_4 : decode cX11_atom 4 = .ok (.istore_n 1, 1) := by decide +kernel
theorem dX11_atom_5 : decode cX11_atom 5 = .ok (.ldc 32, 2) := by decide +kernel
theorem dX11_atom_7 : decode cX11_atom 7 = .ok (.iload_n 1, 1) := by decide +kernel
theorem dX11_atom_8 : decode cX11_atom 8 = .ok (.invokestatic 156, 3) := by decide +kernel
theorem dX11_atom_11 : decode cX11_atom 11 = .ok (.ifCond .eq 20, 3) := by decide +kernel
theorem dX11_atom_14 : decode cX11_atom 14 = .ok (.aload_n 0, 1) := by decide +kernel
theorem dX11_atom_15 : decode cX11_atom 15 = .ok (.dup, 1) := by decide +kernel
theorem dX11_atom_16 : decode cX11_atom 16 = .ok (.getfield 122, 3) := by decide +kernel
theorem dX11_atom_19 : decode cX11_atom 19 = .ok (.iconst 1, 1) := by decide +kernel
theorem dX11_atom_20 : decode cX11_atom 20 = .ok (.iadd, 1) := by decide +kernel
theorem dX11_atom_21 : decode cX11_atom 21 = .ok (.putfield 122, 3) := by decide +kernel
theorem dX11_atom_24 : decode cX11_atom 24 = .ok (.aload_n 0, 1) := by decide +kernel
theorem dX11_atom_25 : decode cX11_atom 25 = .ok (.getfield 20, 3) := by decide +kernel
theorem dX11_atom_28 : decode cX11_atom 28 = .ok (.iload_n 1, 1) := by decide +kernel
theorem dX11_atom_29 : decode cX11_atom 29 = .ok (.iaload, 1) := by decide +kernel
theorem dX11_atom_30 : decode cX11_atom 30 = .ok (.ireturn, 1) := by decide +kernel
theorem dX11_atom_31 : decode cX11_atom 31 = .ok (.iload_n 1, 1) := by decide +kernel
theorem dX11_atom_32 : decode cX11_atom 32 = .ok (.bipush 91, 2) := by decide +kernel
theorem dX11_atom_34 : decode cX11_atom 34 = .ok (.if_icmp .ne 40, 3) := by decide +kernel
theorem dX11_atom_37 : decode cX11_atom 37 = .ok (.aload_n 0, 1) := by decide +kernel
theorem dX11_atom_38 : decode cX11_atom 38 = .ok (.invokevirtual 160, 3) := by decide +kernel
theorem dX11_atom_41 : decode cX11_atom 41 = .ok (.ifCond .ne 5, 3) := by decide +kernel
theorem dX11_atom_44 : decode cX11_atom 44 = .ok (.iconst 0, 1) := by decide +kernel
theorem dX11_atom_45 : decode cX11_atom 45 = .ok (.ireturn, 1) := by decide +kernel
theorem dX11_atom_46 : decode cX11_atom 46 = .ok (.aload_n 0, 1) := by decide +kernel
theorem dX11_atom_47 : decode cX11_atom 47 = .ok (.invokevirtual 163, 3) := by decide +kernel
theorem dX11_atom_50 : decode cX11_atom 50 = .ok (.istore_n 2, 1) := by decide +kernel
theorem dX11_atom_51 : decode cX11_atom 51 = .ok (.aload_n 0, 1) := by decide +kernel
theorem dX11_atom_52 : decode cX11_atom 52 = .ok (.bipush 93, 2) := by decide +kernel
theorem dX11_atom_54 : decode cX11_atom 54 = .ok (.invokevirtual 166, 3) := by decide +kernel
theorem dX11_atom_57 : decode cX11_atom 57 = .ok (.ifCond .ne 5, 3) := by decide +kernel
theorem dX11_atom_60 : decode cX11_atom 60 = .ok (.iconst 0, 1) := by decide +kernel
theorem dX11_atom_61 : decode cX11_atom 61 = .ok (.ireturn, 1) := by decide +kernel
theorem dX11_atom_62 : decode cX11_atom 62 = .ok (.aload_n 0, 1) := by decide +kernel
theorem dX11_atom_63 : decode cX11_atom 63 = .ok (.dup, 1) := by decide +kernel
theorem dX11_atom_64 : decode cX11_atom 64 = .ok (.getfield 134, 3) := by decide +kernel
theorem dX11_atom_67 : decode cX11_atom 67 = .ok (.iconst 1, 1) := by decide +kernel
theorem dX11_atom_68 : decode cX11_atom 68 = .ok (.isub, 1) := by decide +kernel
theorem dX11_atom_69 : decode cX11_atom 69 = .ok (.putfield 134, 3) := by decide +kernel
theorem dX11_atom_72 : decode cX11_atom 72 = .ok (.iload_n 2, 1) := by decide +kernel
theorem dX11_atom_73 : decode cX11_atom 73 = .ok (.ireturn, 1) := by decide +kernel
theorem dX11_atom_74 : decode cX11_atom 74 = .ok (.aload_n 0, 1) := by decide +kernel
theorem dX11_atom_75 : decode cX11_atom 75 = .ok (.invokevirtual 170, 3) := by decide +kernel
theorem dX11_atom_78 : decode cX11_atom 78 = .ok (.ifCond .ne 8, 3) := by decide +kernel
theorem dX11_atom_81 : decode cX11_atom 81 = .ok (.aload_n 0, 1) := by decide +kernel
theorem dX11_atom_82 : decode cX11_atom 82 = .ok (.invokevirtual 137, 3) := by decide +kernel
theorem dX11_atom_85 : decode cX11_atom 85 = .ok (.pop, 1) := by decide +kernel
theorem dX11_atom_86 : decode cX11_atom 86 = .ok (.iconst 0, 1) := by decide +kernel
theorem dX11_atom_87 : decode cX11_atom 87 = .ok (.istore_n 2, 1) := by decide +kernel
theorem dX11_atom_88 : decode cX11_atom 88 = .ok (.iconst 0, 1) := by decide +kernel
theorem dX11_atom_89 : decode cX11_atom 89 = .ok (.istore_n 3, 1) := by decide +kernel
theorem dX11_atom_90 : decode cX11_atom 90 = .ok (.aload_n 0, 1) := by decide +kernel
theorem dX11_atom_91 : decode cX11_atom 91 = .ok (.invokevirtual 170, 3) := by decide +kernel
theorem dX11_atom_94 : decode cX11_atom 94 = .ok (.ifCond .eq 62, 3) := by decide +kernel
theorem dX11_atom_97 : decode cX11_atom 97 = .ok (.aload_n 0, 1) := by decide +kernel
theorem dX11_atom_98 : decode cX11_atom 98 = .ok (.getfield 131, 3) := by decide +kernel
theorem dX11_atom_101 : decode cX11_atom 101 = .ok (.iconst (-1), 1) := by decide +kernel
theorem dX11_atom_102 : decode cX11_atom 102 = .ok (.if_icmp .ne 54, 3) := by decide +kernel
theorem dX11_atom_105 : decode cX11_atom 105 = .ok (.iload_n 3, 1) := by decide +kernel
theorem dX11_atom_106 : decode cX11_atom 106 = .ok (.iconst 4, 1) := by decide +kernel
theorem dX11_atom_107 : decode cX11_atom 107 = .ok (.if_icmp .ne 10, 3) := by decide +kernel
theorem dX11_atom_110 : decode cX11_atom 110 = .ok (.aload_n 0, 1) := by decide +kernel
theorem dX11_atom_111 : decode cX11_atom 111 = .ok (.invokevirtual 137, 3) := by decide +kernel
theorem dX11_atom_114 : decode cX11_atom 114 = .ok (.pop, 1) := by decide +kernel
theorem dX11_atom_115 : decode cX11_atom 115 = .ok (.iconst 0, 1) := by decide +kernel
theorem dX11_atom_116 : decode cX11_atom 116 = .ok (.ireturn, 1) := by decide +kernel
theorem dX11_atom_117 : decode cX11_atom 117 = .ok (.bipush 10, 2) := by decide +kernel
theorem dX11_atom_119 : decode cX11_atom 119 = .ok (.iload_n 2, 1) := by decide +kernel
theorem dX11_atom_120 : decode cX11_atom 120 = .ok (.imul, 1) := by decide +kernel
theorem dX11_atom_121 : decode cX11_atom 121 = .ok (.aload_n 0, 1) := by decide +kernel
theorem dX11_atom_122 : decode cX11_atom 122 = .ok (.getfield 23, 3) := by decide +kernel
theorem dX11_atom_125 : decode cX11_atom 125 = .ok (.aload_n 0, 1) := by decide +kernel
theorem dX11_atom_126 : decode cX11_atom 126 = .ok (.getfield 128, 3) := by decide +kernel
theorem dX11_atom_129 : decode cX11_atom 129 = .ok (.aload_n 0, 1) := by decide +kernel
theorem dX11_atom_130 : decode cX11_atom 130 = .ok (.getfield 122, 3) := by decide +kernel
theorem dX11_atom_133 : decode cX11_atom 133 = .ok (.iadd, 1) := by decide +kernel
theorem dX11_atom_134 : decode cX11_atom 134 = .ok (.baload, 1) := by decide +kernel
theorem dX11_atom_135 : decode cX11_atom 135 = .ok (.iadd, 1) := by decide +kernel
theorem dX11_atom_136 : decode cX11_atom 136 = .ok (.bipush 48, 2) := by decide +kernel
theorem dX11_atom_138 : decode cX11_atom 138 = .ok (.isub, 1) := by decide +kernel
theorem dX11_atom_139 : decode cX11_atom 139 = .ok (.istore_n 2, 1) := by decide +kernel
theorem dX11_atom_140 : decode cX11_atom 140 = .ok (.aload_n 0, 1) := by decide +kernel
theorem dX11_atom_141 : decode cX11_atom 141 = .ok (.dup, 1) := by decide +kernel
theorem dX11_atom_142 : decode cX11_atom 142 = .ok (.getfield 122, 3) := by decide +kernel
theorem dX11_atom_145 : decode cX11_atom 145 = .ok (.iconst 1, 1) := by decide +kernel
theorem dX11_atom_146 : decode cX11_atom 146 = .ok (.iadd, 1) := by decide +kernel
theorem dX11_atom_147 : decode cX11_atom 147 = .ok (.putfield 122, 3) := by decide +kernel
theorem dX11_atom_150 : decode cX11_atom 150 = .ok (.iinc 3 1, 3) := by decide +kernel
theorem dX11_atom_153 : decode cX11_atom 153 = .ok (.goto (-63), 3) := by decide +kernel
theorem dX11_atom_156 : decode cX11_atom 156 = .ok (.iload_n 2, 1) := by decide +kernel
theorem dX11_atom_157 : decode cX11_atom 157 = .ok (.ireturn, 1) := by decide +kernel
theorem dX11_term_0 : decode cX11_term 0 = .ok (.aload_n 0, 1) := by decide +kernel
theorem dX11_term_1 : decode cX11_term 1 = .ok (.invokevirtual 173, 3) := by decide +kernel
theorem dX11_term_4 : decode cX11_term 4 = .ok (.istore_n 1, 1) := by decide +kernel
theorem dX11_term_5 : decode cX11_term 5 = .ok (.aload_n 0, 1) := by decide +kernel
theorem dX11_term_6 : decode cX11_term 6 = .ok (.getfield 131, 3) := by decide +kernel
theorem dX11_term_9 : decode cX11_term 9 = .ok (.iconst (-1), 1) := by decide +kernel
theorem dX11_term_10 : decode cX11_term 10 = .ok (.if_icmp .ne 84, 3) := by decide +kernel
theorem dX11_term_13 : decode cX11_term 13 = .ok (.aload_n 0, 1) := by decide +kernel
theorem dX11_term_14 : decode cX11_term 14 = .ok (.invokevirtual 141, 3) := by decide +kernel
theorem dX11_term_17 : decode cX11_term 17 = .ok (.bipush 42, 2) := by decide +kernel
theorem dX11_term_19 : decode cX11_term 19 = .ok (.if_icmp .eq 12, 3) := by decide +kernel
theorem dX11_term_22 : decode cX11_term 22 = .ok (.aload_n 0, 1) := by decide +kernel
theorem dX11_term_23 : decode cX11_term 23 = .ok (.invokevirtual 141, 3) := by decide +kernel
theorem dX11_term_26 : decode cX11_term 26 = .ok (.bipush 47, 2) := by decide +kernel
theorem dX11_term_28 : decode cX11_term 28 = .ok (.if_icmp .ne 66, 3) := by decide +kernel
theorem dX11_term_31 : decode cX11_term 31 = .ok (.aload_n 0, 1) := by decide +kernel
theorem dX11_term_32 : decode cX11_term 32 = .ok (.invokevirtual 141, 3) := by decide +kernel
theorem dX11_term_35 : decode cX11_term 35 = .ok (.bipush 42, 2) := by decide +kernel
theorem dX11_term_37 : decode cX11_term 37 = .ok (.if_icmp .ne 7, 3) := by decide +kernel
theorem dX11_term_40 : decode cX11_term 40 = .ok (.iconst 1, 1) := by decide +kernel
theorem dX11_term_41 : decode cX11_term 41 = .ok (.goto 4, 3) := by decide +kernel
theorem dX11_term_44 : decode cX11_term 44 = .ok (.iconst 0, 1) := by decide +kernel
theorem dX11_term_45 : decode cX11_term 45 = .ok (.istore_n 2, 1) := by decide +kernel
theorem dX11_term_46 : decode cX11_term 46 = .ok (.aload_n 0, 1) := by decide +kernel
theorem dX11_term_47 : decode cX11_term 47 = .ok (.dup, 1) := by decide +kernel
theorem dX11_term_48 : decode cX11_term 48 = .ok (.getfield 122, 3) := by decide +kernel
theorem dX11_term_51 : decode cX11_term 51 = .ok (.iconst 1, 1) := by decide +kernel
theorem dX11_term_52 : decode cX11_term 52 = .ok (.iadd, 1) := by decide +kernel
theorem dX11_term_53 : decode cX11_term 53 = .ok (.putfield 122, 3) := by decide +kernel
theorem dX11_term_56 : decode cX11_term 56 = .ok (.aload_n 0, 1) := by decide +kernel
theorem dX11_term_57 : decode cX11_term 57 = .ok (.invokevirtual 173, 3) := by decide +kernel
theorem dX11_term_60 : decode cX11_term 60 = .ok (.i2l, 1) := by decide +kernel
theorem dX11_term_61 : decode cX11_term 61 = .ok (.lstore_n 3, 1) := by decide +kernel
theorem dX11_term_62 : decode cX11_term 62 = .ok (.iload_n 2, 1) := by decide +kernel
theorem dX11_term_63 : decode cX11_term 63 = .ok (.ifCond .eq 10, 3) := by decide +kernel
theorem dX11_term_66 : decode cX11_term 66 = .ok (.iload_n 1, 1) := by decide +kernel
theorem dX11_term_67 : decode cX11_term 67 = .ok (.i2l, 1) := by decide +kernel
theorem dX11_term_68 : decode cX11_term 68 = .ok (.lload_n 3, 1) := by decide +kernel
theorem dX11_term_69 : decode cX11_term 69 = .ok (.lmul, 1) := by decide +kernel
theorem dX11_term_70 : decode cX11_term 70 = .ok (.goto 17, 3) := by decide +kernel
theorem dX11_term_73 : decode cX11_term 73 = .ok (.lload_n 3, 1) := by decide +kernel
theorem dX11_term_74 : decode cX11_term 74 = .ok (.lconst 0, 1) := by decide +kernel
theorem dX11_term_75 : decode cX11_term 75 = .ok (.lcmp, 1) := by decide +kernel
theorem dX11_term_76 : decode cX11_term 76 = .ok (.ifCond .ne 7, 3) := by decide +kernel
theorem dX11_term_79 : decode cX11_term 79 = .ok (.lconst 0, 1) := by decide +kernel
theorem dX11_term_80 : decode cX11_term 80 = .ok (.goto 7, 3) := by decide +kernel
theorem dX11_term_83 : decode cX11_term 83 = .ok (.iload_n 1, 1) := by decide +kernel
theorem dX11_term_84 : decode cX11_term 84 = .ok (.i2l, 1) := by decide +kernel
theorem dX11_term_85 : decode cX11_term 85 = .ok (.lload_n 3, 1) := by decide +kernel
theorem dX11_term_86 : decode cX11_term 86 = .ok (.ldiv, 1) := by decide +kernel
theorem dX11_term_87 : decode cX11_term 87 = .ok (.invokestatic 176, 3) := by decide +kernel
theorem dX11_term_90 : decode cX11_term 90 = .ok (.istore_n 1, 1) := by decide +kernel
theorem dX11_term_91 : decode cX11_term 91 = .ok (.goto (-86), 3) := by decide +kernel
theorem dX11_term_94 : decode cX11_term 94 = .ok (.iload_n 1, 1) := by decide +kernel
theorem dX11_term_95 : decode cX11_term 95 = .ok (.ireturn, 1) := by decide +kernel
theorem dX11_sum_0 : decode cX11_sum 0 = .ok (.aload_n 0, 1) := by decide +kernel
theorem dX11_sum_1 : decode cX11_sum 1 = .ok (.invokevirtual 180, 3) := by decide +kernel
theorem dX11_sum_4 : decode cX11_sum 4 = .ok (.istore_n 1, 1) := by decide +kernel
theorem dX11_sum_5 : decode cX11_sum 5 = .ok (.aload_n 0, 1) := by decide +kernel
theorem dX11_sum_6 : decode cX11_sum 6 = .ok (.getfield 131, 3) := by decide +kernel
theorem dX11_sum_9 : decode cX11_sum 9 = .ok (.iconst (-1), 1) := by decide +kernel
theorem dX11_sum_10 : decode cX11_sum 10 = .ok (.if_icmp .ne 74, 3) := by decide +kernel
theorem dX11_sum_13 : decode cX11_sum 13 = .ok (.aload_n 0, 1) := by decide +kernel
theorem dX11_sum_14 : decode cX11_sum 14 = .ok (.invokevirtual 141, 3) := by decide +kernel
theorem dX11_sum_17 : decode cX11_sum 17 = .ok (.bipush 43, 2) := by decide +kernel
theorem dX11_sum_19 : decode cX11_sum 19 = .ok (.if_icmp .eq 12, 3) := by decide +kernel
theorem dX11_sum_22 : decode cX11_sum 22 = .ok (.aload_n 0, 1) := by decide +kernel
theorem dX11_sum_23 : decode cX11_sum 23 = .ok (.invokevirtual 141, 3) := by decide +kernel
theorem dX11_sum_26 : decode cX11_sum 26 = .ok (.bipush 45, 2) := by decide +kernel
theorem dX11_sum_28 : decode cX11_sum 28 = .ok (.if_icmp .ne 56, 3) := by decide +kernel
theorem dX11_sum_31 : decode cX11_sum 31 = .ok (.aload_n 0, 1) := by decide +kernel
theorem dX11_sum_32 : decode cX11_sum 32 = .ok (.invokevirtual 141, 3) := by decide +kernel
theorem dX11_sum_35 : decode cX11_sum 35 = .ok (.bipush 43, 2) := by decide +kernel
theorem dX11_sum_37 : decode cX11_sum 37 = .ok (.if_icmp .ne 7, 3) := by decide +kernel
theorem dX11_sum_40 : decode cX11_sum 40 = .ok (.iconst 1, 1) := by decide +kernel
theorem dX11_sum_41 : decode cX11_sum 41 = .ok (.goto 4, 3) := by decide +kernel
theorem dX11_sum_44 : decode cX11_sum 44 = .ok (.iconst 0, 1) := by decide +kernel
theorem dX11_sum_45 : decode cX11_sum 45 = .ok (.istore_n 2, 1) := by decide +kernel
theorem dX11_sum_46 : decode cX11_sum 46 = .ok (.aload_n 0, 1) := by decide +kernel
theorem dX11_sum_47 : decode cX11_sum 47 = .ok (.dup, 1) := by decide +kernel
theorem dX11_sum_48 : decode cX11_sum 48 = .ok (.getfield 122, 3) := by decide +kernel
theorem dX11_sum_51 : decode cX11_sum 51 = .ok (.iconst 1, 1) := by decide +kernel
theorem dX11_sum_52 : decode cX11_sum 52 = .ok (.iadd, 1) := by decide +kernel
theorem dX11_sum_53 : decode cX11_sum 53 = .ok (.putfield 122, 3) := by decide +kernel
theorem dX11_sum_56 : decode cX11_sum 56 = .ok (.aload_n 0, 1) := by decide +kernel
theorem dX11_sum_57 : decode cX11_sum 57 = .ok (.invokevirtual 180, 3) := by decide +kernel
theorem dX11_sum_60 : decode cX11_sum 60 = .ok (.i2l, 1) := by decide +kernel
theorem dX11_sum_61 : decode cX11_sum 61 = .ok (.lstore_n 3, 1) := by decide +kernel
theorem dX11_sum_62 : decode cX11_sum 62 = .ok (.iload_n 2, 1) := by decide +kernel
theorem dX11_sum_63 : decode cX11_sum 63 = .ok (.ifCond .eq 10, 3) := by decide +kernel
theorem dX11_sum_66 : decode cX11_sum 66 = .ok (.iload_n 1, 1) := by decide +kernel
theorem dX11_sum_67 : decode cX11_sum 67 = .ok (.i2l, 1) := by decide +kernel
theorem dX11_sum_68 : decode cX11_sum 68 = .ok (.lload_n 3, 1) := by decide +kernel
theorem dX11_sum_69 : decode cX11_sum 69 = .ok (.ladd, 1) := by decide +kernel
theorem dX11_sum_70 : decode cX11_sum 70 = .ok (.goto 7, 3) := by decide +kernel
theorem dX11_sum_73 : decode cX11_sum 73 = .ok (.iload_n 1, 1) := by decide +kernel
theorem dX11_sum_74 : decode cX11_sum 74 = .ok (.i2l, 1) := by decide +kernel
theorem dX11_sum_75 : decode cX11_sum 75 = .ok (.lload_n 3, 1) := by decide +kernel
theorem dX11_sum_76 : decode cX11_sum 76 = .ok (.lsub, 1) := by decide +kernel
theorem dX11_sum_77 : decode cX11_sum 77 = .ok (.invokestatic 176, 3) := by decide +kernel
theorem dX11_sum_80 : decode cX11_sum 80 = .ok (.istore_n 1, 1) := by decide +kernel
theorem dX11_sum_81 : decode cX11_sum 81 = .ok (.goto (-76), 3) := by decide +kernel
theorem dX11_sum_84 : decode cX11_sum 84 = .ok (.iload_n 1, 1) := by decide +kernel
theorem dX11_sum_85 : decode cX11_sum 85 = .ok (.ireturn, 1) := by decide +kernel
theorem dX11_isSign_0 : decode cX11_isSign 0 = .ok (.iload_n 0, 1) := by decide +kernel
theorem dX11_isSign_1 : decode cX11_isSign 1 = .ok (.bipush 61, 2) := by decide +kernel
theorem dX11_isSign_3 : decode cX11_isSign 3 = .ok (.if_icmp .eq 15, 3) := by decide +kernel
theorem dX11_isSign_6 : decode cX11_isSign 6 = .ok (.iload_n 0, 1) := by decide +kernel
theorem dX11_isSign_7 : decode cX11_isSign 7 = .ok (.bipush 60, 2) := by decide +kernel
theorem dX11_isSign_9 : decode cX11_isSign 9 = .ok (.if_icmp .eq 9, 3) := by decide +kernel
theorem dX11_isSign_12 : decode cX11_isSign 12 = .ok (.iload_n 0, 1) := by decide +kernel
theorem dX11_isSign_13 : decode cX11_isSign 13 = .ok (.bipush 62, 2) := by decide +kernel
theorem dX11_isSign_15 : decode cX11_isSign 15 = .ok (.if_icmp .ne 7, 3) := by decide +kernel
theorem dX11_isSign_18 : decode cX11_isSign 18 = .ok (.iconst 1, 1) := by decide +kernel
theorem dX11_isSign_19 : decode cX11_isSign 19 = .ok (.goto 4, 3) := by decide +kernel
theorem dX11_isSign_22 : decode cX11_isSign 22 = .ok (.iconst 0, 1) := by decide +kernel
theorem dX11_isSign_23 : decode cX11_isSign 23 = .ok (.ireturn, 1) := by decide +kernel
theorem dX11_compares_0 : decode cX11_compares 0 = .ok (.iload_n 1, 1) := by decide +kernel
theorem dX11_compares_1 : decode cX11_compares 1 = .ok (.ifCond .eq 7, 3) := by decide +kernel
theorem dX11_compares_4 : decode cX11_compares 4 = .ok (.iload_n 2, 1) := by decide +kernel
theorem dX11_compares_5 : decode cX11_compares 5 = .ok (.goto 7, 3) := by decide +kernel
theorem dX11_compares_8 : decode cX11_compares 8 = .ok (.aload_n 0, 1) := by decide +kernel
theorem dX11_compares_9 : decode cX11_compares 9 = .ok (.invokevirtual 163, 3) := by decide +kernel
theorem dX11_compares_12 : decode cX11_compares 12 = .ok (.istore_n 3, 1) := by decide +kernel
theorem dX11_compares_13 : decode cX11_compares 13 = .ok (.aload_n 0, 1) := by decide +kernel
theorem dX11_compares_14 : decode cX11_compares 14 = .ok (.getfield 131, 3) := by decide +kernel
theorem dX11_compares_17 : decode cX11_compares 17 = .ok (.iconst (-1), 1) := by decide +kernel
theorem dX11_compares_18 : decode cX11_compares 18 = .ok (.if_icmp .eq 5, 3) := by decide +kernel
theorem dX11_compares_21 : decode cX11_compares 21 = .ok (.iconst 0, 1) := by decide +kernel
theorem dX11_compares_22 : decode cX11_compares 22 = .ok (.ireturn, 1) := by decide +kernel
theorem dX11_compares_23 : decode cX11_compares 23 = .ok (.aload_n 0, 1) := by decide +kernel
theorem dX11_compares_24 : decode cX11_compares 24 = .ok (.invokevirtual 141, 3) := by decide +kernel
theorem dX11_compares_27 : decode cX11_compares 27 = .ok (.istore 4, 2) := by decide +kernel
theorem dX11_compares_29 : decode cX11_compares 29 = .ok (.iload 4, 2) := by decide +kernel
theorem dX11_compares_31 : decode cX11_compares 31 = .ok (.invokestatic 183, 3) := by decide +kernel
theorem dX11_compares_34 : decode cX11_compares 34 = .ok (.ifCond .ne 8, 3) := by decide +kernel
theorem dX11_compares_37 : decode cX11_compares 37 = .ok (.aload_n 0, 1) := by decide +kernel
theorem dX11_compares_38 : decode cX11_compares 38 = .ok (.invokevirtual 137, 3) := by decide +kernel
theorem dX11_compares_41 : decode cX11_compares 41 = .ok (.ireturn, 1) := by decide +kernel
theorem dX11_compares_42 : decode cX11_compares 42 = .ok (.aload_n 0, 1) := by decide +kernel
theorem dX11_compares_43 : decode cX11_compares 43 = .ok (.dup, 1) := by decide +kernel
theorem dX11_compares_44 : decode cX11_compares 44 = .ok (.getfield 122, 3) := by decide +kernel
theorem dX11_compares_47 : decode cX11_compares 47 = .ok (.iconst 1, 1) := by decide +kernel
theorem dX11_compares_48 : decode cX11_compares 48 = .ok (.iadd, 1) := by decide +kernel
theorem dX11_compares_49 : decode cX11_compares 49 = .ok (.putfield 122, 3) := by decide +kernel
theorem dX11_compares_52 : decode cX11_compares 52 = .ok (.aload_n 0, 1) := by decide +kernel
theorem dX11_compares_53 : decode cX11_compares 53 = .ok (.invokevirtual 163, 3) := by decide +kernel
theorem dX11_compares_56 : decode cX11_compares 56 = .ok (.istore 5, 2) := by decide +kernel
theorem dX11_compares_58 : decode cX11_compares 58 = .ok (.iload 4, 2) := by decide +kernel
theorem dX11_compares_60 : decode cX11_compares 60 = .ok (.bipush 61, 2) := by decide +kernel
theorem dX11_compares_62 : decode cX11_compares 62 = .ok (.if_icmp .ne 17, 3) := by decide +kernel
theorem dX11_compares_65 : decode cX11_compares 65 = .ok (.iload_n 3, 1) := by decide +kernel
theorem dX11_compares_66 : decode cX11_compares 66 = .ok (.iload 5, 2) := by decide +kernel
theorem dX11_compares_68 : decode cX11_compares 68 = .ok (.if_icmp .ne 7, 3) := by decide +kernel
theorem dX11_compares_71 : decode cX11_compares 71 = .ok (.iconst 1, 1) := by decide +kernel
theorem dX11_compares_72 : decode cX11_compares 72 = .ok (.goto 39, 3) := by decide +kernel
theorem dX11_compares_75 : decode cX11_compares 75 = .ok (.iconst 0, 1) := by decide +kernel
theorem dX11_compares_76 : decode cX11_compares 76 = .ok (.goto 35, 3) := by decide +kernel
theorem dX11_compares_79 : decode cX11_compares 79 = .ok (.iload 4, 2) := by decide +kernel
theorem dX11_compares_81 : decode cX11_compares 81 = .ok (.bipush 60, 2) := by decide +kernel
theorem dX11_compares_83 : decode cX11_compares 83 = .ok (.if_icmp .ne 17, 3) := by decide +kernel
theorem dX11_compares_86 : decode cX11_compares 86 = .ok (.iload_n 3, 1) := by decide +kernel
theorem dX11_compares_87 : decode cX11_compares 87 = .ok (.iload 5, 2) := by decide +kernel
theorem dX11_compares_89 : decode cX11_compares 89 = .ok (.if_icmp .ge 7, 3) := by decide +kernel
theorem dX11_compares_92 : decode cX11_compares 92 = .ok (.iconst 1, 1) := by decide +kernel
theorem dX11_compares_93 : decode cX11_compares 93 = .ok (.goto 18, 3) := by decide +kernel
theorem dX11_compares_96 : decode cX11_compares 96 = .ok (.iconst 0, 1) := by decide +kernel
theorem dX11_compares_97 : decode cX11_compares 97 = .ok (.goto 14, 3) := by decide +kernel
theorem dX11_compares_100 : decode cX11_compares 100 = .ok (.iload_n 3, 1) := by decide +kernel
theorem dX11_compares_101 : decode cX11_compares 101 = .ok (.iload 5, 2) := by decide +kernel
theorem dX11_compares_103 : decode cX11_compares 103 = .ok (.if_icmp .le 7, 3) := by decide +kernel
theorem dX11_compares_106 : decode cX11_compares 106 = .ok (.iconst 1, 1) := by decide +kernel
theorem dX11_compares_107 : decode cX11_compares 107 = .ok (.goto 4, 3) := by decide +kernel
theorem dX11_compares_110 : decode cX11_compares 110 = .ok (.iconst 0, 1) := by decide +kernel
theorem dX11_compares_111 : decode cX11_compares 111 = .ok (.ireturn, 1) := by decide +kernel
theorem dX11_unit_0 : decode cX11_unit 0 = .ok (.aload_n 0, 1) := by decide +kernel
theorem dX11_unit_1 : decode cX11_unit 1 = .ok (.invokevirtual 141, 3) := by decide +kernel
theorem dX11_unit_4 : decode cX11_unit 4 = .ok (.istore_n 1, 1) := by decide +kernel
theorem dX11_unit_5 : decode cX11_unit 5 = .ok (.iload_n 1, 1) := by decide +kernel
theorem dX11_unit_6 : decode cX11_unit 6 = .ok (.bipush 33, 2) := by decide +kernel
theorem dX11_unit_8 : decode cX11_unit 8 = .ok (.if_icmp .ne 37, 3) := by decide +kernel
theorem dX11_unit_11 : decode cX11_unit 11 = .ok (.aload_n 0, 1) := by decide +kernel
theorem dX11_unit_12 : decode cX11_unit 12 = .ok (.invokevirtual 160, 3) := by decide +kernel
theorem dX11_unit_15 : decode cX11_unit 15 = .ok (.ifCond .ne 5, 3) := by decide +kernel
theorem dX11_unit_18 : decode cX11_unit 18 = .ok (.iconst 0, 1) := by decide +kernel
theorem dX11_unit_19 : decode cX11_unit 19 = .ok (.ireturn, 1) := by decide +kernel
theorem dX11_unit_20 : decode cX11_unit 20 = .ok (.aload_n 0, 1) := by decide +kernel
theorem dX11_unit_21 : decode cX11_unit 21 = .ok (.invokevirtual 186, 3) := by decide +kernel
theorem dX11_unit_24 : decode cX11_unit 24 = .ok (.istore_n 2, 1) := by decide +kernel
theorem dX11_unit_25 : decode cX11_unit 25 = .ok (.aload_n 0, 1) := by decide +kernel
theorem dX11_unit_26 : decode cX11_unit 26 = .ok (.dup, 1) := by decide +kernel
theorem dX11_unit_27 : decode cX11_unit 27 = .ok (.getfield 134, 3) := by decide +kernel
theorem dX11_unit_30 : decode cX11_unit 30 = .ok (.iconst 1, 1) := by decide +kernel
theorem dX11_unit_31 : decode cX11_unit 31 = .ok (.isub, 1) := by decide +kernel
theorem dX11_unit_32 : decode cX11_unit 32 = .ok (.putfield 134, 3) := by decide +kernel
theorem dX11_unit_35 : decode cX11_unit 35 = .ok (.iload_n 2, 1) := by decide +kernel
theorem dX11_unit_36 : decode cX11_unit 36 = .ok (.ifCond .ne 7, 3) := by decide +kernel
theorem dX11_unit_39 : decode cX11_unit 39 = .ok (.iconst 1, 1) := by decide +kernel
theorem dX11_unit_40 : decode cX11_unit 40 = .ok (.goto 4, 3) := by decide +kernel
theorem dX11_unit_43 : decode cX11_unit 43 = .ok (.iconst 0, 1) := by decide +kernel
theorem dX11_unit_44 : decode cX11_unit 44 = .ok (.ireturn, 1) := by decide +kernel
theorem dX11_unit_45 : decode cX11_unit 45 = .ok (.iload_n 1, 1) := by decide +kernel
theorem dX11_unit_46 : decode cX11_unit 46 = .ok (.bipush 40, 2) := by decide +kernel
theorem dX11_unit_48 : decode cX11_unit 48 = .ok (.if_icmp .ne 42, 3) := by decide +kernel
theorem dX11_unit_51 : decode cX11_unit 51 = .ok (.aload_n 0, 1) := by decide +kernel
theorem dX11_unit_52 : decode cX11_unit 52 = .ok (.invokevirtual 160, 3) := by decide +kernel
theorem dX11_unit_55 : decode cX11_unit 55 = .ok (.ifCond .ne 5, 3) := by decide +kernel
theorem dX11_unit_58 : decode cX11_unit 58 = .ok (.iconst 0, 1) := by decide +kernel
theorem dX11_unit_59 : decode cX11_unit 59 = .ok (.ireturn, 1) := by decide +kernel
theorem dX11_unit_60 : decode cX11_unit 60 = .ok (.aload_n 0, 1) := by decide +kernel
theorem dX11_unit_61 : decode cX11_unit 61 = .ok (.iconst 0, 1) := by decide +kernel
theorem dX11_unit_62 : decode cX11_unit 62 = .ok (.iconst 0, 1) := by decide +kernel
theorem dX11_unit_63 : decode cX11_unit 63 = .ok (.invokevirtual 189, 3) := by decide +kernel
theorem dX11_unit_66 : decode cX11_unit 66 = .ok (.istore_n 2, 1) := by decide +kernel
theorem dX11_unit_67 : decode cX11_unit 67 = .ok (.aload_n 0, 1) := by decide +kernel
theorem dX11_unit_68 : decode cX11_unit 68 = .ok (.bipush 41, 2) := by decide +kernel
theorem dX11_unit_70 : decode cX11_unit 70 = .ok (.invokevirtual 166, 3) := by decide +kernel
theorem dX11_unit_73 : decode cX11_unit 73 = .ok (.ifCond .ne 5, 3) := by decide +kernel
theorem dX11_unit_76 : decode cX11_unit 76 = .ok (.iconst 0, 1) := by decide +kernel
theorem dX11_unit_77 : decode cX11_unit 77 = .ok (.ireturn, 1) := by decide +kernel
theorem dX11_unit_78 : decode cX11_unit 78 = .ok (.aload_n 0, 1) := by decide +kernel
theorem dX11_unit_79 : decode cX11_unit 79 = .ok (.dup, 1) := by decide +kernel
theorem dX11_unit_80 : decode cX11_unit 80 = .ok (.getfield 134, 3) := by decide +kernel
theorem dX11_unit_83 : decode cX11_unit 83 = .ok (.iconst 1, 1) := by decide +kernel
theorem dX11_unit_84 : decode cX11_unit 84 = .ok (.isub, 1) := by decide +kernel
theorem dX11_unit_85 : decode cX11_unit 85 = .ok (.putfield 134, 3) := by decide +kernel
theorem dX11_unit_88 : decode cX11_unit 88 = .ok (.iload_n 2, 1) := by decide +kernel
theorem dX11_unit_89 : decode cX11_unit 89 = .ok (.ireturn, 1) := by decide +kernel
theorem dX11_unit_90 : decode cX11_unit 90 = .ok (.aload_n 0, 1) := by decide +kernel
theorem dX11_unit_91 : decode cX11_unit 91 = .ok (.iconst 0, 1) := by decide +kernel
theorem dX11_unit_92 : decode cX11_unit 92 = .ok (.iconst 0, 1) := by decide +kernel
theorem dX11_unit_93 : decode cX11_unit 93 = .ok (.invokevirtual 193, 3) := by decide +kernel
theorem dX11_unit_96 : decode cX11_unit 96 = .ok (.ireturn, 1) := by decide +kernel
theorem dX11_part_0 : decode cX11_part 0 = .ok (.iload_n 1, 1) := by decide +kernel
theorem dX11_part_1 : decode cX11_part 1 = .ok (.ifCond .eq 12, 3) := by decide +kernel
theorem dX11_part_4 : decode cX11_part 4 = .ok (.aload_n 0, 1) := by decide +kernel
theorem dX11_part_5 : decode cX11_part 5 = .ok (.iconst 1, 1) := by decide +kernel
theorem dX11_part_6 : decode cX11_part 6 = .ok (.iload_n 2, 1) := by decide +kernel
theorem dX11_part_7 : decode cX11_part 7 = .ok (.invokevirtual 193, 3) := by decide +kernel
theorem dX11_part_10 : decode cX11_part 10 = .ok (.goto 7, 3) := by decide +kernel
theorem dX11_part_13 : decode cX11_part 13 = .ok (.aload_n 0, 1) := by decide +kernel
theorem dX11_part_14 : decode cX11_part 14 = .ok (.invokevirtual 186, 3) := by decide +kernel
theorem dX11_part_17 : decode cX11_part 17 = .ok (.istore_n 3, 1) := by decide +kernel
theorem dX11_part_18 : decode cX11_part 18 = .ok (.aload_n 0, 1) := by decide +kernel
theorem dX11_part_19 : decode cX11_part 19 = .ok (.getfield 131, 3) := by decide +kernel
theorem dX11_part_22 : decode cX11_part 22 = .ok (.iconst (-1), 1) := by decide +kernel
theorem dX11_part_23 : decode cX11_part 23 = .ok (.if_icmp .ne 46, 3) := by decide +kernel
theorem dX11_part_26 : decode cX11_part 26 = .ok (.aload_n 0, 1) := by decide +kernel
theorem dX11_part_27 : decode cX11_part 27 = .ok (.invokevirtual 141, 3) := by decide +kernel
theorem dX11_part_30 : decode cX11_part 30 = .ok (.bipush 38, 2) := by decide +kernel
theorem dX11_part_32 : decode cX11_part 32 = .ok (.if_icmp .ne 37, 3) := by decide +kernel
theorem dX11_part_35 : decode cX11_part 35 = .ok (.aload_n 0, 1) := by decide +kernel
theorem dX11_part_36 : decode cX11_part 36 = .ok (.dup, 1) := by decide +kernel
theorem dX11_part_37 : decode cX11_part 37 = .ok (.getfield 122, 3) := by decide +kernel
theorem dX11_part_40 : decode cX11_part 40 = .ok (.iconst 1, 1) := by decide +kernel
theorem dX11_part_41 : decode cX11_part 41 = .ok (.iadd, 1) := by decide +kernel
theorem dX11_part_42 : decode cX11_part 42 = .ok (.putfield 122, 3) := by decide +kernel
theorem dX11_part_45 : decode cX11_part 45 = .ok (.aload_n 0, 1) := by decide +kernel
theorem dX11_part_46 : decode cX11_part 46 = .ok (.invokevirtual 186, 3) := by decide +kernel
theorem dX11_part_49 : decode cX11_part 49 = .ok (.istore 4, 2) := by decide +kernel
theorem dX11_part_51 : decode cX11_part 51 = .ok (.iload_n 3, 1) := by decide +kernel
theorem dX11_part_52 : decode cX11_part 52 = .ok (.ifCond .eq 12, 3) := by decide +kernel
theorem dX11_part_55 : decode cX11_part 55 = .ok (.iload 4, 2) := by decide +kernel
theorem dX11_part_57 : decode cX11_part 57 = .ok (.ifCond .eq 7, 3) := by decide +kernel
theorem dX11_part_60 : decode cX11_part 60 = .ok (.iconst 1, 1) := by decide +kernel
theorem dX11_part_61 : decode cX11_part 61 = .ok (.goto 4, 3) := by decide +kernel
theorem dX11_part_64 : decode cX11_part 64 = .ok (.iconst 0, 1) := by decide +kernel
theorem dX11_part_65 : decode cX11_part 65 = .ok (.istore_n 3, 1) := by decide +kernel
theorem dX11_part_66 : decode cX11_part 66 = .ok (.goto (-48), 3) := by decide +kernel
theorem dX11_part_69 : decode cX11_part 69 = .ok (.iload_n 3, 1) := by decide +kernel
theorem dX11_part_70 : decode cX11_part 70 = .ok (.ireturn, 1) := by decide +kernel
theorem dX11_condition_0 : decode cX11_condition 0 = .ok (.aload_n 0, 1) := by decide +kernel
theorem dX11_condition_1 : decode cX11_condition 1 = .ok (.iload_n 1, 1) := by decide +kernel
theorem dX11_condition_2 : decode cX11_condition 2 = .ok (.iload_n 2, 1) := by decide +kernel
theorem dX11_condition_3 : decode cX11_condition 3 = .ok (.invokevirtual 196, 3) := by decide +kernel
theorem dX11_condition_6 : decode cX11_condition 6 = .ok (.istore_n 3, 1) := by decide +kernel
theorem dX11_condition_7 : decode cX11_condition 7 = .ok (.aload_n 0, 1) := by decide +kernel
theorem dX11_condition_8 : decode cX11_condition 8 = .ok (.getfield 131, 3) := by decide +kernel
theorem dX11_condition_11 : decode cX11_condition 11 = .ok (.iconst (-1), 1) := by decide +kernel
theorem dX11_condition_12 : decode cX11_condition 12 = .ok (.if_icmp .ne 48, 3) := by decide +kernel
theorem dX11_condition_15 : decode cX11_condition 15 = .ok (.aload_n 0, 1) := by decide +kernel
theorem dX11_condition_16 : decode cX11_condition 16 = .ok (.invokevirtual 141, 3) := by decide +kernel
theorem dX11_condition_19 : decode cX11_condition 19 = .ok (.bipush 124, 2) := by decide +kernel
theorem dX11_condition_21 : decode cX11_condition 21 = .ok (.if_icmp .ne 39, 3) := by decide +kernel
theorem dX11_condition_24 : decode cX11_condition 24 = .ok (.aload_n 0, 1) := by decide +kernel
theorem dX11_condition_25 : decode cX11_condition 25 = .ok (.dup, 1) := by decide +kernel
theorem dX11_condition_26 : decode cX11_condition 26 = .ok (.getfield 122, 3) := by decide +kernel
theorem dX11_condition_29 : decode cX11_condition 29 = .ok (.iconst 1, 1) := by decide +kernel
theorem dX11_condition_30 : decode cX11_condition 30 = .ok (.iadd, 1) := by decide +kernel
theorem dX11_condition_31 : decode cX11_condition 31 = .ok (.putfield 122, 3) := by decide +kernel
theorem dX11_condition_34 : decode cX11_condition 34 = .ok (.aload_n 0, 1) := by decide +kernel
theorem dX11_condition_35 : decode cX11_condition 35 = .ok (.iconst 0, 1) := by decide +kernel
theorem dX11_condition_36 : decode cX11_condition 36 = .ok (.iconst 0, 1) := by decide +kernel
theorem dX11_condition_37 : decode cX11_condition 37 = .ok (.invokevirtual 196, 3) := by decide +kernel
theorem dX11_condition_40 : decode cX11_condition 40 = .ok (.istore 4, 2) := by decide +kernel
theorem dX11_condition_42 : decode cX11_condition 42 = .ok (.iload_n 3, 1) := by decide +kernel
theorem dX11_condition_43 : decode cX11_condition 43 = .ok (.ifCond .ne 8, 3) := by decide +kernel
theorem dX11_condition_46 : decode cX11_condition 46 = .ok (.iload 4, 2) := by decide +kernel
theorem dX11_condition_48 : decode cX11_condition 48 = .ok (.ifCond .eq 7, 3) := by decide +kernel
theorem dX11_condition_51 : decode cX11_condition 51 = .ok (.iconst 1, 1) := by decide +kernel
theorem dX11_condition_52 : decode cX11_condition 52 = .ok (.goto 4, 3) := by decide +kernel
theorem dX11_condition_55 : decode cX11_condition 55 = .ok (.iconst 0, 1) := by decide +kernel
theorem dX11_condition_56 : decode cX11_condition 56 = .ok (.istore_n 3, 1) := by decide +kernel
theorem dX11_condition_57 : decode cX11_condition 57 = .ok (.goto (-50), 3) := by decide +kernel
theorem dX11_condition_60 : decode cX11_condition 60 = .ok (.iload_n 3, 1) := by decide +kernel
theorem dX11_condition_61 : decode cX11_condition 61 = .ok (.ireturn, 1) := by decide +kernel
theorem dX11_clause_0 : decode cX11_clause 0 = .ok (.aload_n 0, 1) := by decide +kernel
theorem dX11_clause_1 : decode cX11_clause 1 = .ok (.invokevirtual 141, 3) := by decide +kernel
theorem dX11_clause_4 : decode cX11_clause 4 = .ok (.istore_n 1, 1) := by decide +kernel
theorem dX11_clause_5 : decode cX11_clause 5 = .ok (.ldc 26, 2) := by decide +kernel
theorem dX11_clause_7 : decode cX11_clause 7 = .ok (.iload_n 1, 1) := by decide +kernel
theorem dX11_clause_8 : decode cX11_clause 8 = .ok (.invokestatic 156, 3) := by decide +kernel
theorem dX11_clause_11 : decode cX11_clause 11 = .ok (.ifCond .ne 9, 3) := by decide +kernel
theorem dX11_clause_14 : decode cX11_clause 14 = .ok (.aload_n 0, 1) := by decide +kernel
theorem dX11_clause_15 : decode cX11_clause 15 = .ok (.invokevirtual 137, 3) := by decide +kernel
theorem dX11_clause_18 : decode cX11_clause 18 = .ok (.pop, 1) := by decide +kernel
theorem dX11_clause_19 : decode cX11_clause 19 = .ok (.return_, 1) := by decide +kernel
theorem dX11_clause_20 : decode cX11_clause 20 = .ok (.aload_n 0, 1) := by decide +kernel
theorem dX11_clause_21 : decode cX11_clause 21 = .ok (.dup, 1) := by decide +kernel
theorem dX11_clause_22 : decode cX11_clause 22 = .ok (.getfield 122, 3) := by decide +kernel
theorem dX11_clause_25 : decode cX11_clause 25 = .ok (.iconst 1, 1) := by decide +kernel
theorem dX11_clause_26 : decode cX11_clause 26 = .ok (.iadd, 1) := by decide +kernel
theorem dX11_clause_27 : decode cX11_clause 27 = .ok (.putfield 122, 3) := by decide +kernel
theorem dX11_clause_30 : decode cX11_clause 30 = .ok (.aload_n 0, 1) := by decide +kernel
theorem dX11_clause_31 : decode cX11_clause 31 = .ok (.bipush 58, 2) := by decide +kernel
theorem dX11_clause_33 : decode cX11_clause 33 = .ok (.invokevirtual 166, 3) := by decide +kernel
theorem dX11_clause_36 : decode cX11_clause 36 = .ok (.ifCond .ne 4, 3) := by decide +kernel
theorem dX11_clause_39 : decode cX11_clause 39 = .ok (.return_, 1) := by decide +kernel
theorem dX11_clause_40 : decode cX11_clause 40 = .ok (.iconst 1, 1) := by decide +kernel
theorem dX11_clause_41 : decode cX11_clause 41 = .ok (.istore_n 2, 1) := by decide +kernel
theorem dX11_clause_42 : decode cX11_clause 42 = .ok (.iconst 0, 1) := by decide +kernel
theorem dX11_clause_43 : decode cX11_clause 43 = .ok (.istore_n 3, 1) := by decide +kernel
theorem dX11_clause_44 : decode cX11_clause 44 = .ok (.aload_n 0, 1) := by decide +kernel
theorem dX11_clause_45 : decode cX11_clause 45 = .ok (.invokevirtual 141, 3) := by decide +kernel
theorem dX11_clause_48 : decode cX11_clause 48 = .ok (.istore 4, 2) := by decide +kernel
theorem dX11_clause_50 : decode cX11_clause 50 = .ok (.iload 4, 2) := by decide +kernel
theorem dX11_clause_52 : decode cX11_clause 52 = .ok (.bipush 33, 2) := by decide +kernel
theorem dX11_clause_54 : decode cX11_clause 54 = .ok (.if_icmp .eq 10, 3) := by decide +kernel
theorem dX11_clause_57 : decode cX11_clause 57 = .ok (.iload 4, 2) := by decide +kernel
theorem dX11_clause_59 : decode cX11_clause 59 = .ok (.bipush 40, 2) := by decide +kernel
theorem dX11_clause_61 : decode cX11_clause 61 = .ok (.if_icmp .ne 28, 3) := by decide +kernel
theorem dX11_clause_64 : decode cX11_clause 64 = .ok (.aload_n 0, 1) := by decide +kernel
theorem dX11_clause_65 : decode cX11_clause 65 = .ok (.iconst 0, 1) := by decide +kernel
theorem dX11_clause_66 : decode cX11_clause 66 = .ok (.iconst 0, 1) := by decide +kernel
theorem dX11_clause_67 : decode cX11_clause 67 = .ok (.invokevirtual 189, 3) := by decide +kernel
theorem dX11_clause_70 : decode cX11_clause 70 = .ok (.istore_n 2, 1) := by decide +kernel
theorem dX11_clause_71 : decode cX11_clause 71 = .ok (.aload_n 0, 1) := by decide +kernel
theorem dX11_clause_72 : decode cX11_clause 72 = .ok (.bipush 63, 2) := by decide +kernel
theorem dX11_clause_74 : decode cX11_clause 74 = .ok (.invokevirtual 166, 3) := by decide +kernel
theorem dX11_clause_77 : decode cX11_clause 77 = .ok (.ifCond .ne 4, 3) := by decide +kernel
theorem dX11_clause_80 : decode cX11_clause 80 = .ok (.return_, 1) := by decide +kernel
theorem dX11_clause_81 : decode cX11_clause 81 = .ok (.aload_n 0, 1) := by decide +kernel
theorem dX11_clause_82 : decode cX11_clause 82 = .ok (.invokevirtual 163, 3) := by decide +kernel
theorem dX11_clause_85 : decode cX11_clause 85 = .ok (.istore_n 3, 1) := by decide +kernel
theorem dX11_clause_86 : decode cX11_clause 86 = .ok (.goto 48, 3) := by decide +kernel
theorem dX11_clause_89 : decode cX11_clause 89 = .ok (.aload_n 0, 1) := by decide +kernel
theorem dX11_clause_90 : decode cX11_clause 90 = .ok (.invokevirtual 163, 3) := by decide +kernel
theorem dX11_clause_93 : decode cX11_clause 93 = .ok (.istore_n 3, 1) := by decide +kernel
theorem dX11_clause_94 : decode cX11_clause 94 = .ok (.aload_n 0, 1) := by decide +kernel
theorem dX11_clause_95 : decode cX11_clause 95 = .ok (.getfield 131, 3) := by decide +kernel
theorem dX11_clause_98 : decode cX11_clause 98 = .ok (.iconst (-1), 1) := by decide +kernel
theorem dX11_clause_99 : decode cX11_clause 99 = .ok (.if_icmp .ne 35, 3) := by decide +kernel
theorem dX11_clause_102 : decode cX11_clause 102 = .ok (.aload_n 0, 1) := by decide +kernel
theorem dX11_clause_103 : decode cX11_clause 103 = .ok (.invokevirtual 141, 3) := by decide +kernel
theorem dX11_clause_106 : decode cX11_clause 106 = .ok (.invokestatic 183, 3) := by decide +kernel
theorem dX11_clause_109 : decode cX11_clause 109 = .ok (.ifCond .eq 25, 3) := by decide +kernel
theorem dX11_clause_112 : decode cX11_clause 112 = .ok (.aload_n 0, 1) := by decide +kernel
theorem dX11_clause_113 : decode cX11_clause 113 = .ok (.iconst 1, 1) := by decide +kernel
theorem dX11_clause_114 : decode cX11_clause 114 = .ok (.iload_n 3, 1) := by decide +kernel
theorem dX11_clause_115 : decode cX11_clause 115 = .ok (.invokevirtual 189, 3) := by decide +kernel
theorem dX11_clause_118 : decode cX11_clause 118 = .ok (.istore_n 2, 1) := by decide +kernel
theorem dX11_clause_119 : decode cX11_clause 119 = .ok (.aload_n 0, 1) := by decide +kernel
theorem dX11_clause_120 : decode cX11_clause 120 = .ok (.bipush 63, 2) := by decide +kernel
theorem dX11_clause_122 : decode cX11_clause 122 = .ok (.invokevirtual 166, 3) := by decide +kernel
theorem dX11_clause_125 : decode cX11_clause 125 = .ok (.ifCond .ne 4, 3) := by decide +kernel
theorem dX11_clause_128 : decode cX11_clause 128 = .ok (.return_, 1) := by decide +kernel
theorem dX11_clause_129 : decode cX11_clause 129 = .ok (.aload_n 0, 1) := by decide +kernel
theorem dX11_clause_130 : decode cX11_clause 130 = .ok (.invokevirtual 163, 3) := by decide +kernel
theorem dX11_clause_133 : decode cX11_clause 133 = .ok (.istore_n 3, 1) := by decide +kernel
theorem dX11_clause_134 : decode cX11_clause 134 = .ok (.aload_n 0, 1) := by decide +kernel
theorem dX11_clause_135 : decode cX11_clause 135 = .ok (.getfield 131, 3) := by decide +kernel
theorem dX11_clause_138 : decode cX11_clause 138 = .ok (.iconst (-1), 1) := by decide +kernel
theorem dX11_clause_139 : decode cX11_clause 139 = .ok (.if_icmp .ne 22, 3) := by decide +kernel
theorem dX11_clause_142 : decode cX11_clause 142 = .ok (.aload_n 0, 1) := by decide +kernel
theorem dX11_clause_143 : decode cX11_clause 143 = .ok (.getfield 199, 3) := by decide +kernel
theorem dX11_clause_146 : decode cX11_clause 146 = .ok (.ifCond .ne 15, 3) := by decide +kernel
theorem dX11_clause_149 : decode cX11_clause 149 = .ok (.iload_n 1, 1) := by decide +kernel
theorem dX11_clause_150 : decode cX11_clause 150 = .ok (.aload_n 0, 1) := by decide +kernel
theorem dX11_clause_151 : decode cX11_clause 151 = .ok (.getfield 203, 3) := by decide +kernel
theorem dX11_clause_154 : decode cX11_clause 154 = .ok (.if_icmp .ne 7, 3) := by decide +kernel
theorem dX11_clause_157 : decode cX11_clause 157 = .ok (.iload_n 2, 1) := by decide +kernel
theorem dX11_clause_158 : decode cX11_clause 158 = .ok (.ifCond .ne 4, 3) := by decide +kernel
theorem dX11_clause_161 : decode cX11_clause 161 = .ok (.return_, 1) := by decide +kernel
theorem dX11_clause_162 : decode cX11_clause 162 = .ok (.aload_n 0, 1) := by decide +kernel
theorem dX11_clause_163 : decode cX11_clause 163 = .ok (.iconst 1, 1) := by decide +kernel
theorem dX11_clause_164 : decode cX11_clause 164 = .ok (.putfield 199, 3) := by decide +kernel
theorem dX11_clause_167 : decode cX11_clause 167 = .ok (.aload_n 0, 1) := by decide +kernel
theorem dX11_clause_168 : decode cX11_clause 168 = .ok (.iload_n 3, 1) := by decide +kernel
theorem dX11_clause_169 : decode cX11_clause 169 = .ok (.putfield 206, 3) := by decide +kernel
theorem dX11_clause_172 : decode cX11_clause 172 = .ok (.return_, 1) := by decide +kernel
theorem dX11_opens_0 : decode cX11_opens 0 = .ok (.aload_n 0, 1) := by decide +kernel
theorem dX11_opens_1 : decode cX11_opens 1 = .ok (.aload_n 1, 1) := by decide +kernel
theorem dX11_opens_2 : decode cX11_opens 2 = .ok (.putfield 23, 3) := by decide +kernel
theorem dX11_opens_5 : decode cX11_opens 5 = .ok (.aload_n 0, 1) := by decide +kernel
theorem dX11_opens_6 : decode cX11_opens 6 = .ok (.iload_n 2, 1) := by decide +kernel
theorem dX11_opens_7 : decode cX11_opens 7 = .ok (.putfield 128, 3) := by decide +kernel
theorem dX11_opens_10 : decode cX11_opens 10 = .ok (.aload_n 0, 1) := by decide +kernel
theorem dX11_opens_11 : decode cX11_opens 11 = .ok (.iload_n 3, 1) := by decide +kernel
theorem dX11_opens_12 : decode cX11_opens 12 = .ok (.putfield 125, 3) := by decide +kernel
theorem dX11_opens_15 : decode cX11_opens 15 = .ok (.aload_n 0, 1) := by decide +kernel
theorem dX11_opens_16 : decode cX11_opens 16 = .ok (.iconst 0, 1) := by decide +kernel
theorem dX11_opens_17 : decode cX11_opens 17 = .ok (.putfield 122, 3) := by decide +kernel
theorem dX11_opens_20 : decode cX11_opens 20 = .ok (.aload_n 0, 1) := by decide +kernel
theorem dX11_opens_21 : decode cX11_opens 21 = .ok (.iconst (-1), 1) := by decide +kernel
theorem dX11_opens_22 : decode cX11_opens 22 = .ok (.putfield 131, 3) := by decide +kernel
theorem dX11_opens_25 : decode cX11_opens 25 = .ok (.return_, 1) := by decide +kernel
theorem dX11_goThrough_0 : decode cX11_goThrough 0 = .ok (.aload_n 0, 1) := by decide +kernel
theorem dX11_goThrough_1 : decode cX11_goThrough 1 = .ok (.aload_n 1, 1) := by decide +kernel
theorem dX11_goThrough_2 : decode cX11_goThrough 2 = .ok (.iload_n 2, 1) := by decide +kernel
theorem dX11_goThrough_3 : decode cX11_goThrough 3 = .ok (.iload_n 3, 1) := by decide +kernel
theorem dX11_goThrough_4 : decode cX11_goThrough 4 = .ok (.invokevirtual 209, 3) := by decide +kernel
theorem dX11_goThrough_7 : decode cX11_goThrough 7 = .ok (.aload_n 0, 1) := by decide +kernel
theorem dX11_goThrough_8 : decode cX11_goThrough 8 = .ok (.bipush 121, 2) := by decide +kernel
theorem dX11_goThrough_10 : decode cX11_goThrough 10 = .ok (.putfield 203, 3) := by decide +kernel
theorem dX11_goThrough_13 : decode cX11_goThrough 13 = .ok (.aload_n 0, 1) := by decide +kernel
theorem dX11_goThrough_14 : decode cX11_goThrough 14 = .ok (.iconst 0, 1) := by decide +kernel
theorem dX11_goThrough_15 : decode cX11_goThrough 15 = .ok (.putfield 134, 3) := by decide +kernel
theorem dX11_goThrough_18 : decode cX11_goThrough 18 = .ok (.aload_n 0, 1) := by decide +kernel
theorem dX11_goThrough_19 : decode cX11_goThrough 19 = .ok (.iconst 0, 1) := by decide +kernel
theorem dX11_goThrough_20 : decode cX11_goThrough 20 = .ok (.putfield 199, 3) := by decide +kernel
theorem dX11_goThrough_23 : decode cX11_goThrough 23 = .ok (.aload_n 0, 1) := by decide +kernel
theorem dX11_goThrough_24 : decode cX11_goThrough 24 = .ok (.iconst 0, 1) := by decide +kernel
theorem dX11_goThrough_25 : decode cX11_goThrough 25 = .ok (.putfield 206, 3) := by decide +kernel
theorem dX11_goThrough_28 : decode cX11_goThrough 28 = .ok (.aload_n 0, 1) := by decide +kernel
theorem dX11_goThrough_29 : decode cX11_goThrough 29 = .ok (.invokevirtual 213, 3) := by decide +kernel
theorem dX11_goThrough_32 : decode cX11_goThrough 32 = .ok (.aload_n 0, 1) := by decide +kernel
theorem dX11_goThrough_33 : decode cX11_goThrough 33 = .ok (.getfield 131, 3) := by decide +kernel
theorem dX11_goThrough_36 : decode cX11_goThrough 36 = .ok (.iconst (-1), 1) := by decide +kernel
theorem dX11_goThrough_37 : decode cX11_goThrough 37 = .ok (.if_icmp .ne 29, 3) := by decide +kernel
theorem dX11_goThrough_40 : decode cX11_goThrough 40 = .ok (.aload_n 0, 1) := by decide +kernel
theorem dX11_goThrough_41 : decode cX11_goThrough 41 = .ok (.invokevirtual 141, 3) := by decide +kernel
theorem dX11_goThrough_44 : decode cX11_goThrough 44 = .ok (.bipush 59, 2) := by decide +kernel
theorem dX11_goThrough_46 : decode cX11_goThrough 46 = .ok (.if_icmp .ne 20, 3) := by decide +kernel
theorem dX11_goThrough_49 : decode cX11_goThrough 49 = .ok (.aload_n 0, 1) := by decide +kernel
theorem dX11_goThrough_50 : decode cX11_goThrough 50 = .ok (.dup, 1) := by decide +kernel
theorem dX11_goThrough_51 : decode cX11_goThrough 51 = .ok (.getfield 122, 3) := by decide +kernel
theorem dX11_goThrough_54 : decode cX11_goThrough 54 = .ok (.iconst 1, 1) := by decide +kernel
theorem dX11_goThrough_55 : decode cX11_goThrough 55 = .ok (.iadd, 1) := by decide +kernel
theorem dX11_goThrough_56 : decode cX11_goThrough 56 = .ok (.putfield 122, 3) := by decide +kernel
theorem dX11_goThrough_59 : decode cX11_goThrough 59 = .ok (.aload_n 0, 1) := by decide +kernel
theorem dX11_goThrough_60 : decode cX11_goThrough 60 = .ok (.invokevirtual 213, 3) := by decide +kernel
theorem dX11_goThrough_63 : decode cX11_goThrough 63 = .ok (.goto (-31), 3) := by decide +kernel
theorem dX11_goThrough_66 : decode cX11_goThrough 66 = .ok (.aload_n 0, 1) := by decide +kernel
theorem dX11_goThrough_67 : decode cX11_goThrough 67 = .ok (.getfield 131, 3) := by decide +kernel
theorem dX11_goThrough_70 : decode cX11_goThrough 70 = .ok (.iconst (-1), 1) := by decide +kernel
theorem dX11_goThrough_71 : decode cX11_goThrough 71 = .ok (.if_icmp .ne 16, 3) := by decide +kernel
theorem dX11_goThrough_74 : decode cX11_goThrough 74 = .ok (.aload_n 0, 1) := by decide +kernel
theorem dX11_goThrough_75 : decode cX11_goThrough 75 = .ok (.invokevirtual 141, 3) := by decide +kernel
theorem dX11_goThrough_78 : decode cX11_goThrough 78 = .ok (.iconst (-1), 1) := by decide +kernel
theorem dX11_goThrough_79 : decode cX11_goThrough 79 = .ok (.if_icmp .eq 8, 3) := by decide +kernel
theorem dX11_goThrough_82 : decode cX11_goThrough 82 = .ok (.aload_n 0, 1) := by decide +kernel
theorem dX11_goThrough_83 : decode cX11_goThrough 83 = .ok (.invokevirtual 137, 3) := by decide +kernel
theorem dX11_goThrough_86 : decode cX11_goThrough 86 = .ok (.pop, 1) := by decide +kernel
theorem dX11_goThrough_87 : decode cX11_goThrough 87 = .ok (.return_, 1) := by decide +kernel
theorem dX11_here_0 : decode cX11_here 0 = .ok (.aload_n 0, 1) := by decide +kernel
theorem dX11_here_1 : decode cX11_here 1 = .ok (.getfield 122, 3) := by decide +kernel
theorem dX11_here_4 : decode cX11_here 4 = .ok (.aload_n 0, 1) := by decide +kernel
theorem dX11_here_5 : decode cX11_here 5 = .ok (.getfield 125, 3) := by decide +kernel
theorem dX11_here_8 : decode cX11_here 8 = .ok (.if_icmp .ge 24, 3) := by decide +kernel
theorem dX11_here_11 : decode cX11_here 11 = .ok (.aload_n 0, 1) := by decide +kernel
theorem dX11_here_12 : decode cX11_here 12 = .ok (.getfield 23, 3) := by decide +kernel
theorem dX11_here_15 : decode cX11_here 15 = .ok (.aload_n 0, 1) := by decide +kernel
theorem dX11_here_16 : decode cX11_here 16 = .ok (.getfield 128, 3) := by decide +kernel
theorem dX11_here_19 : decode cX11_here 19 = .ok (.aload_n 0, 1) := by decide +kernel
theorem dX11_here_20 : decode cX11_here 20 = .ok (.getfield 122, 3) := by decide +kernel
theorem dX11_here_23 : decode cX11_here 23 = .ok (.iadd, 1) := by decide +kernel
theorem dX11_here_24 : decode cX11_here 24 = .ok (.baload, 1) := by decide +kernel
theorem dX11_here_25 : decode cX11_here 25 = .ok (.sipush 255, 3) := by decide +kernel
theorem dX11_here_28 : decode cX11_here 28 = .ok (.iand, 1) := by decide +kernel
theorem dX11_here_29 : decode cX11_here 29 = .ok (.goto 4, 3) := by decide +kernel
theorem dX11_here_32 : decode cX11_here 32 = .ok (.iconst (-1), 1) := by decide +kernel
theorem dX11_here_33 : decode cX11_here 33 = .ok (.ireturn, 1) := by decide +kernel
theorem dX11_placeOf_0 : decode cX11_placeOf 0 = .ok (.iconst 0, 1) := by decide +kernel
theorem dX11_placeOf_1 : decode cX11_placeOf 1 = .ok (.istore_n 2, 1) := by decide +kernel
theorem dX11_placeOf_2 : decode cX11_placeOf 2 = .ok (.iload_n 2, 1) := by decide +kernel
theorem dX11_placeOf_3 : decode cX11_placeOf 3 = .ok (.aload_n 0, 1) := by decide +kernel
theorem dX11_placeOf_4 : decode cX11_placeOf 4 = .ok (.invokevirtual 102, 3) := by decide +kernel
theorem dX11_placeOf_7 : decode cX11_placeOf 7 = .ok (.if_icmp .ge 20, 3) := by decide +kernel
theorem dX11_placeOf_10 : decode cX11_placeOf 10 = .ok (.aload_n 0, 1) := by decide +kernel
theorem dX11_placeOf_11 : decode cX11_placeOf 11 = .ok (.iload_n 2, 1) := by decide +kernel
theorem dX11_placeOf_12 : decode cX11_placeOf 12 = .ok (.invokevirtual 108, 3) := by decide +kernel
theorem dX11_placeOf_15 : decode cX11_placeOf 15 = .ok (.iload_n 1, 1) := by decide +kernel
theorem dX11_placeOf_16 : decode cX11_placeOf 16 = .ok (.if_icmp .ne 5, 3) := by decide +kernel
theorem dX11_placeOf_19 : decode cX11_placeOf 19 = .ok (.iload_n 2, 1) := by decide +kernel
theorem dX11_placeOf_20 : decode cX11_placeOf 20 = .ok (.ireturn, 1) := by decide +kernel
theorem dX11_placeOf_21 : decode cX11_placeOf 21 = .ok (.iinc 2 1, 3) := by decide +kernel
theorem dX11_placeOf_24 : decode cX11_placeOf 24 = .ok (.goto (-22), 3) := by decide +kernel
theorem dX11_placeOf_27 : decode cX11_placeOf 27 = .ok (.iconst (-1), 1) := by decide +kernel
theorem dX11_placeOf_28 : decode cX11_placeOf 28 = .ok (.ireturn, 1) := by decide +kernel
theorem dX11_number_0 : decode cX11_number 0 = .ok (.aload_n 0, 1) := by decide +kernel
theorem dX11_number_1 : decode cX11_number 1 = .ok (.invokevirtual 141, 3) := by decide +kernel
theorem dX11_number_4 : decode cX11_number 4 = .ok (.istore_n 3, 1) := by decide +kernel
theorem dX11_number_5 : decode cX11_number 5 = .ok (.aload_n 0, 1) := by decide +kernel
theorem dX11_number_6 : decode cX11_number 6 = .ok (.invokevirtual 170, 3) := by decide +kernel
theorem dX11_number_9 : decode cX11_number 9 = .ok (.ifCond .ne 10, 3) := by decide +kernel
theorem dX11_number_12 : decode cX11_number 12 = .ok (.aload_n 0, 1) := by decide +kernel
theorem dX11_number_13 : decode cX11_number 13 = .ok (.invokevirtual 137, 3) := by decide +kernel
theorem dX11_number_16 : decode cX11_number 16 = .ok (.pop, 1) := by decide +kernel
theorem dX11_number_17 : decode cX11_number 17 = .ok (.iconst (-1), 1) := by decide +kernel
theorem dX11_number_18 : decode cX11_number 18 = .ok (.ireturn, 1) := by decide +kernel
theorem dX11_number_19 : decode cX11_number 19 = .ok (.iload_n 3, 1) := by decide +kernel
theorem dX11_number_20 : decode cX11_number 20 = .ok (.bipush 48, 2) := by decide +kernel
theorem dX11_number_22 : decode cX11_number 22 = .ok (.isub, 1) := by decide +kernel
theorem dX11_number_23 : decode cX11_number 23 = .ok (.istore 4, 2) := by decide +kernel
theorem dX11_number_25 : decode cX11_number 25 = .ok (.aload_n 0, 1) := by decide +kernel
theorem dX11_number_26 : decode cX11_number 26 = .ok (.dup, 1) := by decide +kernel
theorem dX11_number_27 : decode cX11_number 27 = .ok (.getfield 122, 3) := by decide +kernel
theorem dX11_number_30 : decode cX11_number 30 = .ok (.iconst 1, 1) := by decide +kernel
theorem dX11_number_31 : decode cX11_number 31 = .ok (.iadd, 1) := by decide +kernel
theorem dX11_number_32 : decode cX11_number 32 = .ok (.putfield 122, 3) := by decide +kernel
theorem dX11_number_35 : decode cX11_number 35 = .ok (.aload_n 0, 1) := by decide +kernel
theorem dX11_number_36 : decode cX11_number 36 = .ok (.invokevirtual 170, 3) := by decide +kernel
theorem dX11_number_39 : decode cX11_number 39 = .ok (.ifCond .eq 28, 3) := by decide +kernel
theorem dX11_number_42 : decode cX11_number 42 = .ok (.bipush 10, 2) := by decide +kernel
theorem dX11_number_44 : decode cX11_number 44 = .ok (.iload 4, 2) := by decide +kernel
theorem dX11_number_46 : decode cX11_number 46 = .ok (.imul, 1) := by decide +kernel
theorem dX11_number_47 : decode cX11_number 47 = .ok (.aload_n 0, 1) := by decide +kernel
theorem dX11_number_48 : decode cX11_number 48 = .ok (.invokevirtual 216, 3) := by decide +kernel
theorem dX11_number_51 : decode cX11_number 51 = .ok (.iadd, 1) := by decide +kernel
theorem dX11_number_52 : decode cX11_number 52 = .ok (.bipush 48, 2) := by decide +kernel
theorem dX11_number_54 : decode cX11_number 54 = .ok (.isub, 1) := by decide +kernel
theorem dX11_number_55 : decode cX11_number 55 = .ok (.istore 4, 2) := by decide +kernel
theorem dX11_number_57 : decode cX11_number 57 = .ok (.aload_n 0, 1) := by decide +kernel
theorem dX11_number_58 : decode cX11_number 58 = .ok (.dup, 1) := by decide +kernel
theorem dX11_number_59 : decode cX11_number 59 = .ok (.getfield 122, 3) := by decide +kernel
theorem dX11_number_62 : decode cX11_number 62 = .ok (.iconst 1, 1) := by decide +kernel
theorem dX11_number_63 : decode cX11_number 63 = .ok (.iadd, 1) := by decide +kernel
theorem dX11_number_64 : decode cX11_number 64 = .ok (.putfield 122, 3) := by decide +kernel
theorem dX11_number_67 : decode cX11_number 67 = .ok (.aload_n 0, 1) := by decide +kernel
theorem dX11_number_68 : decode cX11_number 68 = .ok (.invokevirtual 170, 3) := by decide +kernel
theorem dX11_number_71 : decode cX11_number 71 = .ok (.ifCond .eq 10, 3) := by decide +kernel
theorem dX11_number_74 : decode cX11_number 74 = .ok (.aload_n 0, 1) := by decide +kernel
theorem dX11_number_75 : decode cX11_number 75 = .ok (.invokevirtual 137, 3) := by decide +kernel
theorem dX11_number_78 : decode cX11_number 78 = .ok (.pop, 1) := by decide +kernel
theorem dX11_number_79 : decode cX11_number 79 = .ok (.iconst (-1), 1) := by decide +kernel
theorem dX11_number_80 : decode cX11_number 80 = .ok (.ireturn, 1) := by decide +kernel
theorem dX11_number_81 : decode cX11_number 81 = .ok (.iload 4, 2) := by decide +kernel
theorem dX11_number_83 : decode cX11_number 83 = .ok (.i2l, 1) := by decide +kernel
theorem dX11_number_84 : decode cX11_number 84 = .ok (.iload_n 1, 1) := by decide +kernel
theorem dX11_number_85 : decode cX11_number 85 = .ok (.i2l, 1) := by decide +kernel
theorem dX11_number_86 : decode cX11_number 86 = .ok (.iload_n 2, 1) := by decide +kernel
theorem dX11_number_87 : decode cX11_number 87 = .ok (.i2l, 1) := by decide +kernel
theorem dX11_number_88 : decode cX11_number 88 = .ok (.invokestatic 219, 3) := by decide +kernel
theorem dX11_number_91 : decode cX11_number 91 = .ok (.ifCond .ne 20, 3) := by decide +kernel
theorem dX11_number_94 : decode cX11_number 94 = .ok (.aload_n 0, 1) := by decide +kernel
theorem dX11_number_95 : decode cX11_number 95 = .ok (.dup, 1) := by decide +kernel
theorem dX11_number_96 : decode cX11_number 96 = .ok (.getfield 122, 3) := by decide +kernel
theorem dX11_number_99 : decode cX11_number 99 = .ok (.iconst 1, 1) := by decide +kernel
theorem dX11_number_100 : decode cX11_number 100 = .ok (.isub, 1) := by decide +kernel
theorem dX11_number_101 : decode cX11_number 101 = .ok (.putfield 122, 3) := by decide +kernel
theorem dX11_number_104 : decode cX11_number 104 = .ok (.aload_n 0, 1) := by decide +kernel
theorem dX11_number_105 : decode cX11_number 105 = .ok (.invokevirtual 137, 3) := by decide +kernel
theorem dX11_number_108 : decode cX11_number 108 = .ok (.pop, 1) := by decide +kernel
theorem dX11_number_109 : decode cX11_number 109 = .ok (.iconst (-1), 1) := by decide +kernel
theorem dX11_number_110 : decode cX11_number 110 = .ok (.ireturn, 1) := by decide +kernel
theorem dX11_number_111 : decode cX11_number 111 = .ok (.iload 4, 2) := by decide +kernel
theorem dX11_number_113 : decode cX11_number 113 = .ok (.ireturn, 1) := by decide +kernel
theorem dX11_readGround_0 : decode cX11_readGround 0 = .ok (.aload_n 0, 1) := by decide +kernel
theorem dX11_readGround_1 : decode cX11_readGround 1 = .ok (.iconst 1, 1) := by decide +kernel
theorem dX11_readGround_2 : decode cX11_readGround 2 = .ok (.putfield 223, 3) := by decide +kernel
theorem dX11_readGround_5 : decode cX11_readGround 5 = .ok (.iconst 1, 1) := by decide +kernel
theorem dX11_readGround_6 : decode cX11_readGround 6 = .ok (.istore_n 1, 1) := by decide +kernel
theorem dX11_readGround_7 : decode cX11_readGround 7 = .ok (.iload_n 1, 1) := by decide +kernel
theorem dX11_readGround_8 : decode cX11_readGround 8 = .ok (.ifCond .eq 91, 3) := by decide +kernel
theorem dX11_readGround_11 : decode cX11_readGround 11 = .ok (.aload_n 0, 1) := by decide +kernel
theorem dX11_readGround_12 : decode cX11_readGround 12 = .ok (.iconst 0, 1) := by decide +kernel
theorem dX11_readGround_13 : decode cX11_readGround 13 = .ok (.bipush 99, 2) := by decide +kernel
theorem dX11_readGround_15 : decode cX11_readGround 15 = .ok (.invokevirtual 226, 3) := by decide +kernel
theorem dX11_readGround_18 : decode cX11_readGround 18 = .ok (.istore_n 2, 1) := by decide +kernel
theorem dX11_readGround_19 : decode cX11_readGround 19 = .ok (.aload_n 0, 1) := by decide +kernel
theorem dX11_readGround_20 : decode cX11_readGround 20 = .ok (.getfield 131, 3) := by decide +kernel
theorem dX11_readGround_23 : decode cX11_readGround 23 = .ok (.iconst (-1), 1) := by decide +kernel
theorem dX11_readGround_24 : decode cX11_readGround 24 = .ok (.if_icmp .eq 4, 3) := by decide +kernel
theorem dX11_readGround_27 : decode cX11_readGround 27 = .ok (.return_, 1) := by decide +kernel
theorem dX11_readGround_28 : decode cX11_readGround 28 = .ok (.aload_n 0, 1) := by decide +kernel
theorem dX11_readGround_29 : decode cX11_readGround 29 = .ok (.getfield 40, 3) := by decide +kernel
theorem dX11_readGround_32 : decode cX11_readGround 32 = .ok (.aload_n 0, 1) := by decide +kernel
theorem dX11_readGround_33 : decode cX11_readGround 33 = .ok (.getfield 230, 3) := by decide +kernel
theorem dX11_readGround_36 : decode cX11_readGround 36 = .ok (.iload_n 2, 1) := by decide +kernel
theorem dX11_readGround_37 : decode cX11_readGround 37 = .ok (.iastore, 1) := by decide +kernel
theorem dX11_readGround_38 : decode cX11_readGround 38 = .ok (.aload_n 0, 1) := by decide +kernel
theorem dX11_readGround_39 : decode cX11_readGround 39 = .ok (.dup, 1) := by decide +kernel
theorem dX11_readGround_40 : decode cX11_readGround 40 = .ok (.getfield 230, 3) := by decide +kernel
theorem dX11_readGround_43 : decode cX11_readGround 43 = .ok (.iconst 1, 1) := by decide +kernel
theorem dX11_readGround_44 : decode cX11_readGround 44 = .ok (.iadd, 1) := by decide +kernel
theorem dX11_readGround_45 : decode cX11_readGround 45 = .ok (.putfield 230, 3) := by decide +kernel
theorem dX11_readGround_48 : decode cX11_readGround 48 = .ok (.aload_n 0, 1) := by decide +kernel
theorem dX11_readGround_49 : decode cX11_readGround 49 = .ok (.invokevirtual 141, 3) := by decide +kernel
theorem dX11_readGround_52 : decode cX11_readGround 52 = .ok (.bipush 44, 2) := by decide +kernel
theorem dX11_readGround_54 : decode cX11_readGround 54 = .ok (.if_icmp .ne 7, 3) := by decide +kernel
theorem dX11_readGround_57 : decode cX11_readGround 57 = .ok (.iconst 1, 1) := by decide +kernel
theorem dX11_readGround_58 : decode cX11_readGround 58 = .ok (.goto 4, 3) := by decide +kernel
theorem dX11_readGround_61 : decode cX11_readGround 61 = .ok (.iconst 0, 1) := by decide +kernel
theorem dX11_readGround_62 : decode cX11_readGround 62 = .ok (.istore_n 1, 1) := by decide +kernel
theorem dX11_readGround_63 : decode cX11_readGround 63 = .ok (.iload_n 1, 1) := by decide +kernel
theorem dX11_readGround_64 : decode cX11_readGround 64 = .ok (.ifCond .eq 18, 3) := by decide +kernel
theorem dX11_readGround_67 : decode cX11_readGround 67 = .ok (.aload_n 0, 1) := by decide +kernel
theorem dX11_readGround_68 : decode cX11_readGround 68 = .ok (.getfield 230, 3) := by decide +kernel
theorem dX11_readGround_71 : decode cX11_readGround 71 = .ok (.bipush 24, 2) := by decide +kernel
theorem dX11_readGround_73 : decode cX11_readGround 73 = .ok (.if_icmp .ne 9, 3) := by decide +kernel
theorem dX11_readGround_76 : decode cX11_readGround 76 = .ok (.aload_n 0, 1) := by decide +kernel
theorem dX11_readGround_77 : decode cX11_readGround 77 = .ok (.invokevirtual 137, 3) := by decide +kernel
theorem dX11_readGround_80 : decode cX11_readGround 80 = .ok (.pop, 1) := by decide +kernel
theorem dX11_readGround_81 : decode cX11_readGround 81 = .ok (.return_, 1) := by decide +kernel
theorem dX11_readGround_82 : decode cX11_readGround 82 = .ok (.iload_n 1, 1) := by decide +kernel
theorem dX11_readGround_83 : decode cX11_readGround 83 = .ok (.ifCond .eq 13, 3) := by decide +kernel
theorem dX11_readGround_86 : decode cX11_readGround 86 = .ok (.aload_n 0, 1) := by decide +kernel
theorem dX11_readGround_87 : decode cX11_readGround 87 = .ok (.dup, 1) := by decide +kernel
theorem dX11_readGround_88 : decode cX11_readGround 88 = .ok (.getfield 122, 3) := by decide +kernel
theorem dX11_readGround_91 : decode cX11_readGround 91 = .ok (.iconst 1, 1) := by decide +kernel
theorem dX11_readGround_92 : decode cX11_readGround 92 = .ok (.iadd, 1) := by decide +kernel
theorem dX11_readGround_93 : decode cX11_readGround 93 = .ok (.putfield 122, 3) := by decide +kernel
theorem dX11_readGround_96 : decode cX11_readGround 96 = .ok (.goto (-89), 3) := by decide +kernel
theorem dX11_readGround_99 : decode cX11_readGround 99 = .ok (.aload_n 0, 1) := by decide +kernel
theorem dX11_readGround_100 : decode cX11_readGround 100 = .ok (.getfield 230, 3) := by decide +kernel
theorem dX11_readGround_103 : decode cX11_readGround 103 = .ok (.iconst 4, 1) := by decide +kernel
theorem dX11_readGround_104 : decode cX11_readGround 104 = .ok (.if_icmp .lt 12, 3) := by decide +kernel
theorem dX11_readGround_107 : decode cX11_readGround 107 = .ok (.aload_n 0, 1) := by decide +kernel
theorem dX11_readGround_108 : decode cX11_readGround 108 = .ok (.getfield 230, 3) := by decide +kernel
theorem dX11_readGround_111 : decode cX11_readGround 111 = .ok (.iconst 2, 1) := by decide +kernel
theorem dX11_readGround_112 : decode cX11_readGround 112 = .ok (.irem, 1) := by decide +kernel
theorem dX11_readGround_113 : decode cX11_readGround 113 = .ok (.ifCond .eq 8, 3) := by decide +kernel
theorem dX11_readGround_116 : decode cX11_readGround 116 = .ok (.aload_n 0, 1) := by decide +kernel
theorem dX11_readGround_117 : decode cX11_readGround 117 = .ok (.invokevirtual 137, 3) := by decide +kernel
theorem dX11_readGround_120 : decode cX11_readGround 120 = .ok (.pop, 1) := by decide +kernel
theorem dX11_readGround_121 : decode cX11_readGround 121 = .ok (.return_, 1) := by decide +kernel
theorem dX11_readItems_0 : decode cX11_readItems 0 = .ok (.iconst 0, 1) := by decide +kernel
theorem dX11_readItems_1 : decode cX11_readItems 1 = .ok (.istore 5, 2) := by decide +kernel
theorem dX11_readItems_3 : decode cX11_readItems 3 = .ok (.aload_n 3, 1) := by decide +kernel
theorem dX11_readItems_4 : decode cX11_readItems 4 = .ok (.aload_n 0, 1) := by decide +kernel
theorem dX11_readItems_5 : decode cX11_readItems 5 = .ok (.invokevirtual 141, 3) := by decide +kernel
theorem dX11_readItems_8 : decode cX11_readItems 8 = .ok (.invokestatic 233, 3) := by decide +kernel
theorem dX11_readItems_11 : decode cX11_readItems 11 = .ok (.istore 6, 2) := by decide +kernel
theorem dX11_readItems_13 : decode cX11_readItems 13 = .ok (.iload 6, 2) := by decide +kernel
theorem dX11_readItems_15 : decode cX11_readItems 15 = .ok (.iconst (-1), 1) := by decide +kernel
theorem dX11_readItems_16 : decode cX11_readItems 16 = .ok (.if_icmp .eq 138, 3) := by decide +kernel
theorem dX11_readItems_19 : decode cX11_readItems 19 = .ok (.aload_n 0, 1) := by decide +kernel
theorem dX11_readItems_20 : decode cX11_readItems 20 = .ok (.getfield 131, 3) := by decide +kernel
theorem dX11_readItems_23 : decode cX11_readItems 23 = .ok (.iconst (-1), 1) := by decide +kernel
theorem dX11_readItems_24 : decode cX11_readItems 24 = .ok (.if_icmp .ne 130, 3) := by decide +kernel
theorem dX11_readItems_27 : decode cX11_readItems 27 = .ok (.iload 5, 2) := by decide +kernel
theorem dX11_readItems_29 : decode cX11_readItems 29 = .ok (.iload 6, 2) := by decide +kernel
theorem dX11_readItems_31 : decode cX11_readItems 31 = .ok (.invokestatic 237, 3) := by decide +kernel
theorem dX11_readItems_34 : decode cX11_readItems 34 = .ok (.ifCond .eq 9, 3) := by decide +kernel
theorem dX11_readItems_37 : decode cX11_readItems 37 = .ok (.aload_n 0, 1) := by decide +kernel
theorem dX11_readItems_38 : decode cX11_readItems 38 = .ok (.invokevirtual 137, 3) := by decide +kernel
theorem dX11_readItems_41 : decode cX11_readItems 41 = .ok (.pop, 1) := by decide +kernel
theorem dX11_readItems_42 : decode cX11_readItems 42 = .ok (.return_, 1) := by decide +kernel
theorem dX11_readItems_43 : decode cX11_readItems 43 = .ok (.iload 5, 2) := by decide +kernel
theorem dX11_readItems_45 : decode cX11_readItems 45 = .ok (.iconst 1, 1) := by decide +kernel
theorem dX11_readItems_46 : decode cX11_readItems 46 = .ok (.iload 6, 2) := by decide +kernel
theorem dX11_readItems_48 : decode cX11_readItems 48 = .ok (.ishl, 1) := by decide +kernel
theorem dX11_readItems_49 : decode cX11_readItems 49 = .ok (.ior, 1) := by decide +kernel
theorem dX11_readItems_50 : decode cX11_readItems 50 = .ok (.istore 5, 2) := by decide +kernel
theorem dX11_readItems_52 : decode cX11_readItems 52 = .ok (.aload_n 0, 1) := by decide +kernel
theorem dX11_readItems_53 : decode cX11_readItems 53 = .ok (.dup, 1) := by decide +kernel
theorem dX11_readItems_54 : decode cX11_readItems 54 = .ok (.getfield 122, 3) := by decide +kernel
theorem dX11_readItems_57 : decode cX11_readItems 57 = .ok (.iconst 1, 1) := by decide +kernel
theorem dX11_readItems_58 : decode cX11_readItems 58 = .ok (.iadd, 1) := by decide +kernel
theorem dX11_readItems_59 : decode cX11_readItems 59 = .ok (.putfield 122, 3) := by decide +kernel
theorem dX11_readItems_62 : decode cX11_readItems 62 = .ok (.iload 4, 2) := by decide +kernel
theorem dX11_readItems_64 : decode cX11_readItems 64 = .ok (.ifCond .eq 32, 3) := by decide +kernel
theorem dX11_readItems_67 : decode cX11_readItems 67 = .ok (.aload_n 0, 1) := by decide +kernel
theorem dX11_readItems_68 : decode cX11_readItems 68 = .ok (.iload 6, 2) := by decide +kernel
theorem dX11_readItems_70 : decode cX11_readItems 70 = .ok (.ifCond .ne 7, 3) := by decide +kernel
theorem dX11_readItems_73 : decode cX11_readItems 73 = .ok (.iconst 1, 1) := by decide +kernel
theorem dX11_readItems_74 : decode cX11_readItems 74 = .ok (.goto 4, 3) := by decide +kernel
theorem dX11_readItems_77 : decode cX11_readItems 77 = .ok (.iconst 0, 1) := by decide +kernel
theorem dX11_readItems_78 : decode cX11_readItems 78 = .ok (.iload 6, 2) := by decide +kernel
theorem dX11_readItems_80 : decode cX11_readItems 80 = .ok (.ifCond .ne 8, 3) := by decide +kernel
theorem dX11_readItems_83 : decode cX11_readItems 83 = .ok (.bipush 11, 2) := by decide +kernel
theorem dX11_readItems_85 : decode cX11_readItems 85 = .ok (.goto 5, 3) := by decide +kernel
theorem dX11_readItems_88 : decode cX11_readItems 88 = .ok (.bipush 99, 2) := by decide +kernel
theorem dX11_readItems_90 : decode cX11_readItems 90 = .ok (.invokevirtual 226, 3) := by decide +kernel
theorem dX11_readItems_93 : decode cX11_readItems 93 = .ok (.goto 29, 3) := by decide +kernel
theorem dX11_readItems_96 : decode cX11_readItems 96 = .ok (.aload_n 0, 1) := by decide +kernel
theorem dX11_readItems_97 : decode cX11_readItems 97 = .ok (.iload 6, 2) := by decide +kernel
theorem dX11_readItems_99 : decode cX11_readItems 99 = .ok (.ifCond .ne 7, 3) := by decide +kernel
theorem dX11_readItems_102 : decode cX11_readItems 102 = .ok (.iconst 1, 1) := by decide +kernel
theorem dX11_readItems_103 : decode cX11_readItems 103 = .ok (.goto 4, 3) := by decide +kernel
theorem dX11_readItems_106 : decode cX11_readItems 106 = .ok (.iconst 0, 1) := by decide +kernel
theorem dX11_readItems_107 : decode cX11_readItems 107 = .ok (.iload 6, 2) := by decide +kernel
theorem dX11_readItems_109 : decode cX11_readItems 109 = .ok (.ifCond .ne 8, 3) := by decide +kernel
theorem dX11_readItems_112 : decode cX11_readItems 112 = .ok (.bipush 20, 2) := by decide +kernel
theorem dX11_readItems_114 : decode cX11_readItems 114 = .ok (.goto 5, 3) := by decide +kernel
theorem dX11_readItems_117 : decode cX11_readItems 117 = .ok (.bipush 9, 2) := by decide +kernel
theorem dX11_readItems_119 : decode cX11_readItems 119 = .ok (.invokevirtual 226, 3) := by decide +kernel
theorem dX11_readItems_122 : decode cX11_readItems 122 = .ok (.istore 7, 2) := by decide +kernel
theorem dX11_readItems_124 : decode cX11_readItems 124 = .ok (.aload_n 0, 1) := by decide +kernel
theorem dX11_readItems_125 : decode cX11_readItems 125 = .ok (.getfield 131, 3) := by decide +kernel
theorem dX11_readItems_128 : decode cX11_readItems 128 = .ok (.iconst (-1), 1) := by decide +kernel
theorem dX11_readItems_129 : decode cX11_readItems 129 = .ok (.if_icmp .eq 4, 3) := by decide +kernel
theorem dX11_readItems_132 : decode cX11_readItems 132 = .ok (.return_, 1) := by decide +kernel
theorem dX11_readItems_133 : decode cX11_readItems 133 = .ok (.aload_n 1, 1) := by decide +kernel
theorem dX11_readItems_134 : decode cX11_readItems 134 = .ok (.iload_n 2, 1) := by decide +kernel
theorem dX11_readItems_135 : decode cX11_readItems 135 = .ok (.iload 6, 2) := by decide +kernel
theorem dX11_readItems_137 : decode cX11_readItems 137 = .ok (.iadd, 1) := by decide +kernel
theorem dX11_readItems_138 : decode cX11_readItems 138 = .ok (.iload 7, 2) := by decide +kernel
theorem dX11_readItems_140 : decode cX11_readItems 140 = .ok (.iastore, 1) := by decide +kernel
theorem dX11_readItems_141 : decode cX11_readItems 141 = .ok (.aload_n 3, 1) := by decide +kernel
theorem dX11_readItems_142 : decode cX11_readItems 142 = .ok (.aload_n 0, 1) := by decide +kernel
theorem dX11_readItems_143 : decode cX11_readItems 143 = .ok (.invokevirtual 141, 3) := by decide +kernel
theorem dX11_readItems_146 : decode cX11_readItems 146 = .ok (.invokestatic 233, 3) := by decide +kernel
theorem dX11_readItems_149 : decode cX11_readItems 149 = .ok (.istore 6, 2) := by decide +kernel
theorem dX11_readItems_151 : decode cX11_readItems 151 = .ok (.goto (-138), 3) := by decide +kernel
theorem dX11_readItems_154 : decode cX11_readItems 154 = .ok (.return_, 1) := by decide +kernel
theorem dX11_readClause_0 : decode cX11_readClause 0 = .ok (.aload_n 0, 1) := by decide +kernel
theorem dX11_readClause_1 : decode cX11_readClause 1 = .ok (.invokevirtual 141, 3) := by decide +kernel
theorem dX11_readClause_4 : decode cX11_readClause 4 = .ok (.istore_n 1, 1) := by decide +kernel
theorem dX11_readClause_5 : decode cX11_readClause 5 = .ok (.iload_n 1, 1) := by decide +kernel
theorem dX11_readClause_6 : decode cX11_readClause 6 = .ok (.bipush 103, 2) := by decide +kernel
theorem dX11_readClause_8 : decode cX11_readClause 8 = .ok (.if_icmp .ne 10, 3) := by decide +kernel
theorem dX11_readClause_11 : decode cX11_readClause 11 = .ok (.aload_n 0, 1) := by decide +kernel
theorem dX11_readClause_12 : decode cX11_readClause 12 = .ok (.getfield 223, 3) := by decide +kernel
theorem dX11_readClause_15 : decode cX11_readClause 15 = .ok (.ifCond .eq 30, 3) := by decide +kernel
theorem dX11_readClause_18 : decode cX11_readClause 18 = .ok (.iload_n 1, 1) := by decide +kernel
theorem dX11_readClause_19 : decode cX11_readClause 19 = .ok (.bipush 116, 2) := by decide +kernel
theorem dX11_readClause_21 : decode cX11_readClause 21 = .ok (.if_icmp .ne 10, 3) := by decide +kernel
theorem dX11_readClause_24 : decode cX11_readClause 24 = .ok (.aload_n 0, 1) := by decide +kernel
theorem dX11_readClause_25 : decode cX11_readClause 25 = .ok (.getfield 241, 3) := by decide +kernel
theorem dX11_readClause_28 : decode cX11_readClause 28 = .ok (.ifCond .eq 17, 3) := by decide +kernel
theorem dX11_readClause_31 : decode cX11_readClause 31 = .ok (.iload_n 1, 1) := by decide +kernel
theorem dX11_readClause_32 : decode cX11_readClause 32 = .ok (.bipush 99, 2) := by decide +kernel
theorem dX11_readClause_34 : decode cX11_readClause 34 = .ok (.if_icmp .ne 15, 3) := by decide +kernel
theorem dX11_readClause_37 : decode cX11_readClause 37 = .ok (.aload_n 0, 1) := by decide +kernel
theorem dX11_readClause_38 : decode cX11_readClause 38 = .ok (.getfield 244, 3) := by decide +kernel
theorem dX11_readClause_41 : decode cX11_readClause 41 = .ok (.iconst 4, 1) := by decide +kernel
theorem dX11_readClause_42 : decode cX11_readClause 42 = .ok (.if_icmp .ge 7, 3) := by decide +kernel
theorem dX11_readClause_45 : decode cX11_readClause 45 = .ok (.iconst 1, 1) := by decide +kernel
theorem dX11_readClause_46 : decode cX11_readClause 46 = .ok (.goto 4, 3) := by decide +kernel
theorem dX11_readClause_49 : decode cX11_readClause 49 = .ok (.iconst 0, 1) := by decide +kernel
theorem dX11_readClause_50 : decode cX11_readClause 50 = .ok (.istore_n 2, 1) := by decide +kernel
theorem dX11_readClause_51 : decode cX11_readClause 51 = .ok (.iload_n 2, 1) := by decide +kernel
theorem dX11_readClause_52 : decode cX11_readClause 52 = .ok (.ifCond .ne 9, 3) := by decide +kernel
theorem dX11_readClause_55 : decode cX11_readClause 55 = .ok (.aload_n 0, 1) := by decide +kernel
theorem dX11_readClause_56 : decode cX11_readClause 56 = .ok (.invokevirtual 137, 3) := by decide +kernel
theorem dX11_readClause_59 : decode cX11_readClause 59 = .ok (.pop, 1) := by decide +kernel
theorem dX11_readClause_60 : decode cX11_readClause 60 = .ok (.return_, 1) := by decide +kernel
theorem dX11_readClause_61 : decode cX11_readClause 61 = .ok (.aload_n 0, 1) := by decide +kernel
theorem dX11_readClause_62 : decode cX11_readClause 62 = .ok (.dup, 1) := by decide +kernel
theorem dX11_readClause_63 : decode cX11_readClause 63 = .ok (.getfield 122, 3) := by decide +kernel
theorem dX11_readClause_66 : decode cX11_readClause 66 = .ok (.iconst 1, 1) := by decide +kernel
theorem dX11_readClause_67 : decode cX11_readClause 67 = .ok (.iadd, 1) := by decide +kernel
theorem dX11_readClause_68 : decode cX11_readClause 68 = .ok (.putfield 122, 3) := by decide +kernel
theorem dX11_readClause_71 : decode cX11_readClause 71 = .ok (.iload_n 1, 1) := by decide +kernel
theorem dX11_readClause_72 : decode cX11_readClause 72 = .ok (.bipush 103, 2) := by decide +kernel
theorem dX11_readClause_74 : decode cX11_readClause 74 = .ok (.if_icmp .ne 8, 3) := by decide +kernel
theorem dX11_readClause_77 : decode cX11_readClause 77 = .ok (.aload_n 0, 1) := by decide +kernel
theorem dX11_readClause_78 : decode cX11_readClause 78 = .ok (.invokevirtual 247, 3) := by decide +kernel
theorem dX11_readClause_81 : decode cX11_readClause 81 = .ok (.return_, 1) := by decide +kernel
theorem dX11_readClause_82 : decode cX11_readClause 82 = .ok (.iload_n 1, 1) := by decide +kernel
theorem dX11_readClause_83 : decode cX11_readClause 83 = .ok (.bipush 116, 2) := by decide +kernel
theorem dX11_readClause_85 : decode cX11_readClause 85 = .ok (.if_icmp .ne 21, 3) := by decide +kernel
theorem dX11_readClause_88 : decode cX11_readClause 88 = .ok (.aload_n 0, 1) := by decide +kernel
theorem dX11_readClause_89 : decode cX11_readClause 89 = .ok (.iconst 1, 1) := by decide +kernel
theorem dX11_readClause_90 : decode cX11_readClause 90 = .ok (.putfield 241, 3) := by decide +kernel
theorem dX11_readClause_93 : decode cX11_readClause 93 = .ok (.aload_n 0, 1) := by decide +kernel
theorem dX11_readClause_94 : decode cX11_readClause 94 = .ok (.aload_n 0, 1) := by decide +kernel
theorem dX11_readClause_95 : decode cX11_readClause 95 = .ok (.getfield 46, 3) := by decide +kernel
theorem dX11_readClause_98 : decode cX11_readClause 98 = .ok (.iconst 0, 1) := by decide +kernel
theorem dX11_readClause_99 : decode cX11_readClause 99 = .ok (.ldc 250, 2) := by decide +kernel
theorem dX11_readClause_101 : decode cX11_readClause 101 = .ok (.iconst 1, 1) := by decide +kernel
theorem dX11_readClause_102 : decode cX11_readClause 102 = .ok (.invokevirtual 252, 3) := by decide +kernel
theorem dX11_readClause_105 : decode cX11_readClause 105 = .ok (.return_, 1) := by decide +kernel
theorem dX11_readClause_106 : decode cX11_readClause 106 = .ok (.aload_n 0, 1) := by decide +kernel
theorem dX11_readClause_107 : decode cX11_readClause 107 = .ok (.getfield 52, 3) := by decide +kernel
theorem dX11_readClause_110 : decode cX11_readClause 110 = .ok (.iconst 2, 1) := by decide +kernel
theorem dX11_readClause_111 : decode cX11_readClause 111 = .ok (.aload_n 0, 1) := by decide +kernel
theorem dX11_readClause_112 : decode cX11_readClause 112 = .ok (.getfield 244, 3) := by decide +kernel
theorem dX11_readClause_115 : decode cX11_readClause 115 = .ok (.imul, 1) := by decide +kernel
theorem dX11_readClause_116 : decode cX11_readClause 116 = .ok (.iconst 1, 1) := by decide +kernel
theorem dX11_readClause_117 : decode cX11_readClause 117 = .ok (.iastore, 1) := by decide +kernel
theorem dX11_readClause_118 : decode cX11_readClause 118 = .ok (.aload_n 0, 1) := by decide +kernel
theorem dX11_readClause_119 : decode cX11_readClause 119 = .ok (.getfield 52, 3) := by decide +kernel
theorem dX11_readClause_122 : decode cX11_readClause 122 = .ok (.iconst 2, 1) := by decide +kernel
theorem dX11_readClause_123 : decode cX11_readClause 123 = .ok (.aload_n 0, 1) := by decide +kernel
theorem dX11_readClause_124 : decode cX11_readClause 124 = .ok (.getfield 244, 3) := by decide +kernel
theorem dX11_readClause_127 : decode cX11_readClause 127 = .ok (.imul, 1) := by decide +kernel
theorem dX11_readClause_128 : decode cX11_readClause 128 = .ok (.iconst 1, 1) := by decide +kernel
theorem dX11_readClause_129 : decode cX11_readClause 129 = .ok (.iadd, 1) := by decide +kernel
theorem dX11_readClause_130 : decode cX11_readClause 130 = .ok (.iconst 1, 1) := by decide +kernel
theorem dX11_readClause_131 : decode cX11_readClause 131 = .ok (.iastore, 1) := by decide +kernel
theorem dX11_readClause_132 : decode cX11_readClause 132 = .ok (.aload_n 0, 1) := by decide +kernel
theorem dX11_readClause_133 : decode cX11_readClause 133 = .ok (.dup, 1) := by decide +kernel
theorem dX11_readClause_134 : decode cX11_readClause 134 = .ok (.getfield 244, 3) := by decide +kernel
theorem dX11_readClause_137 : decode cX11_readClause 137 = .ok (.iconst 1, 1) := by decide +kernel
theorem dX11_readClause_138 : decode cX11_readClause 138 = .ok (.iadd, 1) := by decide +kernel
theorem dX11_readClause_139 : decode cX11_readClause 139 = .ok (.putfield 244, 3) := by decide +kernel
theorem dX11_readClause_142 : decode cX11_readClause 142 = .ok (.aload_n 0, 1) := by decide +kernel
theorem dX11_readClause_143 : decode cX11_readClause 143 = .ok (.aload_n 0, 1) := by decide +kernel
theorem dX11_readClause_144 : decode cX11_readClause 144 = .ok (.getfield 52, 3) := by decide +kernel
theorem dX11_readClause_147 : decode cX11_readClause 147 = .ok (.iconst 2, 1) := by decide +kernel
theorem dX11_readClause_148 : decode cX11_readClause 148 = .ok (.aload_n 0, 1) := by decide +kernel
theorem dX11_readClause_149 : decode cX11_readClause 149 = .ok (.getfield 244, 3) := by decide +kernel
theorem dX11_readClause_152 : decode cX11_readClause 152 = .ok (.iconst 1, 1) := by decide +kernel
theorem dX11_readClause_153 : decode cX11_readClause 153 = .ok (.isub, 1) := by decide +kernel
theorem dX11_readClause_154 : decode cX11_readClause 154 = .ok (.imul, 1) := by decide +kernel
theorem dX11_readClause_155 : decode cX11_readClause 155 = .ok (.ldc_w 256, 3) := by decide +kernel
theorem dX11_readClause_158 : decode cX11_readClause 158 = .ok (.iconst 0, 1) := by decide +kernel
theorem dX11_readClause_159 : decode cX11_readClause 159 = .ok (.invokevirtual 252, 3) := by decide +kernel
theorem dX11_readClause_162 : decode cX11_readClause 162 = .ok (.return_, 1) := by decide +kernel
theorem dX11_readGarden_0 : decode cX11_readGarden 0 = .ok (.aload_n 0, 1) := by decide +kernel
theorem dX11_readGarden_1 : decode cX11_readGarden 1 = .ok (.aload_n 0, 1) := by decide +kernel
theorem dX11_readGarden_2 : decode cX11_readGarden 2 = .ok (.getfield 9, 3) := by decide +kernel
theorem dX11_readGarden_5 : decode cX11_readGarden 5 = .ok (.iconst 0, 1) := by decide +kernel
theorem dX11_readGarden_6 : decode cX11_readGarden 6 = .ok (.aload_n 0, 1) := by decide +kernel
theorem dX11_readGarden_7 : decode cX11_readGarden 7 = .ok (.getfield 112, 3) := by decide +kernel
theorem dX11_readGarden_10 : decode cX11_readGarden 10 = .ok (.invokevirtual 209, 3) := by decide +kernel
theorem dX11_readGarden_13 : decode cX11_readGarden 13 = .ok (.aload_n 0, 1) := by decide +kernel
theorem dX11_readGarden_14 : decode cX11_readGarden 14 = .ok (.iconst 0, 1) := by decide +kernel
theorem dX11_readGarden_15 : decode cX11_readGarden 15 = .ok (.putfield 230, 3) := by decide +kernel
theorem dX11_readGarden_18 : decode cX11_readGarden 18 = .ok (.aload_n 0, 1) := by decide +kernel
theorem dX11_readGarden_19 : decode cX11_readGarden 19 = .ok (.iconst 0, 1) := by decide +kernel
theorem dX11_readGarden_20 : decode cX11_readGarden 20 = .ok (.putfield 244, 3) := by decide +kernel
theorem dX11_readGarden_23 : decode cX11_readGarden 23 = .ok (.aload_n 0, 1) := by decide +kernel
theorem dX11_readGarden_24 : decode cX11_readGarden 24 = .ok (.iconst 0, 1) := by decide +kernel
theorem dX11_readGarden_25 : decode cX11_readGarden 25 = .ok (.putfield 223, 3) := by decide +kernel
theorem dX11_readGarden_28 : decode cX11_readGarden 28 = .ok (.aload_n 0, 1) := by decide +kernel
theorem dX11_readGarden_29 : decode cX11_readGarden 29 = .ok (.iconst 0, 1) := by decide +kernel
theorem dX11_readGarden_30 : decode cX11_readGarden 30 = .ok (.putfield 241, 3) := by decide +kernel
theorem dX11_readGarden_33 : decode cX11_readGarden 33 = .ok (.iconst 0, 1) := by decide +kernel
theorem dX11_readGarden_34 : decode cX11_readGarden 34 = .ok (.istore_n 1, 1) := by decide +kernel
theorem dX11_readGarden_35 : decode cX11_readGarden 35 = .ok (.iload_n 1, 1) := by decide +kernel
theorem dX11_readGarden_36 : decode cX11_readGarden 36 = .ok (.iconst 4, 1) := by decide +kernel
theorem dX11_readGarden_37 : decode cX11_readGarden 37 = .ok (.if_icmp .gt 24, 3) := by decide +kernel
theorem dX11_readGarden_40 : decode cX11_readGarden 40 = .ok (.aload_n 0, 1) := by decide +kernel
theorem dX11_readGarden_41 : decode cX11_readGarden 41 = .ok (.getfield 46, 3) := by decide +kernel
theorem dX11_readGarden_44 : decode cX11_readGarden 44 = .ok (.iload_n 1, 1) := by decide +kernel
theorem dX11_readGarden_45 : decode cX11_readGarden 45 = .ok (.iload_n 1, 1) := by decide +kernel
theorem dX11_readGarden_46 : decode cX11_readGarden 46 = .ok (.ifCond .ne 7, 3) := by decide +kernel
theorem dX11_readGarden_49 : decode cX11_readGarden 49 = .ok (.iconst 1, 1) := by decide +kernel
theorem dX11_readGarden_50 : decode cX11_readGarden 50 = .ok (.goto 4, 3) := by decide +kernel
theorem dX11_readGarden_53 : decode cX11_readGarden 53 = .ok (.iconst 0, 1) := by decide +kernel
theorem dX11_readGarden_54 : decode cX11_readGarden 54 = .ok (.iastore, 1) := by decide +kernel
theorem dX11_readGarden_55 : decode cX11_readGarden 55 = .ok (.iinc 1 1, 3) := by decide +kernel
theorem dX11_readGarden_58 : decode cX11_readGarden 58 = .ok (.goto (-23), 3) := by decide +kernel
theorem dX11_readGarden_61 : decode cX11_readGarden 61 = .ok (.iconst 1, 1) := by decide +kernel
theorem dX11_readGarden_62 : decode cX11_readGarden 62 = .ok (.istore_n 1, 1) := by decide +kernel
theorem dX11_readGarden_63 : decode cX11_readGarden 63 = .ok (.iload_n 1, 1) := by decide +kernel
theorem dX11_readGarden_64 : decode cX11_readGarden 64 = .ok (.ifCond .eq 55, 3) := by decide +kernel
theorem dX11_readGarden_67 : decode cX11_readGarden 67 = .ok (.aload_n 0, 1) := by decide +kernel
theorem dX11_readGarden_68 : decode cX11_readGarden 68 = .ok (.getfield 131, 3) := by decide +kernel
theorem dX11_readGarden_71 : decode cX11_readGarden 71 = .ok (.iconst (-1), 1) := by decide +kernel
theorem dX11_readGarden_72 : decode cX11_readGarden 72 = .ok (.if_icmp .ne 47, 3) := by decide +kernel
theorem dX11_readGarden_75 : decode cX11_readGarden 75 = .ok (.aload_n 0, 1) := by decide +kernel
theorem dX11_readGarden_76 : decode cX11_readGarden 76 = .ok (.invokevirtual 258, 3) := by decide +kernel
theorem dX11_readGarden_79 : decode cX11_readGarden 79 = .ok (.aload_n 0, 1) := by decide +kernel
theorem dX11_readGarden_80 : decode cX11_readGarden 80 = .ok (.getfield 131, 3) := by decide +kernel
theorem dX11_readGarden_83 : decode cX11_readGarden 83 = .ok (.iconst (-1), 1) := by decide +kernel
theorem dX11_readGarden_84 : decode cX11_readGarden 84 = .ok (.if_icmp .ne 16, 3) := by decide +kernel
theorem dX11_readGarden_87 : decode cX11_readGarden 87 = .ok (.aload_n 0, 1) := by decide +kernel
theorem dX11_readGarden_88 : decode cX11_readGarden 88 = .ok (.invokevirtual 141, 3) := by decide +kernel
theorem dX11_readGarden_91 : decode cX11_readGarden 91 = .ok (.bipush 59, 2) := by decide +kernel
theorem dX11_readGarden_93 : decode cX11_readGarden 93 = .ok (.if_icmp .ne 7, 3) := by decide +kernel
theorem dX11_readGarden_96 : decode cX11_readGarden 96 = .ok (.iconst 1, 1) := by decide +kernel
theorem dX11_readGarden_97 : decode cX11_readGarden 97 = .ok (.goto 4, 3) := by decide +kernel
theorem dX11_readGarden_100 : decode cX11_readGarden 100 = .ok (.iconst 0, 1) := by decide +kernel
theorem dX11_readGarden_101 : decode cX11_readGarden 101 = .ok (.istore_n 1, 1) := by decide +kernel
theorem dX11_readGarden_102 : decode cX11_readGarden 102 = .ok (.iload_n 1, 1) := by decide +kernel
theorem dX11_readGarden_103 : decode cX11_readGarden 103 = .ok (.ifCond .eq (-40), 3) := by decide +kernel
theorem dX11_readGarden_106 : decode cX11_readGarden 106 = .ok (.aload_n 0, 1) := by decide +kernel
theorem dX11_readGarden_107 : decode cX11_readGarden 107 = .ok (.dup, 1) := by decide +kernel
theorem dX11_readGarden_108 : decode cX11_readGarden 108 = .ok (.getfield 122, 3) := by decide +kernel
theorem dX11_readGarden_111 : decode cX11_readGarden 111 = .ok (.iconst 1, 1) := by decide +kernel
theorem dX11_readGarden_112 : decode cX11_readGarden 112 = .ok (.iadd, 1) := by decide +kernel
theorem dX11_readGarden_113 : decode cX11_readGarden 113 = .ok (.putfield 122, 3) := by decide +kernel
theorem dX11_readGarden_116 : decode cX11_readGarden 116 = .ok (.goto (-53), 3) := by decide +kernel
theorem dX11_readGarden_119 : decode cX11_readGarden 119 = .ok (.aload_n 0, 1) := by decide +kernel
theorem dX11_readGarden_120 : decode cX11_readGarden 120 = .ok (.getfield 131, 3) := by decide +kernel
theorem dX11_readGarden_123 : decode cX11_readGarden 123 = .ok (.iconst (-1), 1) := by decide +kernel
theorem dX11_readGarden_124 : decode cX11_readGarden 124 = .ok (.if_icmp .ne 38, 3) := by decide +kernel
theorem dX11_readGarden_127 : decode cX11_readGarden 127 = .ok (.aload_n 0, 1) := by decide +kernel
theorem dX11_readGarden_128 : decode cX11_readGarden 128 = .ok (.invokevirtual 141, 3) := by decide +kernel
theorem dX11_readGarden_131 : decode cX11_readGarden 131 = .ok (.iconst (-1), 1) := by decide +kernel
theorem dX11_readGarden_132 : decode cX11_readGarden 132 = .ok (.if_icmp .ne 25, 3) := by decide +kernel
theorem dX11_readGarden_135 : decode cX11_readGarden 135 = .ok (.aload_n 0, 1) := by decide +kernel
theorem dX11_readGarden_136 : decode cX11_readGarden 136 = .ok (.getfield 223, 3) := by decide +kernel
theorem dX11_readGarden_139 : decode cX11_readGarden 139 = .ok (.ifCond .eq 18, 3) := by decide +kernel
theorem dX11_readGarden_142 : decode cX11_readGarden 142 = .ok (.iconst 2, 1) := by decide +kernel
theorem dX11_readGarden_143 : decode cX11_readGarden 143 = .ok (.aload_n 0, 1) := by decide +kernel
theorem dX11_readGarden_144 : decode cX11_readGarden 144 = .ok (.getfield 46, 3) := by decide +kernel
theorem dX11_readGarden_147 : decode cX11_readGarden 147 = .ok (.iconst 0, 1) := by decide +kernel
theorem dX11_readGarden_148 : decode cX11_readGarden 148 = .ok (.iaload, 1) := by decide +kernel
theorem dX11_readGarden_149 : decode cX11_readGarden 149 = .ok (.imul, 1) := by decide +kernel
theorem dX11_readGarden_150 : decode cX11_readGarden 150 = .ok (.aload_n 0, 1) := by decide +kernel
theorem dX11_readGarden_151 : decode cX11_readGarden 151 = .ok (.getfield 230, 3) := by decide +kernel
theorem dX11_readGarden_154 : decode cX11_readGarden 154 = .ok (.if_icmp .lt 8, 3) := by decide +kernel
theorem dX11_readGarden_157 : decode cX11_readGarden 157 = .ok (.aload_n 0, 1) := by decide +kernel
theorem dX11_readGarden_158 : decode cX11_readGarden 158 = .ok (.invokevirtual 137, 3) := by decide +kernel
theorem dX11_readGarden_161 : decode cX11_readGarden 161 = .ok (.pop, 1) := by decide +kernel
theorem dX11_readGarden_162 : decode cX11_readGarden 162 = .ok (.return_, 1) := by decide +kernel
theorem dX11_fault_0 : decode cX11_fault 0 = .ok (.aload_n 0, 1) := by decide +kernel
theorem dX11_fault_1 : decode cX11_fault 1 = .ok (.iconst 0, 1) := by decide +kernel
theorem dX11_fault_2 : decode cX11_fault 2 = .ok (.putfield 95, 3) := by decide +kernel
theorem dX11_fault_5 : decode cX11_fault 5 = .ok (.iload_n 1, 1) := by decide +kernel
theorem dX11_fault_6 : decode cX11_fault 6 = .ok (.i2l, 1) := by decide +kernel
theorem dX11_fault_7 : decode cX11_fault 7 = .ok (.lconst 0, 1) := by decide +kernel
theorem dX11_fault_8 : decode cX11_fault 8 = .ok (.lconst 1, 1) := by decide +kernel
theorem dX11_fault_9 : decode cX11_fault 9 = .ok (.invokestatic 219, 3) := by decide +kernel
theorem dX11_fault_12 : decode cX11_fault 12 = .ok (.ifCond .ne 6, 3) := by decide +kernel
theorem dX11_fault_15 : decode cX11_fault 15 = .ok (.bipush (-2), 2) := by decide +kernel
theorem dX11_fault_17 : decode cX11_fault 17 = .ok (.ireturn, 1) := by decide +kernel
theorem dX11_fault_18 : decode cX11_fault 18 = .ok (.iload_n 1, 1) := by decide +kernel
theorem dX11_fault_19 : decode cX11_fault 19 = .ok (.ifCond .ne 10, 3) := by decide +kernel
theorem dX11_fault_22 : decode cX11_fault 22 = .ok (.aload_n 0, 1) := by decide +kernel
theorem dX11_fault_23 : decode cX11_fault 23 = .ok (.invokevirtual 261, 3) := by decide +kernel
theorem dX11_fault_26 : decode cX11_fault 26 = .ok (.goto 16, 3) := by decide +kernel
theorem dX11_fault_29 : decode cX11_fault 29 = .ok (.aload_n 0, 1) := by decide +kernel
theorem dX11_fault_30 : decode cX11_fault 30 = .ok (.aload_n 0, 1) := by decide +kernel
theorem dX11_fault_31 : decode cX11_fault 31 = .ok (.getfield 9, 3) := by decide +kernel
theorem dX11_fault_34 : decode cX11_fault 34 = .ok (.iconst 0, 1) := by decide +kernel
theorem dX11_fault_35 : decode cX11_fault 35 = .ok (.aload_n 0, 1) := by decide +kernel
theorem dX11_fault_36 : decode cX11_fault 36 = .ok (.getfield 112, 3) := by decide +kernel
theorem dX11_fault_39 : decode cX11_fault 39 = .ok (.invokevirtual 264, 3) := by decide +kernel
theorem dX11_fault_42 : decode cX11_fault 42 = .ok (.aload_n 0, 1) := by decide +kernel
theorem dX11_fault_43 : decode cX11_fault 43 = .ok (.getfield 131, 3) := by decide +kernel
theorem dX11_fault_46 : decode cX11_fault 46 = .ok (.ireturn, 1) := by decide +kernel
theorem dX11_text_0 : decode cX11_text 0 = .ok (.aload_n 0, 1) := by decide +kernel
theorem dX11_text_1 : decode cX11_text 1 = .ok (.iconst 0, 1) := by decide +kernel
theorem dX11_text_2 : decode cX11_text 2 = .ok (.putfield 95, 3) := by decide +kernel
theorem dX11_text_5 : decode cX11_text 5 = .ok (.iload_n 1, 1) := by decide +kernel
theorem dX11_text_6 : decode cX11_text 6 = .ok (.i2l, 1) := by decide +kernel
theorem dX11_text_7 : decode cX11_text 7 = .ok (.lconst 0, 1) := by decide +kernel
theorem dX11_text_8 : decode cX11_text 8 = .ok (.lconst 1, 1) := by decide +kernel
theorem dX11_text_9 : decode cX11_text 9 = .ok (.invokestatic 219, 3) := by decide +kernel
theorem dX11_text_12 : decode cX11_text 12 = .ok (.ifCond .eq 25, 3) := by decide +kernel
theorem dX11_text_15 : decode cX11_text 15 = .ok (.iload_n 1, 1) := by decide +kernel
theorem dX11_text_16 : decode cX11_text 16 = .ok (.iconst 1, 1) := by decide +kernel
theorem dX11_text_17 : decode cX11_text 17 = .ok (.if_icmp .ne 11, 3) := by decide +kernel
theorem dX11_text_20 : decode cX11_text 20 = .ok (.aload_n 0, 1) := by decide +kernel
theorem dX11_text_21 : decode cX11_text 21 = .ok (.getfield 267, 3) := by decide +kernel
theorem dX11_text_24 : decode cX11_text 24 = .ok (.iconst 4, 1) := by decide +kernel
theorem dX11_text_25 : decode cX11_text 25 = .ok (.if_icmp .eq 12, 3) := by decide +kernel
theorem dX11_text_28 : decode cX11_text 28 = .ok (.aload_n 0, 1) := by decide +kernel
theorem dX11_text_29 : decode cX11_text 29 = .ok (.iload_n 1, 1) := by decide +kernel
theorem dX11_text_30 : decode cX11_text 30 = .ok (.invokevirtual 270, 3) := by decide +kernel
theorem dX11_text_33 : decode cX11_text 33 = .ok (.iconst (-1), 1) := by decide +kernel
theorem dX11_text_34 : decode cX11_text 34 = .ok (.if_icmp .eq 5, 3) := by decide +kernel
theorem dX11_text_37 : decode cX11_text 37 = .ok (.iconst (-1), 1) := by decide +kernel
theorem dX11_text_38 : decode cX11_text 38 = .ok (.ireturn, 1) := by decide +kernel
theorem dX11_text_39 : decode cX11_text 39 = .ok (.aload_n 0, 1) := by decide +kernel
theorem dX11_text_40 : decode cX11_text 40 = .ok (.getfield 112, 3) := by decide +kernel
theorem dX11_text_43 : decode cX11_text 43 = .ok (.istore_n 2, 1) := by decide +kernel
theorem dX11_text_44 : decode cX11_text 44 = .ok (.aload_n 0, 1) := by decide +kernel
theorem dX11_text_45 : decode cX11_text 45 = .ok (.iconst 0, 1) := by decide +kernel
theorem dX11_text_46 : decode cX11_text 46 = .ok (.putfield 112, 3) := by decide +kernel
theorem dX11_text_49 : decode cX11_text 49 = .ok (.iload_n 1, 1) := by decide +kernel
theorem dX11_text_50 : decode cX11_text 50 = .ok (.iconst 1, 1) := by decide +kernel
theorem dX11_text_51 : decode cX11_text 51 = .ok (.if_icmp .ne 64, 3) := by decide +kernel
theorem dX11_text_54 : decode cX11_text 54 = .ok (.iconst 0, 1) := by decide +kernel
theorem dX11_text_55 : decode cX11_text 55 = .ok (.istore_n 3, 1) := by decide +kernel
theorem dX11_text_56 : decode cX11_text 56 = .ok (.iload_n 3, 1) := by decide +kernel
theorem dX11_text_57 : decode cX11_text 57 = .ok (.iload_n 2, 1) := by decide +kernel
theorem dX11_text_58 : decode cX11_text 58 = .ok (.if_icmp .ge 30, 3) := by decide +kernel
theorem dX11_text_61 : decode cX11_text 61 = .ok (.aload_n 0, 1) := by decide +kernel
theorem dX11_text_62 : decode cX11_text 62 = .ok (.getfield 13, 3) := by decide +kernel
theorem dX11_text_65 : decode cX11_text 65 = .ok (.sipush 160, 3) := by decide +kernel
theorem dX11_text_68 : decode cX11_text 68 = .ok (.aload_n 0, 1) := by decide +kernel
theorem dX11_text_69 : decode cX11_text 69 = .ok (.getfield 267, 3) := by decide +kernel
theorem dX11_text_72 : decode cX11_text 72 = .ok (.imul, 1) := by decide +kernel
theorem dX11_text_73 : decode cX11_text 73 = .ok (.iload_n 3, 1) := by decide +kernel
theorem dX11_text_74 : decode cX11_text 74 = .ok (.iadd, 1) := by decide +kernel
theorem dX11_text_75 : decode cX11_text 75 = .ok (.aload_n 0, 1) := by decide +kernel
theorem dX11_text_76 : decode cX11_text 76 = .ok (.getfield 9, 3) := by decide +kernel
theorem dX11_text_79 : decode cX11_text 79 = .ok (.iload_n 3, 1) := by decide +kernel
theorem dX11_text_80 : decode cX11_text 80 = .ok (.baload, 1) := by decide +kernel
theorem dX11_text_81 : decode cX11_text 81 = .ok (.bastore, 1) := by decide +kernel
theorem dX11_text_82 : decode cX11_text 82 = .ok (.iinc 3 1, 3) := by decide +kernel
theorem dX11_text_85 : decode cX11_text 85 = .ok (.goto (-29), 3) := by decide +kernel
theorem dX11_text_88 : decode cX11_text 88 = .ok (.aload_n 0, 1) := by decide +kernel
theorem dX11_text_89 : decode cX11_text 89 = .ok (.getfield 16, 3) := by decide +kernel
theorem dX11_text_92 : decode cX11_text 92 = .ok (.aload_n 0, 1) := by decide +kernel
theorem dX11_text_93 : decode cX11_text 93 = .ok (.getfield 267, 3) := by decide +kernel
theorem dX11_text_96 : decode cX11_text 96 = .ok (.iload_n 2, 1) := by decide +kernel
theorem dX11_text_97 : decode cX11_text 97 = .ok (.iastore, 1) := by decide +kernel
theorem dX11_text_98 : decode cX11_text 98 = .ok (.aload_n 0, 1) := by decide +kernel
theorem dX11_text_99 : decode cX11_text 99 = .ok (.dup, 1) := by decide +kernel
theorem dX11_text_100 : decode cX11_text 100 = .ok (.getfield 267, 3) := by decide +kernel
theorem dX11_text_103 : decode cX11_text 103 = .ok (.iconst 1, 1) := by decide +kernel
theorem dX11_text_104 : decode cX11_text 104 = .ok (.iadd, 1) := by decide +kernel
theorem dX11_text_105 : decode cX11_text 105 = .ok (.putfield 267, 3) := by decide +kernel
theorem dX11_text_108 : decode cX11_text 108 = .ok (.aload_n 0, 1) := by decide +kernel
theorem dX11_text_109 : decode cX11_text 109 = .ok (.getfield 267, 3) := by decide +kernel
theorem dX11_text_112 : decode cX11_text 112 = .ok (.iconst 1, 1) := by decide +kernel
theorem dX11_text_113 : decode cX11_text 113 = .ok (.isub, 1) := by decide +kernel
theorem dX11_text_114 : decode cX11_text 114 = .ok (.ireturn, 1) := by decide +kernel
theorem dX11_text_115 : decode cX11_text 115 = .ok (.aload_n 0, 1) := by decide +kernel
theorem dX11_text_116 : decode cX11_text 116 = .ok (.aload_n 0, 1) := by decide +kernel
theorem dX11_text_117 : decode cX11_text 117 = .ok (.getfield 230, 3) := by decide +kernel
theorem dX11_text_120 : decode cX11_text 120 = .ok (.putfield 272, 3) := by decide +kernel
theorem dX11_text_123 : decode cX11_text 123 = .ok (.aload_n 0, 1) := by decide +kernel
theorem dX11_text_124 : decode cX11_text 124 = .ok (.aload_n 0, 1) := by decide +kernel
theorem dX11_text_125 : decode cX11_text 125 = .ok (.getfield 244, 3) := by decide +kernel
theorem dX11_text_128 : decode cX11_text 128 = .ok (.putfield 275, 3) := by decide +kernel
theorem dX11_text_131 : decode cX11_text 131 = .ok (.aload_n 0, 1) := by decide +kernel
theorem dX11_text_132 : decode cX11_text 132 = .ok (.aload_n 0, 1) := by decide +kernel
theorem dX11_text_133 : decode cX11_text 133 = .ok (.getfield 46, 3) := by decide +kernel
theorem dX11_text_136 : decode cX11_text 136 = .ok (.iconst 0, 1) := by decide +kernel
theorem dX11_text_137 : decode cX11_text 137 = .ok (.iaload, 1) := by decide +kernel
theorem dX11_text_138 : decode cX11_text 138 = .ok (.putfield 278, 3) := by decide +kernel
theorem dX11_text_141 : decode cX11_text 141 = .ok (.iconst 0, 1) := by decide +kernel
theorem dX11_text_142 : decode cX11_text 142 = .ok (.istore_n 3, 1) := by decide +kernel
theorem dX11_text_143 : decode cX11_text 143 = .ok (.iload_n 3, 1) := by decide +kernel
theorem dX11_text_144 : decode cX11_text 144 = .ok (.bipush 24, 2) := by decide +kernel
theorem dX11_text_146 : decode cX11_text 146 = .ok (.if_icmp .ge 21, 3) := by decide +kernel
theorem dX11_text_149 : decode cX11_text 149 = .ok (.aload_n 0, 1) := by decide +kernel
theorem dX11_text_150 : decode cX11_text 150 = .ok (.getfield 37, 3) := by decide +kernel
theorem dX11_text_153 : decode cX11_text 153 = .ok (.iload_n 3, 1) := by decide +kernel
theorem dX11_text_154 : decode cX11_text 154 = .ok (.aload_n 0, 1) := by decide +kernel
theorem dX11_text_155 : decode cX11_text 155 = .ok (.getfield 40, 3) := by decide +kernel
theorem dX11_text_158 : decode cX11_text 158 = .ok (.iload_n 3, 1) := by decide +kernel
theorem dX11_text_159 : decode cX11_text 159 = .ok (.iaload, 1) := by decide +kernel
theorem dX11_text_160 : decode cX11_text 160 = .ok (.iastore, 1) := by decide +kernel
theorem dX11_text_161 : decode cX11_text 161 = .ok (.iinc 3 1, 3) := by decide +kernel
theorem dX11_text_164 : decode cX11_text 164 = .ok (.goto (-21), 3) := by decide +kernel
theorem dX11_text_167 : decode cX11_text 167 = .ok (.iconst 0, 1) := by decide +kernel
theorem dX11_text_168 : decode cX11_text 168 = .ok (.istore_n 3, 1) := by decide +kernel
theorem dX11_text_169 : decode cX11_text 169 = .ok (.iload_n 3, 1) := by decide +kernel
theorem dX11_text_170 : decode cX11_text 170 = .ok (.iconst 4, 1) := by decide +kernel
theorem dX11_text_171 : decode cX11_text 171 = .ok (.if_icmp .ge 23, 3) := by decide +kernel
theorem dX11_text_174 : decode cX11_text 174 = .ok (.aload_n 0, 1) := by decide +kernel
theorem dX11_text_175 : decode cX11_text 175 = .ok (.getfield 43, 3) := by decide +kernel
theorem dX11_text_178 : decode cX11_text 178 = .ok (.iload_n 3, 1) := by decide +kernel
theorem dX11_text_179 : decode cX11_text 179 = .ok (.aload_n 0, 1) := by decide +kernel
theorem dX11_text_180 : decode cX11_text 180 = .ok (.getfield 46, 3) := by decide +kernel
theorem dX11_text_183 : decode cX11_text 183 = .ok (.iload_n 3, 1) := by decide +kernel
theorem dX11_text_184 : decode cX11_text 184 = .ok (.iconst 1, 1) := by decide +kernel
theorem dX11_text_185 : decode cX11_text 185 = .ok (.iadd, 1) := by decide +kernel
theorem dX11_text_186 : decode cX11_text 186 = .ok (.iaload, 1) := by decide +kernel
theorem dX11_text_187 : decode cX11_text 187 = .ok (.iastore, 1) := by decide +kernel
theorem dX11_text_188 : decode cX11_text 188 = .ok (.iinc 3 1, 3) := by decide +kernel
theorem dX11_text_191 : decode cX11_text 191 = .ok (.goto (-22), 3) := by decide +kernel
theorem dX11_text_194 : decode cX11_text 194 = .ok (.iconst 0, 1) := by decide +kernel
theorem dX11_text_195 : decode cX11_text 195 = .ok (.istore_n 3, 1) := by decide +kernel
theorem dX11_text_196 : decode cX11_text 196 = .ok (.iload_n 3, 1) := by decide +kernel
theorem dX11_text_197 : decode cX11_text 197 = .ok (.bipush 8, 2) := by decide +kernel
theorem dX11_text_199 : decode cX11_text 199 = .ok (.if_icmp .ge 21, 3) := by decide +kernel
theorem dX11_text_202 : decode cX11_text 202 = .ok (.aload_n 0, 1) := by decide +kernel
theorem dX11_text_203 : decode cX11_text 203 = .ok (.getfield 49, 3) := by decide +kernel
theorem dX11_text_206 : decode cX11_text 206 = .ok (.iload_n 3, 1) := by decide +kernel
theorem dX11_text_207 : decode cX11_text 207 = .ok (.aload_n 0, 1) := by decide +kernel
theorem dX11_text_208 : decode cX11_text 208 = .ok (.getfield 52, 3) := by decide +kernel
theorem dX11_text_211 : decode cX11_text 211 = .ok (.iload_n 3, 1) := by decide +kernel
theorem dX11_text_212 : decode cX11_text 212 = .ok (.iaload, 1) := by decide +kernel
theorem dX11_text_213 : decode cX11_text 213 = .ok (.iastore, 1) := by decide +kernel
