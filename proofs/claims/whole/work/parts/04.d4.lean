theorem dX11_text_214 : decode cX11_text 214 = .ok (.iinc 3 1, 3) := by decide +kernel
theorem dX11_text_217 : decode cX11_text 217 = .ok (.goto (-21), 3) := by decide +kernel
theorem dX11_text_220 : decode cX11_text 220 = .ok (.aload_n 0, 1) := by decide +kernel
theorem dX11_text_221 : decode cX11_text 221 = .ok (.iconst (-1), 1) := by decide +kernel
theorem dX11_text_222 : decode cX11_text 222 = .ok (.putfield 55, 3) := by decide +kernel
theorem dX11_text_225 : decode cX11_text 225 = .ok (.aload_n 0, 1) := by decide +kernel
theorem dX11_text_226 : decode cX11_text 226 = .ok (.iconst 0, 1) := by decide +kernel
theorem dX11_text_227 : decode cX11_text 227 = .ok (.putfield 281, 3) := by decide +kernel
theorem dX11_text_230 : decode cX11_text 230 = .ok (.aload_n 0, 1) := by decide +kernel
theorem dX11_text_231 : decode cX11_text 231 = .ok (.iconst 0, 1) := by decide +kernel
theorem dX11_text_232 : decode cX11_text 232 = .ok (.putfield 284, 3) := by decide +kernel
theorem dX11_text_235 : decode cX11_text 235 = .ok (.aload_n 0, 1) := by decide +kernel
theorem dX11_text_236 : decode cX11_text 236 = .ok (.iconst 0, 1) := by decide +kernel
theorem dX11_text_237 : decode cX11_text 237 = .ok (.putfield 287, 3) := by decide +kernel
theorem dX11_text_240 : decode cX11_text 240 = .ok (.aload_n 0, 1) := by decide +kernel
theorem dX11_text_241 : decode cX11_text 241 = .ok (.getfield 272, 3) := by decide +kernel
theorem dX11_text_244 : decode cX11_text 244 = .ok (.ireturn, 1) := by decide +kernel
theorem dX11_isTurning_0 : decode cX11_isTurning 0 = .ok (.iload_n 1, 1) := by decide +kernel
theorem dX11_isTurning_1 : decode cX11_isTurning 1 = .ok (.ifCond .lt 15, 3) := by decide +kernel
theorem dX11_isTurning_4 : decode cX11_isTurning 4 = .ok (.iload_n 1, 1) := by decide +kernel
theorem dX11_isTurning_5 : decode cX11_isTurning 5 = .ok (.aload_n 0, 1) := by decide +kernel
theorem dX11_isTurning_6 : decode cX11_isTurning 6 = .ok (.getfield 272, 3) := by decide +kernel
theorem dX11_isTurning_9 : decode cX11_isTurning 9 = .ok (.if_icmp .ge 7, 3) := by decide +kernel
theorem dX11_isTurning_12 : decode cX11_isTurning 12 = .ok (.iconst 1, 1) := by decide +kernel
theorem dX11_isTurning_13 : decode cX11_isTurning 13 = .ok (.goto 4, 3) := by decide +kernel
theorem dX11_isTurning_16 : decode cX11_isTurning 16 = .ok (.iconst 0, 1) := by decide +kernel
theorem dX11_isTurning_17 : decode cX11_isTurning 17 = .ok (.ireturn, 1) := by decide +kernel
theorem dX11_isLeg_0 : decode cX11_isLeg 0 = .ok (.aload_n 0, 1) := by decide +kernel
theorem dX11_isLeg_1 : decode cX11_isLeg 1 = .ok (.getfield 272, 3) := by decide +kernel
theorem dX11_isLeg_4 : decode cX11_isLeg 4 = .ok (.ifCond .le 16, 3) := by decide +kernel
theorem dX11_isLeg_7 : decode cX11_isLeg 7 = .ok (.iload_n 1, 1) := by decide +kernel
theorem dX11_isLeg_8 : decode cX11_isLeg 8 = .ok (.ifCond .lt 12, 3) := by decide +kernel
theorem dX11_isLeg_11 : decode cX11_isLeg 11 = .ok (.iload_n 1, 1) := by decide +kernel
theorem dX11_isLeg_12 : decode cX11_isLeg 12 = .ok (.iconst 4, 1) := by decide +kernel
theorem dX11_isLeg_13 : decode cX11_isLeg 13 = .ok (.if_icmp .ge 7, 3) := by decide +kernel
theorem dX11_isLeg_16 : decode cX11_isLeg 16 = .ok (.iconst 1, 1) := by decide +kernel
theorem dX11_isLeg_17 : decode cX11_isLeg 17 = .ok (.goto 4, 3) := by decide +kernel
theorem dX11_isLeg_20 : decode cX11_isLeg 20 = .ok (.iconst 0, 1) := by decide +kernel
theorem dX11_isLeg_21 : decode cX11_isLeg 21 = .ok (.ireturn, 1) := by decide +kernel
theorem dX11_height_0 : decode cX11_height 0 = .ok (.aload_n 0, 1) := by decide +kernel
theorem dX11_height_1 : decode cX11_height 1 = .ok (.aload_n 0, 1) := by decide +kernel
theorem dX11_height_2 : decode cX11_height 2 = .ok (.iload_n 1, 1) := by decide +kernel
theorem dX11_height_3 : decode cX11_height 3 = .ok (.invokevirtual 290, 3) := by decide +kernel
theorem dX11_height_6 : decode cX11_height 6 = .ok (.ifCond .eq 7, 3) := by decide +kernel
theorem dX11_height_9 : decode cX11_height 9 = .ok (.iconst 0, 1) := by decide +kernel
theorem dX11_height_10 : decode cX11_height 10 = .ok (.goto 4, 3) := by decide +kernel
theorem dX11_height_13 : decode cX11_height 13 = .ok (.iconst 1, 1) := by decide +kernel
theorem dX11_height_14 : decode cX11_height 14 = .ok (.putfield 95, 3) := by decide +kernel
theorem dX11_height_17 : decode cX11_height 17 = .ok (.aload_n 0, 1) := by decide +kernel
theorem dX11_height_18 : decode cX11_height 18 = .ok (.getfield 95, 3) := by decide +kernel
theorem dX11_height_21 : decode cX11_height 21 = .ok (.ifCond .le 7, 3) := by decide +kernel
theorem dX11_height_24 : decode cX11_height 24 = .ok (.iconst 0, 1) := by decide +kernel
theorem dX11_height_25 : decode cX11_height 25 = .ok (.goto 9, 3) := by decide +kernel
theorem dX11_height_28 : decode cX11_height 28 = .ok (.aload_n 0, 1) := by decide +kernel
theorem dX11_height_29 : decode cX11_height 29 = .ok (.getfield 37, 3) := by decide +kernel
theorem dX11_height_32 : decode cX11_height 32 = .ok (.iload_n 1, 1) := by decide +kernel
theorem dX11_height_33 : decode cX11_height 33 = .ok (.iaload, 1) := by decide +kernel
theorem dX11_height_34 : decode cX11_height 34 = .ok (.ireturn, 1) := by decide +kernel
theorem dX11_shorter_0 : decode cX11_shorter 0 = .ok (.aload_n 0, 1) := by decide +kernel
theorem dX11_shorter_1 : decode cX11_shorter 1 = .ok (.iconst 0, 1) := by decide +kernel
theorem dX11_shorter_2 : decode cX11_shorter 2 = .ok (.putfield 95, 3) := by decide +kernel
theorem dX11_shorter_5 : decode cX11_shorter 5 = .ok (.aload_n 0, 1) := by decide +kernel
theorem dX11_shorter_6 : decode cX11_shorter 6 = .ok (.iload_n 1, 1) := by decide +kernel
theorem dX11_shorter_7 : decode cX11_shorter 7 = .ok (.invokevirtual 293, 3) := by decide +kernel
theorem dX11_shorter_10 : decode cX11_shorter 10 = .ok (.ifCond .eq 12, 3) := by decide +kernel
theorem dX11_shorter_13 : decode cX11_shorter 13 = .ok (.aload_n 0, 1) := by decide +kernel
theorem dX11_shorter_14 : decode cX11_shorter 14 = .ok (.getfield 43, 3) := by decide +kernel
theorem dX11_shorter_17 : decode cX11_shorter 17 = .ok (.iload_n 1, 1) := by decide +kernel
theorem dX11_shorter_18 : decode cX11_shorter 18 = .ok (.iaload, 1) := by decide +kernel
theorem dX11_shorter_19 : decode cX11_shorter 19 = .ok (.goto 4, 3) := by decide +kernel
theorem dX11_shorter_22 : decode cX11_shorter 22 = .ok (.iconst (-1), 1) := by decide +kernel
theorem dX11_shorter_23 : decode cX11_shorter 23 = .ok (.ireturn, 1) := by decide +kernel
theorem dX11_card_0 : decode cX11_card 0 = .ok (.aload_n 0, 1) := by decide +kernel
theorem dX11_card_1 : decode cX11_card 1 = .ok (.iconst 0, 1) := by decide +kernel
theorem dX11_card_2 : decode cX11_card 2 = .ok (.putfield 95, 3) := by decide +kernel
theorem dX11_card_5 : decode cX11_card 5 = .ok (.aload_n 0, 1) := by decide +kernel
theorem dX11_card_6 : decode cX11_card 6 = .ok (.getfield 272, 3) := by decide +kernel
theorem dX11_card_9 : decode cX11_card 9 = .ok (.ifCond .le 42, 3) := by decide +kernel
theorem dX11_card_12 : decode cX11_card 12 = .ok (.iload_n 1, 1) := by decide +kernel
theorem dX11_card_13 : decode cX11_card 13 = .ok (.i2l, 1) := by decide +kernel
theorem dX11_card_14 : decode cX11_card 14 = .ok (.lconst 0, 1) := by decide +kernel
theorem dX11_card_15 : decode cX11_card 15 = .ok (.aload_n 0, 1) := by decide +kernel
theorem dX11_card_16 : decode cX11_card 16 = .ok (.getfield 275, 3) := by decide +kernel
theorem dX11_card_19 : decode cX11_card 19 = .ok (.iconst 1, 1) := by decide +kernel
theorem dX11_card_20 : decode cX11_card 20 = .ok (.isub, 1) := by decide +kernel
theorem dX11_card_21 : decode cX11_card 21 = .ok (.i2l, 1) := by decide +kernel
theorem dX11_card_22 : decode cX11_card 22 = .ok (.invokestatic 219, 3) := by decide +kernel
theorem dX11_card_25 : decode cX11_card 25 = .ok (.ifCond .eq 26, 3) := by decide +kernel
theorem dX11_card_28 : decode cX11_card 28 = .ok (.iload_n 2, 1) := by decide +kernel
theorem dX11_card_29 : decode cX11_card 29 = .ok (.i2l, 1) := by decide +kernel
theorem dX11_card_30 : decode cX11_card 30 = .ok (.lconst 0, 1) := by decide +kernel
theorem dX11_card_31 : decode cX11_card 31 = .ok (.lconst 1, 1) := by decide +kernel
theorem dX11_card_32 : decode cX11_card 32 = .ok (.invokestatic 219, 3) := by decide +kernel
theorem dX11_card_35 : decode cX11_card 35 = .ok (.ifCond .eq 16, 3) := by decide +kernel
theorem dX11_card_38 : decode cX11_card 38 = .ok (.aload_n 0, 1) := by decide +kernel
theorem dX11_card_39 : decode cX11_card 39 = .ok (.getfield 49, 3) := by decide +kernel
theorem dX11_card_42 : decode cX11_card 42 = .ok (.iconst 2, 1) := by decide +kernel
theorem dX11_card_43 : decode cX11_card 43 = .ok (.iload_n 1, 1) := by decide +kernel
theorem dX11_card_44 : decode cX11_card 44 = .ok (.imul, 1) := by decide +kernel
theorem dX11_card_45 : decode cX11_card 45 = .ok (.iload_n 2, 1) := by decide +kernel
theorem dX11_card_46 : decode cX11_card 46 = .ok (.iadd, 1) := by decide +kernel
theorem dX11_card_47 : decode cX11_card 47 = .ok (.iaload, 1) := by decide +kernel
theorem dX11_card_48 : decode cX11_card 48 = .ok (.goto 4, 3) := by decide +kernel
theorem dX11_card_51 : decode cX11_card 51 = .ok (.iconst (-1), 1) := by decide +kernel
theorem dX11_card_52 : decode cX11_card 52 = .ok (.ireturn, 1) := by decide +kernel
theorem dX11_wish_0 : decode cX11_wish 0 = .ok (.aload_n 0, 1) := by decide +kernel
theorem dX11_wish_1 : decode cX11_wish 1 = .ok (.iconst 0, 1) := by decide +kernel
theorem dX11_wish_2 : decode cX11_wish 2 = .ok (.putfield 95, 3) := by decide +kernel
theorem dX11_wish_5 : decode cX11_wish 5 = .ok (.aload_n 0, 1) := by decide +kernel
theorem dX11_wish_6 : decode cX11_wish 6 = .ok (.getfield 272, 3) := by decide +kernel
theorem dX11_wish_9 : decode cX11_wish 9 = .ok (.ifCond .eq 24, 3) := by decide +kernel
theorem dX11_wish_12 : decode cX11_wish 12 = .ok (.iload_n 1, 1) := by decide +kernel
theorem dX11_wish_13 : decode cX11_wish 13 = .ok (.iconst (-1), 1) := by decide +kernel
theorem dX11_wish_14 : decode cX11_wish 14 = .ok (.if_icmp .eq 21, 3) := by decide +kernel
theorem dX11_wish_17 : decode cX11_wish 17 = .ok (.iload_n 1, 1) := by decide +kernel
theorem dX11_wish_18 : decode cX11_wish 18 = .ok (.i2l, 1) := by decide +kernel
theorem dX11_wish_19 : decode cX11_wish 19 = .ok (.lconst 0, 1) := by decide +kernel
theorem dX11_wish_20 : decode cX11_wish 20 = .ok (.aload_n 0, 1) := by decide +kernel
theorem dX11_wish_21 : decode cX11_wish 21 = .ok (.getfield 267, 3) := by decide +kernel
theorem dX11_wish_24 : decode cX11_wish 24 = .ok (.iconst 1, 1) := by decide +kernel
theorem dX11_wish_25 : decode cX11_wish 25 = .ok (.isub, 1) := by decide +kernel
theorem dX11_wish_26 : decode cX11_wish 26 = .ok (.i2l, 1) := by decide +kernel
theorem dX11_wish_27 : decode cX11_wish 27 = .ok (.invokestatic 219, 3) := by decide +kernel
theorem dX11_wish_30 : decode cX11_wish 30 = .ok (.ifCond .ne 5, 3) := by decide +kernel
theorem dX11_wish_33 : decode cX11_wish 33 = .ok (.iconst 0, 1) := by decide +kernel
theorem dX11_wish_34 : decode cX11_wish 34 = .ok (.ireturn, 1) := by decide +kernel
theorem dX11_wish_35 : decode cX11_wish 35 = .ok (.aload_n 0, 1) := by decide +kernel
theorem dX11_wish_36 : decode cX11_wish 36 = .ok (.iload_n 1, 1) := by decide +kernel
theorem dX11_wish_37 : decode cX11_wish 37 = .ok (.putfield 55, 3) := by decide +kernel
theorem dX11_wish_40 : decode cX11_wish 40 = .ok (.iconst 1, 1) := by decide +kernel
theorem dX11_wish_41 : decode cX11_wish 41 = .ok (.ireturn, 1) := by decide +kernel
theorem dX11_pointOf_0 : decode cX11_pointOf 0 = .ok (.iload_n 2, 1) := by decide +kernel
theorem dX11_pointOf_1 : decode cX11_pointOf 1 = .ok (.iload_n 1, 1) := by decide +kernel
theorem dX11_pointOf_2 : decode cX11_pointOf 2 = .ok (.iconst 2, 1) := by decide +kernel
theorem dX11_pointOf_3 : decode cX11_pointOf 3 = .ok (.irem, 1) := by decide +kernel
theorem dX11_pointOf_4 : decode cX11_pointOf 4 = .ok (.iconst 1, 1) := by decide +kernel
theorem dX11_pointOf_5 : decode cX11_pointOf 5 = .ok (.if_icmp .ne 10, 3) := by decide +kernel
theorem dX11_pointOf_8 : decode cX11_pointOf 8 = .ok (.aload_n 0, 1) := by decide +kernel
theorem dX11_pointOf_9 : decode cX11_pointOf 9 = .ok (.getfield 278, 3) := by decide +kernel
theorem dX11_pointOf_12 : decode cX11_pointOf 12 = .ok (.goto 4, 3) := by decide +kernel
theorem dX11_pointOf_15 : decode cX11_pointOf 15 = .ok (.iconst 0, 1) := by decide +kernel
theorem dX11_pointOf_16 : decode cX11_pointOf 16 = .ok (.iadd, 1) := by decide +kernel
theorem dX11_pointOf_17 : decode cX11_pointOf 17 = .ok (.iload_n 1, 1) := by decide +kernel
theorem dX11_pointOf_18 : decode cX11_pointOf 18 = .ok (.iconst 1, 1) := by decide +kernel
theorem dX11_pointOf_19 : decode cX11_pointOf 19 = .ok (.if_icmp .le 12, 3) := by decide +kernel
theorem dX11_pointOf_22 : decode cX11_pointOf 22 = .ok (.aload_n 0, 1) := by decide +kernel
theorem dX11_pointOf_23 : decode cX11_pointOf 23 = .ok (.getfield 272, 3) := by decide +kernel
theorem dX11_pointOf_26 : decode cX11_pointOf 26 = .ok (.iconst 2, 1) := by decide +kernel
theorem dX11_pointOf_27 : decode cX11_pointOf 27 = .ok (.idiv, 1) := by decide +kernel
theorem dX11_pointOf_28 : decode cX11_pointOf 28 = .ok (.goto 4, 3) := by decide +kernel
theorem dX11_pointOf_31 : decode cX11_pointOf 31 = .ok (.iconst 0, 1) := by decide +kernel
theorem dX11_pointOf_32 : decode cX11_pointOf 32 = .ok (.iadd, 1) := by decide +kernel
theorem dX11_pointOf_33 : decode cX11_pointOf 33 = .ok (.aload_n 0, 1) := by decide +kernel
theorem dX11_pointOf_34 : decode cX11_pointOf 34 = .ok (.getfield 272, 3) := by decide +kernel
theorem dX11_pointOf_37 : decode cX11_pointOf 37 = .ok (.irem, 1) := by decide +kernel
theorem dX11_pointOf_38 : decode cX11_pointOf 38 = .ok (.ireturn, 1) := by decide +kernel
theorem dX11_reach_0 : decode cX11_reach 0 = .ok (.aload_n 0, 1) := by decide +kernel
theorem dX11_reach_1 : decode cX11_reach 1 = .ok (.getfield 37, 3) := by decide +kernel
theorem dX11_reach_4 : decode cX11_reach 4 = .ok (.aload_n 0, 1) := by decide +kernel
theorem dX11_reach_5 : decode cX11_reach 5 = .ok (.iload_n 1, 1) := by decide +kernel
theorem dX11_reach_6 : decode cX11_reach 6 = .ok (.iload_n 2, 1) := by decide +kernel
theorem dX11_reach_7 : decode cX11_reach 7 = .ok (.invokevirtual 296, 3) := by decide +kernel
theorem dX11_reach_10 : decode cX11_reach 10 = .ok (.iaload, 1) := by decide +kernel
theorem dX11_reach_11 : decode cX11_reach 11 = .ok (.aload_n 0, 1) := by decide +kernel
theorem dX11_reach_12 : decode cX11_reach 12 = .ok (.getfield 43, 3) := by decide +kernel
theorem dX11_reach_15 : decode cX11_reach 15 = .ok (.iload_n 1, 1) := by decide +kernel
theorem dX11_reach_16 : decode cX11_reach 16 = .ok (.iaload, 1) := by decide +kernel
theorem dX11_reach_17 : decode cX11_reach 17 = .ok (.isub, 1) := by decide +kernel
theorem dX11_reach_18 : decode cX11_reach 18 = .ok (.ireturn, 1) := by decide +kernel
theorem dX11_gapOf_0 : decode cX11_gapOf 0 = .ok (.aload_n 0, 1) := by decide +kernel
theorem dX11_gapOf_1 : decode cX11_gapOf 1 = .ok (.iconst 0, 1) := by decide +kernel
theorem dX11_gapOf_2 : decode cX11_gapOf 2 = .ok (.iload_n 1, 1) := by decide +kernel
theorem dX11_gapOf_3 : decode cX11_gapOf 3 = .ok (.invokevirtual 299, 3) := by decide +kernel
theorem dX11_gapOf_6 : decode cX11_gapOf 6 = .ok (.aload_n 0, 1) := by decide +kernel
theorem dX11_gapOf_7 : decode cX11_gapOf 7 = .ok (.iconst 2, 1) := by decide +kernel
theorem dX11_gapOf_8 : decode cX11_gapOf 8 = .ok (.iload_n 1, 1) := by decide +kernel
theorem dX11_gapOf_9 : decode cX11_gapOf 9 = .ok (.invokevirtual 299, 3) := by decide +kernel
theorem dX11_gapOf_12 : decode cX11_gapOf 12 = .ok (.iadd, 1) := by decide +kernel
theorem dX11_gapOf_13 : decode cX11_gapOf 13 = .ok (.aload_n 0, 1) := by decide +kernel
theorem dX11_gapOf_14 : decode cX11_gapOf 14 = .ok (.iconst 1, 1) := by decide +kernel
theorem dX11_gapOf_15 : decode cX11_gapOf 15 = .ok (.iload_n 1, 1) := by decide +kernel
theorem dX11_gapOf_16 : decode cX11_gapOf 16 = .ok (.invokevirtual 299, 3) := by decide +kernel
theorem dX11_gapOf_19 : decode cX11_gapOf 19 = .ok (.isub, 1) := by decide +kernel
theorem dX11_gapOf_20 : decode cX11_gapOf 20 = .ok (.aload_n 0, 1) := by decide +kernel
theorem dX11_gapOf_21 : decode cX11_gapOf 21 = .ok (.iconst 3, 1) := by decide +kernel
theorem dX11_gapOf_22 : decode cX11_gapOf 22 = .ok (.iload_n 1, 1) := by decide +kernel
theorem dX11_gapOf_23 : decode cX11_gapOf 23 = .ok (.invokevirtual 299, 3) := by decide +kernel
theorem dX11_gapOf_26 : decode cX11_gapOf 26 = .ok (.isub, 1) := by decide +kernel
theorem dX11_gapOf_27 : decode cX11_gapOf 27 = .ok (.ireturn, 1) := by decide +kernel
theorem dX11_slant_0 : decode cX11_slant 0 = .ok (.aload_n 0, 1) := by decide +kernel
theorem dX11_slant_1 : decode cX11_slant 1 = .ok (.iload_n 1, 1) := by decide +kernel
theorem dX11_slant_2 : decode cX11_slant 2 = .ok (.iload_n 2, 1) := by decide +kernel
theorem dX11_slant_3 : decode cX11_slant 3 = .ok (.invokevirtual 299, 3) := by decide +kernel
theorem dX11_slant_6 : decode cX11_slant 6 = .ok (.aload_n 0, 1) := by decide +kernel
theorem dX11_slant_7 : decode cX11_slant 7 = .ok (.iload_n 1, 1) := by decide +kernel
theorem dX11_slant_8 : decode cX11_slant 8 = .ok (.iconst 2, 1) := by decide +kernel
theorem dX11_slant_9 : decode cX11_slant 9 = .ok (.iadd, 1) := by decide +kernel
theorem dX11_slant_10 : decode cX11_slant 10 = .ok (.iload_n 2, 1) := by decide +kernel
theorem dX11_slant_11 : decode cX11_slant 11 = .ok (.invokevirtual 299, 3) := by decide +kernel
theorem dX11_slant_14 : decode cX11_slant 14 = .ok (.isub, 1) := by decide +kernel
theorem dX11_slant_15 : decode cX11_slant 15 = .ok (.ireturn, 1) := by decide +kernel
theorem dX11_tiltOf_0 : decode cX11_tiltOf 0 = .ok (.aload_n 0, 1) := by decide +kernel
theorem dX11_tiltOf_1 : decode cX11_tiltOf 1 = .ok (.iconst 0, 1) := by decide +kernel
theorem dX11_tiltOf_2 : decode cX11_tiltOf 2 = .ok (.iload_n 1, 1) := by decide +kernel
theorem dX11_tiltOf_3 : decode cX11_tiltOf 3 = .ok (.invokevirtual 302, 3) := by decide +kernel
theorem dX11_tiltOf_6 : decode cX11_tiltOf 6 = .ok (.invokestatic 305, 3) := by decide +kernel
theorem dX11_tiltOf_9 : decode cX11_tiltOf 9 = .ok (.aload_n 0, 1) := by decide +kernel
theorem dX11_tiltOf_10 : decode cX11_tiltOf 10 = .ok (.iconst 1, 1) := by decide +kernel
theorem dX11_tiltOf_11 : decode cX11_tiltOf 11 = .ok (.iload_n 1, 1) := by decide +kernel
theorem dX11_tiltOf_12 : decode cX11_tiltOf 12 = .ok (.invokevirtual 302, 3) := by decide +kernel
theorem dX11_tiltOf_15 : decode cX11_tiltOf 15 = .ok (.invokestatic 305, 3) := by decide +kernel
theorem dX11_tiltOf_18 : decode cX11_tiltOf 18 = .ok (.invokestatic 308, 3) := by decide +kernel
theorem dX11_tiltOf_21 : decode cX11_tiltOf 21 = .ok (.ireturn, 1) := by decide +kernel
theorem dX11_gap_0 : decode cX11_gap 0 = .ok (.aload_n 0, 1) := by decide +kernel
theorem dX11_gap_1 : decode cX11_gap 1 = .ok (.iconst 0, 1) := by decide +kernel
theorem dX11_gap_2 : decode cX11_gap 2 = .ok (.putfield 95, 3) := by decide +kernel
theorem dX11_gap_5 : decode cX11_gap 5 = .ok (.aload_n 0, 1) := by decide +kernel
theorem dX11_gap_6 : decode cX11_gap 6 = .ok (.iload_n 1, 1) := by decide +kernel
theorem dX11_gap_7 : decode cX11_gap 7 = .ok (.invokevirtual 290, 3) := by decide +kernel
theorem dX11_gap_10 : decode cX11_gap 10 = .ok (.ifCond .eq 11, 3) := by decide +kernel
theorem dX11_gap_13 : decode cX11_gap 13 = .ok (.aload_n 0, 1) := by decide +kernel
theorem dX11_gap_14 : decode cX11_gap 14 = .ok (.iload_n 1, 1) := by decide +kernel
theorem dX11_gap_15 : decode cX11_gap 15 = .ok (.invokevirtual 310, 3) := by decide +kernel
theorem dX11_gap_18 : decode cX11_gap 18 = .ok (.goto 6, 3) := by decide +kernel
theorem dX11_gap_21 : decode cX11_gap 21 = .ok (.ldc_w 313, 3) := by decide +kernel
theorem dX11_gap_24 : decode cX11_gap 24 = .ok (.ireturn, 1) := by decide +kernel
theorem dX11_tilt_0 : decode cX11_tilt 0 = .ok (.aload_n 0, 1) := by decide +kernel
theorem dX11_tilt_1 : decode cX11_tilt 1 = .ok (.iconst 0, 1) := by decide +kernel
theorem dX11_tilt_2 : decode cX11_tilt 2 = .ok (.putfield 95, 3) := by decide +kernel
theorem dX11_tilt_5 : decode cX11_tilt 5 = .ok (.aload_n 0, 1) := by decide +kernel
theorem dX11_tilt_6 : decode cX11_tilt 6 = .ok (.iload_n 1, 1) := by decide +kernel
theorem dX11_tilt_7 : decode cX11_tilt 7 = .ok (.invokevirtual 290, 3) := by decide +kernel
theorem dX11_tilt_10 : decode cX11_tilt 10 = .ok (.ifCond .eq 11, 3) := by decide +kernel
theorem dX11_tilt_13 : decode cX11_tilt 13 = .ok (.aload_n 0, 1) := by decide +kernel
theorem dX11_tilt_14 : decode cX11_tilt 14 = .ok (.iload_n 1, 1) := by decide +kernel
theorem dX11_tilt_15 : decode cX11_tilt 15 = .ok (.invokevirtual 314, 3) := by decide +kernel
theorem dX11_tilt_18 : decode cX11_tilt 18 = .ok (.goto 4, 3) := by decide +kernel
theorem dX11_tilt_21 : decode cX11_tilt 21 = .ok (.iconst (-1), 1) := by decide +kernel
theorem dX11_tilt_22 : decode cX11_tilt 22 = .ok (.ireturn, 1) := by decide +kernel
theorem dX11_stand_0 : decode cX11_stand 0 = .ok (.aload_n 0, 1) := by decide +kernel
theorem dX11_stand_1 : decode cX11_stand 1 = .ok (.getfield 59, 3) := by decide +kernel
theorem dX11_stand_4 : decode cX11_stand 4 = .ok (.aload_n 0, 1) := by decide +kernel
theorem dX11_stand_5 : decode cX11_stand 5 = .ok (.getfield 317, 3) := by decide +kernel
theorem dX11_stand_8 : decode cX11_stand 8 = .ok (.iload_n 1, 1) := by decide +kernel
theorem dX11_stand_9 : decode cX11_stand 9 = .ok (.iastore, 1) := by decide +kernel
theorem dX11_stand_10 : decode cX11_stand 10 = .ok (.aload_n 0, 1) := by decide +kernel
theorem dX11_stand_11 : decode cX11_stand 11 = .ok (.getfield 62, 3) := by decide +kernel
theorem dX11_stand_14 : decode cX11_stand 14 = .ok (.aload_n 0, 1) := by decide +kernel
theorem dX11_stand_15 : decode cX11_stand 15 = .ok (.getfield 317, 3) := by decide +kernel
theorem dX11_stand_18 : decode cX11_stand 18 = .ok (.iload_n 2, 1) := by decide +kernel
theorem dX11_stand_19 : decode cX11_stand 19 = .ok (.iastore, 1) := by decide +kernel
theorem dX11_stand_20 : decode cX11_stand 20 = .ok (.aload_n 0, 1) := by decide +kernel
theorem dX11_stand_21 : decode cX11_stand 21 = .ok (.getfield 65, 3) := by decide +kernel
theorem dX11_stand_24 : decode cX11_stand 24 = .ok (.aload_n 0, 1) := by decide +kernel
theorem dX11_stand_25 : decode cX11_stand 25 = .ok (.getfield 317, 3) := by decide +kernel
theorem dX11_stand_28 : decode cX11_stand 28 = .ok (.iload_n 3, 1) := by decide +kernel
theorem dX11_stand_29 : decode cX11_stand 29 = .ok (.iastore, 1) := by decide +kernel
theorem dX11_stand_30 : decode cX11_stand 30 = .ok (.aload_n 0, 1) := by decide +kernel
theorem dX11_stand_31 : decode cX11_stand 31 = .ok (.dup, 1) := by decide +kernel
theorem dX11_stand_32 : decode cX11_stand 32 = .ok (.getfield 317, 3) := by decide +kernel
theorem dX11_stand_35 : decode cX11_stand 35 = .ok (.iconst 1, 1) := by decide +kernel
theorem dX11_stand_36 : decode cX11_stand 36 = .ok (.iadd, 1) := by decide +kernel
theorem dX11_stand_37 : decode cX11_stand 37 = .ok (.putfield 317, 3) := by decide +kernel
theorem dX11_stand_40 : decode cX11_stand 40 = .ok (.return_, 1) := by decide +kernel
theorem dX11_layStands_0 : decode cX11_layStands 0 = .ok (.aload_n 0, 1) := by decide +kernel
theorem dX11_layStands_1 : decode cX11_layStands 1 = .ok (.iconst 0, 1) := by decide +kernel
theorem dX11_layStands_2 : decode cX11_layStands 2 = .ok (.putfield 317, 3) := by decide +kernel
theorem dX11_layStands_5 : decode cX11_layStands 5 = .ok (.iconst 0, 1) := by decide +kernel
theorem dX11_layStands_6 : decode cX11_layStands 6 = .ok (.istore_n 1, 1) := by decide +kernel
theorem dX11_layStands_7 : decode cX11_layStands 7 = .ok (.iload_n 1, 1) := by decide +kernel
theorem dX11_layStands_8 : decode cX11_layStands 8 = .ok (.aload_n 0, 1) := by decide +kernel
theorem dX11_layStands_9 : decode cX11_layStands 9 = .ok (.getfield 272, 3) := by decide +kernel
theorem dX11_layStands_12 : decode cX11_layStands 12 = .ok (.if_icmp .ge 113, 3) := by decide +kernel
theorem dX11_layStands_15 : decode cX11_layStands 15 = .ok (.aload_n 0, 1) := by decide +kernel
theorem dX11_layStands_16 : decode cX11_layStands 16 = .ok (.iload_n 1, 1) := by decide +kernel
theorem dX11_layStands_17 : decode cX11_layStands 17 = .ok (.invokevirtual 310, 3) := by decide +kernel
theorem dX11_layStands_20 : decode cX11_layStands 20 = .ok (.istore_n 2, 1) := by decide +kernel
theorem dX11_layStands_21 : decode cX11_layStands 21 = .ok (.aload_n 0, 1) := by decide +kernel
theorem dX11_layStands_22 : decode cX11_layStands 22 = .ok (.iload_n 1, 1) := by decide +kernel
theorem dX11_layStands_23 : decode cX11_layStands 23 = .ok (.iconst 1, 1) := by decide +kernel
theorem dX11_layStands_24 : decode cX11_layStands 24 = .ok (.iadd, 1) := by decide +kernel
theorem dX11_layStands_25 : decode cX11_layStands 25 = .ok (.aload_n 0, 1) := by decide +kernel
theorem dX11_layStands_26 : decode cX11_layStands 26 = .ok (.getfield 272, 3) := by decide +kernel
theorem dX11_layStands_29 : decode cX11_layStands 29 = .ok (.irem, 1) := by decide +kernel
theorem dX11_layStands_30 : decode cX11_layStands 30 = .ok (.invokevirtual 310, 3) := by decide +kernel
theorem dX11_layStands_33 : decode cX11_layStands 33 = .ok (.istore_n 3, 1) := by decide +kernel
theorem dX11_layStands_34 : decode cX11_layStands 34 = .ok (.iload_n 2, 1) := by decide +kernel
theorem dX11_layStands_35 : decode cX11_layStands 35 = .ok (.ifCond .ne 10, 3) := by decide +kernel
theorem dX11_layStands_38 : decode cX11_layStands 38 = .ok (.aload_n 0, 1) := by decide +kernel
theorem dX11_layStands_39 : decode cX11_layStands 39 = .ok (.iload_n 1, 1) := by decide +kernel
theorem dX11_layStands_40 : decode cX11_layStands 40 = .ok (.iconst 0, 1) := by decide +kernel
theorem dX11_layStands_41 : decode cX11_layStands 41 = .ok (.iconst 1, 1) := by decide +kernel
theorem dX11_layStands_42 : decode cX11_layStands 42 = .ok (.invokevirtual 320, 3) := by decide +kernel
theorem dX11_layStands_45 : decode cX11_layStands 45 = .ok (.iload_n 2, 1) := by decide +kernel
theorem dX11_layStands_46 : decode cX11_layStands 46 = .ok (.ifCond .le 7, 3) := by decide +kernel
theorem dX11_layStands_49 : decode cX11_layStands 49 = .ok (.iconst 1, 1) := by decide +kernel
theorem dX11_layStands_50 : decode cX11_layStands 50 = .ok (.goto 4, 3) := by decide +kernel
theorem dX11_layStands_53 : decode cX11_layStands 53 = .ok (.iconst 0, 1) := by decide +kernel
theorem dX11_layStands_54 : decode cX11_layStands 54 = .ok (.iload_n 3, 1) := by decide +kernel
theorem dX11_layStands_55 : decode cX11_layStands 55 = .ok (.ifCond .le 7, 3) := by decide +kernel
theorem dX11_layStands_58 : decode cX11_layStands 58 = .ok (.iconst 1, 1) := by decide +kernel
theorem dX11_layStands_59 : decode cX11_layStands 59 = .ok (.goto 4, 3) := by decide +kernel
theorem dX11_layStands_62 : decode cX11_layStands 62 = .ok (.iconst 0, 1) := by decide +kernel
theorem dX11_layStands_63 : decode cX11_layStands 63 = .ok (.if_icmp .eq 56, 3) := by decide +kernel
theorem dX11_layStands_66 : decode cX11_layStands 66 = .ok (.iload_n 2, 1) := by decide +kernel
theorem dX11_layStands_67 : decode cX11_layStands 67 = .ok (.ifCond .eq 52, 3) := by decide +kernel
theorem dX11_layStands_70 : decode cX11_layStands 70 = .ok (.iload_n 3, 1) := by decide +kernel
theorem dX11_layStands_71 : decode cX11_layStands 71 = .ok (.ifCond .ne 6, 3) := by decide +kernel
theorem dX11_layStands_74 : decode cX11_layStands 74 = .ok (.goto 45, 3) := by decide +kernel
theorem dX11_layStands_77 : decode cX11_layStands 77 = .ok (.iload_n 2, 1) := by decide +kernel
theorem dX11_layStands_78 : decode cX11_layStands 78 = .ok (.invokestatic 305, 3) := by decide +kernel
theorem dX11_layStands_81 : decode cX11_layStands 81 = .ok (.iload_n 3, 1) := by decide +kernel
theorem dX11_layStands_82 : decode cX11_layStands 82 = .ok (.invokestatic 305, 3) := by decide +kernel
theorem dX11_layStands_85 : decode cX11_layStands 85 = .ok (.iadd, 1) := by decide +kernel
theorem dX11_layStands_86 : decode cX11_layStands 86 = .ok (.istore 4, 2) := by decide +kernel
theorem dX11_layStands_88 : decode cX11_layStands 88 = .ok (.iload_n 2, 1) := by decide +kernel
theorem dX11_layStands_89 : decode cX11_layStands 89 = .ok (.invokestatic 305, 3) := by decide +kernel
theorem dX11_layStands_92 : decode cX11_layStands 92 = .ok (.i2l, 1) := by decide +kernel
theorem dX11_layStands_93 : decode cX11_layStands 93 = .ok (.iload 4, 2) := by decide +kernel
theorem dX11_layStands_95 : decode cX11_layStands 95 = .ok (.i2l, 1) := by decide +kernel
theorem dX11_layStands_96 : decode cX11_layStands 96 = .ok (.invokestatic 98, 3) := by decide +kernel
theorem dX11_layStands_99 : decode cX11_layStands 99 = .ok (.l2i, 1) := by decide +kernel
theorem dX11_layStands_100 : decode cX11_layStands 100 = .ok (.istore 5, 2) := by decide +kernel
theorem dX11_layStands_102 : decode cX11_layStands 102 = .ok (.aload_n 0, 1) := by decide +kernel
theorem dX11_layStands_103 : decode cX11_layStands 103 = .ok (.iload_n 1, 1) := by decide +kernel
theorem dX11_layStands_104 : decode cX11_layStands 104 = .ok (.iload_n 2, 1) := by decide +kernel
theorem dX11_layStands_105 : decode cX11_layStands 105 = .ok (.invokestatic 305, 3) := by decide +kernel
theorem dX11_layStands_108 : decode cX11_layStands 108 = .ok (.iload 5, 2) := by decide +kernel
theorem dX11_layStands_110 : decode cX11_layStands 110 = .ok (.idiv, 1) := by decide +kernel
theorem dX11_layStands_111 : decode cX11_layStands 111 = .ok (.iload 4, 2) := by decide +kernel
theorem dX11_layStands_113 : decode cX11_layStands 113 = .ok (.iload 5, 2) := by decide +kernel
theorem dX11_layStands_115 : decode cX11_layStands 115 = .ok (.idiv, 1) := by decide +kernel
theorem dX11_layStands_116 : decode cX11_layStands 116 = .ok (.invokevirtual 320, 3) := by decide +kernel
theorem dX11_layStands_119 : decode cX11_layStands 119 = .ok (.iinc 1 1, 3) := by decide +kernel
theorem dX11_layStands_122 : decode cX11_layStands 122 = .ok (.goto (-115), 3) := by decide +kernel
theorem dX11_layStands_125 : decode cX11_layStands 125 = .ok (.return_, 1) := by decide +kernel
theorem dX11_standOf_0 : decode cX11_standOf 0 = .ok (.iload_n 2, 1) := by decide +kernel
theorem dX11_standOf_1 : decode cX11_standOf 1 = .ok (.ifCond .ne 12, 3) := by decide +kernel
theorem dX11_standOf_4 : decode cX11_standOf 4 = .ok (.aload_n 0, 1) := by decide +kernel
theorem dX11_standOf_5 : decode cX11_standOf 5 = .ok (.getfield 59, 3) := by decide +kernel
theorem dX11_standOf_8 : decode cX11_standOf 8 = .ok (.iload_n 1, 1) := by decide +kernel
theorem dX11_standOf_9 : decode cX11_standOf 9 = .ok (.iaload, 1) := by decide +kernel
theorem dX11_standOf_10 : decode cX11_standOf 10 = .ok (.goto 23, 3) := by decide +kernel
theorem dX11_standOf_13 : decode cX11_standOf 13 = .ok (.iload_n 2, 1) := by decide +kernel
theorem dX11_standOf_14 : decode cX11_standOf 14 = .ok (.iconst 1, 1) := by decide +kernel
theorem dX11_standOf_15 : decode cX11_standOf 15 = .ok (.if_icmp .ne 12, 3) := by decide +kernel
theorem dX11_standOf_18 : decode cX11_standOf 18 = .ok (.aload_n 0, 1) := by decide +kernel
theorem dX11_standOf_19 : decode cX11_standOf 19 = .ok (.getfield 62, 3) := by decide +kernel
theorem dX11_standOf_22 : decode cX11_standOf 22 = .ok (.iload_n 1, 1) := by decide +kernel
theorem dX11_standOf_23 : decode cX11_standOf 23 = .ok (.iaload, 1) := by decide +kernel
theorem dX11_standOf_24 : decode cX11_standOf 24 = .ok (.goto 9, 3) := by decide +kernel
theorem dX11_standOf_27 : decode cX11_standOf 27 = .ok (.aload_n 0, 1) := by decide +kernel
theorem dX11_standOf_28 : decode cX11_standOf 28 = .ok (.getfield 65, 3) := by decide +kernel
theorem dX11_standOf_31 : decode cX11_standOf 31 = .ok (.iload_n 1, 1) := by decide +kernel
theorem dX11_standOf_32 : decode cX11_standOf 32 = .ok (.iaload, 1) := by decide +kernel
theorem dX11_standOf_33 : decode cX11_standOf 33 = .ok (.ireturn, 1) := by decide +kernel
theorem dX11_stands_0 : decode cX11_stands 0 = .ok (.aload_n 0, 1) := by decide +kernel
theorem dX11_stands_1 : decode cX11_stands 1 = .ok (.iconst 0, 1) := by decide +kernel
theorem dX11_stands_2 : decode cX11_stands 2 = .ok (.putfield 95, 3) := by decide +kernel
theorem dX11_stands_5 : decode cX11_stands 5 = .ok (.aload_n 0, 1) := by decide +kernel
theorem dX11_stands_6 : decode cX11_stands 6 = .ok (.getfield 272, 3) := by decide +kernel
theorem dX11_stands_9 : decode cX11_stands 9 = .ok (.ifCond .eq 29, 3) := by decide +kernel
theorem dX11_stands_12 : decode cX11_stands 12 = .ok (.iload_n 2, 1) := by decide +kernel
theorem dX11_stands_13 : decode cX11_stands 13 = .ok (.i2l, 1) := by decide +kernel
theorem dX11_stands_14 : decode cX11_stands 14 = .ok (.lconst 0, 1) := by decide +kernel
theorem dX11_stands_15 : decode cX11_stands 15 = .ok (.ldc2_w 324, 3) := by decide +kernel
theorem dX11_stands_18 : decode cX11_stands 18 = .ok (.invokestatic 219, 3) := by decide +kernel
theorem dX11_stands_21 : decode cX11_stands 21 = .ok (.ifCond .eq 17, 3) := by decide +kernel
theorem dX11_stands_24 : decode cX11_stands 24 = .ok (.iload_n 1, 1) := by decide +kernel
theorem dX11_stands_25 : decode cX11_stands 25 = .ok (.iconst (-1), 1) := by decide +kernel
theorem dX11_stands_26 : decode cX11_stands 26 = .ok (.if_icmp .lt 12, 3) := by decide +kernel
theorem dX11_stands_29 : decode cX11_stands 29 = .ok (.iload_n 1, 1) := by decide +kernel
theorem dX11_stands_30 : decode cX11_stands 30 = .ok (.iconst (-1), 1) := by decide +kernel
theorem dX11_stands_31 : decode cX11_stands 31 = .ok (.if_icmp .ne 9, 3) := by decide +kernel
theorem dX11_stands_34 : decode cX11_stands 34 = .ok (.iload_n 2, 1) := by decide +kernel
theorem dX11_stands_35 : decode cX11_stands 35 = .ok (.ifCond .eq 5, 3) := by decide +kernel
theorem dX11_stands_38 : decode cX11_stands 38 = .ok (.iconst (-1), 1) := by decide +kernel
theorem dX11_stands_39 : decode cX11_stands 39 = .ok (.ireturn, 1) := by decide +kernel
theorem dX11_stands_40 : decode cX11_stands 40 = .ok (.aload_n 0, 1) := by decide +kernel
theorem dX11_stands_41 : decode cX11_stands 41 = .ok (.invokevirtual 326, 3) := by decide +kernel
theorem dX11_stands_44 : decode cX11_stands 44 = .ok (.iload_n 1, 1) := by decide +kernel
theorem dX11_stands_45 : decode cX11_stands 45 = .ok (.iconst (-1), 1) := by decide +kernel
theorem dX11_stands_46 : decode cX11_stands 46 = .ok (.if_icmp .ne 10, 3) := by decide +kernel
theorem dX11_stands_49 : decode cX11_stands 49 = .ok (.aload_n 0, 1) := by decide +kernel
theorem dX11_stands_50 : decode cX11_stands 50 = .ok (.getfield 317, 3) := by decide +kernel
theorem dX11_stands_53 : decode cX11_stands 53 = .ok (.goto 21, 3) := by decide +kernel
theorem dX11_stands_56 : decode cX11_stands 56 = .ok (.iload_n 1, 1) := by decide +kernel
theorem dX11_stands_57 : decode cX11_stands 57 = .ok (.aload_n 0, 1) := by decide +kernel
theorem dX11_stands_58 : decode cX11_stands 58 = .ok (.getfield 317, 3) := by decide +kernel
theorem dX11_stands_61 : decode cX11_stands 61 = .ok (.if_icmp .ge 12, 3) := by decide +kernel
theorem dX11_stands_64 : decode cX11_stands 64 = .ok (.aload_n 0, 1) := by decide +kernel
theorem dX11_stands_65 : decode cX11_stands 65 = .ok (.iload_n 1, 1) := by decide +kernel
theorem dX11_stands_66 : decode cX11_stands 66 = .ok (.iload_n 2, 1) := by decide +kernel
theorem dX11_stands_67 : decode cX11_stands 67 = .ok (.invokevirtual 329, 3) := by decide +kernel
theorem dX11_stands_70 : decode cX11_stands 70 = .ok (.goto 4, 3) := by decide +kernel
theorem dX11_stands_73 : decode cX11_stands 73 = .ok (.iconst (-1), 1) := by decide +kernel
theorem dX11_stands_74 : decode cX11_stands 74 = .ok (.ireturn, 1) := by decide +kernel
theorem dX11_layTilt_0 : decode cX11_layTilt 0 = .ok (.aload_n 0, 1) := by decide +kernel
theorem dX11_layTilt_1 : decode cX11_layTilt 1 = .ok (.getfield 59, 3) := by decide +kernel
theorem dX11_layTilt_4 : decode cX11_layTilt 4 = .ok (.iload_n 1, 1) := by decide +kernel
theorem dX11_layTilt_5 : decode cX11_layTilt 5 = .ok (.iaload, 1) := by decide +kernel
theorem dX11_layTilt_6 : decode cX11_layTilt 6 = .ok (.istore_n 2, 1) := by decide +kernel
theorem dX11_layTilt_7 : decode cX11_layTilt 7 = .ok (.iload_n 2, 1) := by decide +kernel
theorem dX11_layTilt_8 : decode cX11_layTilt 8 = .ok (.iconst 1, 1) := by decide +kernel
theorem dX11_layTilt_9 : decode cX11_layTilt 9 = .ok (.iadd, 1) := by decide +kernel
theorem dX11_layTilt_10 : decode cX11_layTilt 10 = .ok (.aload_n 0, 1) := by decide +kernel
theorem dX11_layTilt_11 : decode cX11_layTilt 11 = .ok (.getfield 272, 3) := by decide +kernel
theorem dX11_layTilt_14 : decode cX11_layTilt 14 = .ok (.irem, 1) := by decide +kernel
theorem dX11_layTilt_15 : decode cX11_layTilt 15 = .ok (.istore_n 3, 1) := by decide +kernel
theorem dX11_layTilt_16 : decode cX11_layTilt 16 = .ok (.aload_n 0, 1) := by decide +kernel
theorem dX11_layTilt_17 : decode cX11_layTilt 17 = .ok (.lconst 0, 1) := by decide +kernel
theorem dX11_layTilt_18 : decode cX11_layTilt 18 = .ok (.putfield 332, 3) := by decide +kernel
theorem dX11_layTilt_21 : decode cX11_layTilt 21 = .ok (.iconst 0, 1) := by decide +kernel
theorem dX11_layTilt_22 : decode cX11_layTilt 22 = .ok (.istore 4, 2) := by decide +kernel
theorem dX11_layTilt_24 : decode cX11_layTilt 24 = .ok (.iload 4, 2) := by decide +kernel
theorem dX11_layTilt_26 : decode cX11_layTilt 26 = .ok (.iconst 2, 1) := by decide +kernel
theorem dX11_layTilt_27 : decode cX11_layTilt 27 = .ok (.if_icmp .ge 67, 3) := by decide +kernel
theorem dX11_layTilt_30 : decode cX11_layTilt 30 = .ok (.aload_n 0, 1) := by decide +kernel
theorem dX11_layTilt_31 : decode cX11_layTilt 31 = .ok (.iload 4, 2) := by decide +kernel
theorem dX11_layTilt_33 : decode cX11_layTilt 33 = .ok (.iload_n 2, 1) := by decide +kernel
theorem dX11_layTilt_34 : decode cX11_layTilt 34 = .ok (.invokevirtual 302, 3) := by decide +kernel
theorem dX11_layTilt_37 : decode cX11_layTilt 37 = .ok (.i2l, 1) := by decide +kernel
theorem dX11_layTilt_38 : decode cX11_layTilt 38 = .ok (.aload_n 0, 1) := by decide +kernel
theorem dX11_layTilt_39 : decode cX11_layTilt 39 = .ok (.getfield 65, 3) := by decide +kernel
theorem dX11_layTilt_42 : decode cX11_layTilt 42 = .ok (.iload_n 1, 1) := by decide +kernel
theorem dX11_layTilt_43 : decode cX11_layTilt 43 = .ok (.iaload, 1) := by decide +kernel
theorem dX11_layTilt_44 : decode cX11_layTilt 44 = .ok (.aload_n 0, 1) := by decide +kernel
theorem dX11_layTilt_45 : decode cX11_layTilt 45 = .ok (.getfield 62, 3) := by decide +kernel
theorem dX11_layTilt_48 : decode cX11_layTilt 48 = .ok (.iload_n 1, 1) := by decide +kernel
theorem dX11_layTilt_49 : decode cX11_layTilt 49 = .ok (.iaload, 1) := by decide +kernel
theorem dX11_layTilt_50 : decode cX11_layTilt 50 = .ok (.isub, 1) := by decide +kernel
theorem dX11_layTilt_51 : decode cX11_layTilt 51 = .ok (.i2l, 1) := by decide +kernel
theorem dX11_layTilt_52 : decode cX11_layTilt 52 = .ok (.lmul, 1) := by decide +kernel
theorem dX11_layTilt_53 : decode cX11_layTilt 53 = .ok (.aload_n 0, 1) := by decide +kernel
theorem dX11_layTilt_54 : decode cX11_layTilt 54 = .ok (.iload 4, 2) := by decide +kernel
theorem dX11_layTilt_56 : decode cX11_layTilt 56 = .ok (.iload_n 3, 1) := by decide +kernel
theorem dX11_layTilt_57 : decode cX11_layTilt 57 = .ok (.invokevirtual 302, 3) := by decide +kernel
theorem dX11_layTilt_60 : decode cX11_layTilt 60 = .ok (.i2l, 1) := by decide +kernel
theorem dX11_layTilt_61 : decode cX11_layTilt 61 = .ok (.aload_n 0, 1) := by decide +kernel
theorem dX11_layTilt_62 : decode cX11_layTilt 62 = .ok (.getfield 62, 3) := by decide +kernel
theorem dX11_layTilt_65 : decode cX11_layTilt 65 = .ok (.iload_n 1, 1) := by decide +kernel
theorem dX11_layTilt_66 : decode cX11_layTilt 66 = .ok (.iaload, 1) := by decide +kernel
theorem dX11_layTilt_67 : decode cX11_layTilt 67 = .ok (.i2l, 1) := by decide +kernel
theorem dX11_layTilt_68 : decode cX11_layTilt 68 = .ok (.lmul, 1) := by decide +kernel
theorem dX11_layTilt_69 : decode cX11_layTilt 69 = .ok (.ladd, 1) := by decide +kernel
theorem dX11_layTilt_70 : decode cX11_layTilt 70 = .ok (.lstore 5, 2) := by decide +kernel
theorem dX11_layTilt_72 : decode cX11_layTilt 72 = .ok (.aload_n 0, 1) := by decide +kernel
theorem dX11_layTilt_73 : decode cX11_layTilt 73 = .ok (.aload_n 0, 1) := by decide +kernel
theorem dX11_layTilt_74 : decode cX11_layTilt 74 = .ok (.getfield 332, 3) := by decide +kernel
theorem dX11_layTilt_77 : decode cX11_layTilt 77 = .ok (.lload 5, 2) := by decide +kernel
theorem dX11_layTilt_79 : decode cX11_layTilt 79 = .ok (.invokestatic 336, 3) := by decide +kernel
theorem dX11_layTilt_82 : decode cX11_layTilt 82 = .ok (.invokestatic 153, 3) := by decide +kernel
theorem dX11_layTilt_85 : decode cX11_layTilt 85 = .ok (.putfield 332, 3) := by decide +kernel
theorem dX11_layTilt_88 : decode cX11_layTilt 88 = .ok (.iinc 4 1, 3) := by decide +kernel
theorem dX11_layTilt_91 : decode cX11_layTilt 91 = .ok (.goto (-67), 3) := by decide +kernel
theorem dX11_layTilt_94 : decode cX11_layTilt 94 = .ok (.return_, 1) := by decide +kernel
theorem dX11_level_0 : decode cX11_level 0 = .ok (.aload_n 0, 1) := by decide +kernel
theorem dX11_level_1 : decode cX11_level 1 = .ok (.iconst 0, 1) := by decide +kernel
theorem dX11_level_2 : decode cX11_level 2 = .ok (.putfield 95, 3) := by decide +kernel
theorem dX11_level_5 : decode cX11_level 5 = .ok (.aload_n 0, 1) := by decide +kernel
theorem dX11_level_6 : decode cX11_level 6 = .ok (.getfield 272, 3) := by decide +kernel
theorem dX11_level_9 : decode cX11_level 9 = .ok (.ifCond .eq 15, 3) := by decide +kernel
theorem dX11_level_12 : decode cX11_level 12 = .ok (.iload_n 1, 1) := by decide +kernel
theorem dX11_level_13 : decode cX11_level 13 = .ok (.i2l, 1) := by decide +kernel
theorem dX11_level_14 : decode cX11_level 14 = .ok (.lconst 0, 1) := by decide +kernel
theorem dX11_level_15 : decode cX11_level 15 = .ok (.ldc2_w 339, 3) := by decide +kernel
theorem dX11_level_18 : decode cX11_level 18 = .ok (.invokestatic 219, 3) := by decide +kernel
theorem dX11_level_21 : decode cX11_level 21 = .ok (.ifCond .ne 7, 3) := by decide +kernel
theorem dX11_level_24 : decode cX11_level 24 = .ok (.ldc2_w 341, 3) := by decide +kernel
theorem dX11_level_27 : decode cX11_level 27 = .ok (.lreturn, 1) := by decide +kernel
theorem dX11_level_28 : decode cX11_level 28 = .ok (.aload_n 0, 1) := by decide +kernel
theorem dX11_level_29 : decode cX11_level 29 = .ok (.invokevirtual 326, 3) := by decide +kernel
theorem dX11_level_32 : decode cX11_level 32 = .ok (.iconst (-1), 1) := by decide +kernel
theorem dX11_level_33 : decode cX11_level 33 = .ok (.istore_n 2, 1) := by decide +kernel
theorem dX11_level_34 : decode cX11_level 34 = .ok (.lconst 0, 1) := by decide +kernel
theorem dX11_level_35 : decode cX11_level 35 = .ok (.lstore_n 3, 1) := by decide +kernel
theorem dX11_level_36 : decode cX11_level 36 = .ok (.lconst 1, 1) := by decide +kernel
theorem dX11_level_37 : decode cX11_level 37 = .ok (.lstore 5, 2) := by decide +kernel
theorem dX11_level_39 : decode cX11_level 39 = .ok (.iconst 0, 1) := by decide +kernel
theorem dX11_level_40 : decode cX11_level 40 = .ok (.istore 7, 2) := by decide +kernel
theorem dX11_level_42 : decode cX11_level 42 = .ok (.iload 7, 2) := by decide +kernel
theorem dX11_level_44 : decode cX11_level 44 = .ok (.aload_n 0, 1) := by decide +kernel
theorem dX11_level_45 : decode cX11_level 45 = .ok (.getfield 317, 3) := by decide +kernel
theorem dX11_level_48 : decode cX11_level 48 = .ok (.if_icmp .ge 62, 3) := by decide +kernel
theorem dX11_level_51 : decode cX11_level 51 = .ok (.aload_n 0, 1) := by decide +kernel
theorem dX11_level_52 : decode cX11_level 52 = .ok (.iload 7, 2) := by decide +kernel
theorem dX11_level_54 : decode cX11_level 54 = .ok (.invokevirtual 343, 3) := by decide +kernel
theorem dX11_level_57 : decode cX11_level 57 = .ok (.iload_n 2, 1) := by decide +kernel
theorem dX11_level_58 : decode cX11_level 58 = .ok (.iconst (-1), 1) := by decide +kernel
theorem dX11_level_59 : decode cX11_level 59 = .ok (.if_icmp .eq 27, 3) := by decide +kernel
theorem dX11_level_62 : decode cX11_level 62 = .ok (.aload_n 0, 1) := by decide +kernel
theorem dX11_level_63 : decode cX11_level 63 = .ok (.getfield 332, 3) := by decide +kernel
theorem dX11_level_66 : decode cX11_level 66 = .ok (.lload 5, 2) := by decide +kernel
theorem dX11_level_68 : decode cX11_level 68 = .ok (.lmul, 1) := by decide +kernel
theorem dX11_level_69 : decode cX11_level 69 = .ok (.lload_n 3, 1) := by decide +kernel
theorem dX11_level_70 : decode cX11_level 70 = .ok (.aload_n 0, 1) := by decide +kernel
theorem dX11_level_71 : decode cX11_level 71 = .ok (.getfield 65, 3) := by decide +kernel
theorem dX11_level_74 : decode cX11_level 74 = .ok (.iload 7, 2) := by decide +kernel
theorem dX11_level_76 : decode cX11_level 76 = .ok (.iaload, 1) := by decide +kernel
theorem dX11_level_77 : decode cX11_level 77 = .ok (.i2l, 1) := by decide +kernel
theorem dX11_level_78 : decode cX11_level 78 = .ok (.lmul, 1) := by decide +kernel
theorem dX11_level_79 : decode cX11_level 79 = .ok (.lcmp, 1) := by decide +kernel
theorem dX11_level_80 : decode cX11_level 80 = .ok (.ifCond .lt 6, 3) := by decide +kernel
theorem dX11_level_83 : decode cX11_level 83 = .ok (.goto 21, 3) := by decide +kernel
theorem dX11_level_86 : decode cX11_level 86 = .ok (.iload 7, 2) := by decide +kernel
theorem dX11_level_88 : decode cX11_level 88 = .ok (.istore_n 2, 1) := by decide +kernel
theorem dX11_level_89 : decode cX11_level 89 = .ok (.aload_n 0, 1) := by decide +kernel
theorem dX11_level_90 : decode cX11_level 90 = .ok (.getfield 332, 3) := by decide +kernel
theorem dX11_level_93 : decode cX11_level 93 = .ok (.lstore_n 3, 1) := by decide +kernel
theorem dX11_level_94 : decode cX11_level 94 = .ok (.aload_n 0, 1) := by decide +kernel
theorem dX11_level_95 : decode cX11_level 95 = .ok (.getfield 65, 3) := by decide +kernel
theorem dX11_level_98 : decode cX11_level 98 = .ok (.iload 7, 2) := by decide +kernel
theorem dX11_level_100 : decode cX11_level 100 = .ok (.iaload, 1) := by decide +kernel
theorem dX11_level_101 : decode cX11_level 101 = .ok (.i2l, 1) := by decide +kernel
theorem dX11_level_102 : decode cX11_level 102 = .ok (.lstore 5, 2) := by decide +kernel
theorem dX11_level_104 : decode cX11_level 104 = .ok (.iinc 7 1, 3) := by decide +kernel
theorem dX11_level_107 : decode cX11_level 107 = .ok (.goto (-65), 3) := by decide +kernel
theorem dX11_level_110 : decode cX11_level 110 = .ok (.iload_n 2, 1) := by decide +kernel
theorem dX11_level_111 : decode cX11_level 111 = .ok (.iconst (-1), 1) := by decide +kernel
theorem dX11_level_112 : decode cX11_level 112 = .ok (.if_icmp .ne 7, 3) := by decide +kernel
theorem dX11_level_115 : decode cX11_level 115 = .ok (.ldc2_w 341, 3) := by decide +kernel
theorem dX11_level_118 : decode cX11_level 118 = .ok (.lreturn, 1) := by decide +kernel
theorem dX11_level_119 : decode cX11_level 119 = .ok (.iload_n 1, 1) := by decide +kernel
theorem dX11_level_120 : decode cX11_level 120 = .ok (.iconst 3, 1) := by decide +kernel
theorem dX11_level_121 : decode cX11_level 121 = .ok (.if_icmp .ge 11, 3) := by decide +kernel
theorem dX11_level_124 : decode cX11_level 124 = .ok (.aload_n 0, 1) := by decide +kernel
theorem dX11_level_125 : decode cX11_level 125 = .ok (.iload_n 2, 1) := by decide +kernel
theorem dX11_level_126 : decode cX11_level 126 = .ok (.iload_n 1, 1) := by decide +kernel
theorem dX11_level_127 : decode cX11_level 127 = .ok (.invokevirtual 329, 3) := by decide +kernel
theorem dX11_level_130 : decode cX11_level 130 = .ok (.i2l, 1) := by decide +kernel
theorem dX11_level_131 : decode cX11_level 131 = .ok (.lreturn, 1) := by decide +kernel
theorem dX11_level_132 : decode cX11_level 132 = .ok (.lload_n 3, 1) := by decide +kernel
theorem dX11_level_133 : decode cX11_level 133 = .ok (.lload 5, 2) := by decide +kernel
theorem dX11_level_135 : decode cX11_level 135 = .ok (.invokestatic 98, 3) := by decide +kernel
theorem dX11_level_138 : decode cX11_level 138 = .ok (.lstore 7, 2) := by decide +kernel
theorem dX11_level_140 : decode cX11_level 140 = .ok (.iload_n 1, 1) := by decide +kernel
theorem dX11_level_141 : decode cX11_level 141 = .ok (.iconst 3, 1) := by decide +kernel
theorem dX11_level_142 : decode cX11_level 142 = .ok (.if_icmp .ne 10, 3) := by decide +kernel
theorem dX11_level_145 : decode cX11_level 145 = .ok (.lload_n 3, 1) := by decide +kernel
theorem dX11_level_146 : decode cX11_level 146 = .ok (.lload 7, 2) := by decide +kernel
theorem dX11_level_148 : decode cX11_level 148 = .ok (.ldiv, 1) := by decide +kernel
theorem dX11_level_149 : decode cX11_level 149 = .ok (.goto 8, 3) := by decide +kernel
theorem dX11_level_152 : decode cX11_level 152 = .ok (.lload 5, 2) := by decide +kernel
theorem dX11_level_154 : decode cX11_level 154 = .ok (.lload 7, 2) := by decide +kernel
theorem dX11_level_156 : decode cX11_level 156 = .ok (.ldiv, 1) := by decide +kernel
theorem dX11_level_157 : decode cX11_level 157 = .ok (.lreturn, 1) := by decide +kernel
theorem dX11_within__0 : decode cX11_within_ 0 = .ok (.aload_n 0, 1) := by decide +kernel
theorem dX11_within__1 : decode cX11_within_ 1 = .ok (.iconst 0, 1) := by decide +kernel
theorem dX11_within__2 : decode cX11_within_ 2 = .ok (.putfield 95, 3) := by decide +kernel
theorem dX11_within__5 : decode cX11_within_ 5 = .ok (.aload_n 0, 1) := by decide +kernel
theorem dX11_within__6 : decode cX11_within_ 6 = .ok (.iload_n 1, 1) := by decide +kernel
theorem dX11_within__7 : decode cX11_within_ 7 = .ok (.invokevirtual 290, 3) := by decide +kernel
theorem dX11_within__10 : decode cX11_within_ 10 = .ok (.ifCond .eq 29, 3) := by decide +kernel
theorem dX11_within__13 : decode cX11_within_ 13 = .ok (.iload_n 2, 1) := by decide +kernel
theorem dX11_within__14 : decode cX11_within_ 14 = .ok (.i2l, 1) := by decide +kernel
theorem dX11_within__15 : decode cX11_within_ 15 = .ok (.lconst 0, 1) := by decide +kernel
theorem dX11_within__16 : decode cX11_within_ 16 = .ok (.aload_n 0, 1) := by decide +kernel
theorem dX11_within__17 : decode cX11_within_ 17 = .ok (.getfield 272, 3) := by decide +kernel
theorem dX11_within__20 : decode cX11_within_ 20 = .ok (.i2l, 1) := by decide +kernel
theorem dX11_within__21 : decode cX11_within_ 21 = .ok (.invokestatic 219, 3) := by decide +kernel
theorem dX11_within__24 : decode cX11_within_ 24 = .ok (.ifCond .eq 15, 3) := by decide +kernel
theorem dX11_within__27 : decode cX11_within_ 27 = .ok (.iload_n 3, 1) := by decide +kernel
theorem dX11_within__28 : decode cX11_within_ 28 = .ok (.i2l, 1) := by decide +kernel
theorem dX11_within__29 : decode cX11_within_ 29 = .ok (.lconst 0, 1) := by decide +kernel
theorem dX11_within__30 : decode cX11_within_ 30 = .ok (.ldc2_w 324, 3) := by decide +kernel
theorem dX11_within__33 : decode cX11_within_ 33 = .ok (.invokestatic 219, 3) := by decide +kernel
theorem dX11_within__36 : decode cX11_within_ 36 = .ok (.ifCond .ne 5, 3) := by decide +kernel
theorem dX11_within__39 : decode cX11_within_ 39 = .ok (.iconst (-1), 1) := by decide +kernel
theorem dX11_within__40 : decode cX11_within_ 40 = .ok (.ireturn, 1) := by decide +kernel
theorem dX11_within__41 : decode cX11_within_ 41 = .ok (.aload_n 0, 1) := by decide +kernel
theorem dX11_within__42 : decode cX11_within_ 42 = .ok (.invokevirtual 326, 3) := by decide +kernel
theorem dX11_within__45 : decode cX11_within_ 45 = .ok (.iconst 0, 1) := by decide +kernel
theorem dX11_within__46 : decode cX11_within_ 46 = .ok (.istore 4, 2) := by decide +kernel
theorem dX11_within__48 : decode cX11_within_ 48 = .ok (.iload 4, 2) := by decide +kernel
theorem dX11_within__50 : decode cX11_within_ 50 = .ok (.iload_n 2, 1) := by decide +kernel
theorem dX11_within__51 : decode cX11_within_ 51 = .ok (.if_icmp .gt 74, 3) := by decide +kernel
theorem dX11_within__54 : decode cX11_within_ 54 = .ok (.iload_n 1, 1) := by decide +kernel
theorem dX11_within__55 : decode cX11_within_ 55 = .ok (.iload 4, 2) := by decide +kernel
theorem dX11_within__57 : decode cX11_within_ 57 = .ok (.iadd, 1) := by decide +kernel
theorem dX11_within__58 : decode cX11_within_ 58 = .ok (.aload_n 0, 1) := by decide +kernel
theorem dX11_within__59 : decode cX11_within_ 59 = .ok (.getfield 272, 3) := by decide +kernel
theorem dX11_within__62 : decode cX11_within_ 62 = .ok (.irem, 1) := by decide +kernel
theorem dX11_within__63 : decode cX11_within_ 63 = .ok (.istore 5, 2) := by decide +kernel
theorem dX11_within__65 : decode cX11_within_ 65 = .ok (.iconst 0, 1) := by decide +kernel
theorem dX11_within__66 : decode cX11_within_ 66 = .ok (.istore 6, 2) := by decide +kernel
theorem dX11_within__68 : decode cX11_within_ 68 = .ok (.iload 6, 2) := by decide +kernel
theorem dX11_within__70 : decode cX11_within_ 70 = .ok (.aload_n 0, 1) := by decide +kernel
theorem dX11_within__71 : decode cX11_within_ 71 = .ok (.getfield 317, 3) := by decide +kernel
theorem dX11_within__74 : decode cX11_within_ 74 = .ok (.if_icmp .ge 45, 3) := by decide +kernel
theorem dX11_within__77 : decode cX11_within_ 77 = .ok (.aload_n 0, 1) := by decide +kernel
theorem dX11_within__78 : decode cX11_within_ 78 = .ok (.getfield 59, 3) := by decide +kernel
theorem dX11_within__81 : decode cX11_within_ 81 = .ok (.iload 6, 2) := by decide +kernel
theorem dX11_within__83 : decode cX11_within_ 83 = .ok (.iaload, 1) := by decide +kernel
theorem dX11_within__84 : decode cX11_within_ 84 = .ok (.iload 5, 2) := by decide +kernel
theorem dX11_within__86 : decode cX11_within_ 86 = .ok (.if_icmp .ne 27, 3) := by decide +kernel
theorem dX11_within__89 : decode cX11_within_ 89 = .ok (.iload 4, 2) := by decide +kernel
theorem dX11_within__91 : decode cX11_within_ 91 = .ok (.iload_n 2, 1) := by decide +kernel
theorem dX11_within__92 : decode cX11_within_ 92 = .ok (.if_icmp .lt 13, 3) := by decide +kernel
theorem dX11_within__95 : decode cX11_within_ 95 = .ok (.aload_n 0, 1) := by decide +kernel
theorem dX11_within__96 : decode cX11_within_ 96 = .ok (.getfield 62, 3) := by decide +kernel
theorem dX11_within__99 : decode cX11_within_ 99 = .ok (.iload 6, 2) := by decide +kernel
theorem dX11_within__101 : decode cX11_within_ 101 = .ok (.iaload, 1) := by decide +kernel
theorem dX11_within__102 : decode cX11_within_ 102 = .ok (.ifCond .ne 11, 3) := by decide +kernel
theorem dX11_within__105 : decode cX11_within_ 105 = .ok (.aload_n 0, 1) := by decide +kernel
theorem dX11_within__106 : decode cX11_within_ 106 = .ok (.iload 6, 2) := by decide +kernel
theorem dX11_within__108 : decode cX11_within_ 108 = .ok (.iload_n 3, 1) := by decide +kernel
theorem dX11_within__109 : decode cX11_within_ 109 = .ok (.invokevirtual 329, 3) := by decide +kernel
theorem dX11_within__112 : decode cX11_within_ 112 = .ok (.ireturn, 1) := by decide +kernel
theorem dX11_within__113 : decode cX11_within_ 113 = .ok (.iinc 6 1, 3) := by decide +kernel
theorem dX11_within__116 : decode cX11_within_ 116 = .ok (.goto (-48), 3) := by decide +kernel
theorem dX11_within__119 : decode cX11_within_ 119 = .ok (.iinc 4 1, 3) := by decide +kernel
theorem dX11_within__122 : decode cX11_within_ 122 = .ok (.goto (-74), 3) := by decide +kernel
theorem dX11_within__125 : decode cX11_within_ 125 = .ok (.iconst (-1), 1) := by decide +kernel
theorem dX11_within__126 : decode cX11_within_ 126 = .ok (.ireturn, 1) := by decide +kernel
theorem dX11_worthOf_0 : decode cX11_worthOf 0 = .ok (.aload_n 0, 1) := by decide +kernel
theorem dX11_worthOf_1 : decode cX11_worthOf 1 = .ok (.getfield 55, 3) := by decide +kernel
theorem dX11_worthOf_4 : decode cX11_worthOf 4 = .ok (.iconst (-1), 1) := by decide +kernel
theorem dX11_worthOf_5 : decode cX11_worthOf 5 = .ok (.if_icmp .ne 12, 3) := by decide +kernel
theorem dX11_worthOf_8 : decode cX11_worthOf 8 = .ok (.aload_n 0, 1) := by decide +kernel
theorem dX11_worthOf_9 : decode cX11_worthOf 9 = .ok (.iload_n 1, 1) := by decide +kernel
theorem dX11_worthOf_10 : decode cX11_worthOf 10 = .ok (.invokevirtual 310, 3) := by decide +kernel
theorem dX11_worthOf_13 : decode cX11_worthOf 13 = .ok (.invokestatic 305, 3) := by decide +kernel
theorem dX11_worthOf_16 : decode cX11_worthOf 16 = .ok (.ireturn, 1) := by decide +kernel
theorem dX11_worthOf_17 : decode cX11_worthOf 17 = .ok (.aload_n 0, 1) := by decide +kernel
theorem dX11_worthOf_18 : decode cX11_worthOf 18 = .ok (.getfield 20, 3) := by decide +kernel
theorem dX11_worthOf_21 : decode cX11_worthOf 21 = .ok (.bipush 103, 2) := by decide +kernel
theorem dX11_worthOf_23 : decode cX11_worthOf 23 = .ok (.aload_n 0, 1) := by decide +kernel
theorem dX11_worthOf_24 : decode cX11_worthOf 24 = .ok (.iload_n 1, 1) := by decide +kernel
theorem dX11_worthOf_25 : decode cX11_worthOf 25 = .ok (.invokevirtual 310, 3) := by decide +kernel
theorem dX11_worthOf_28 : decode cX11_worthOf 28 = .ok (.iastore, 1) := by decide +kernel
theorem dX11_worthOf_29 : decode cX11_worthOf 29 = .ok (.aload_n 0, 1) := by decide +kernel
theorem dX11_worthOf_30 : decode cX11_worthOf 30 = .ok (.getfield 20, 3) := by decide +kernel
theorem dX11_worthOf_33 : decode cX11_worthOf 33 = .ok (.bipush 112, 2) := by decide +kernel
theorem dX11_worthOf_35 : decode cX11_worthOf 35 = .ok (.iload_n 1, 1) := by decide +kernel
theorem dX11_worthOf_36 : decode cX11_worthOf 36 = .ok (.iastore, 1) := by decide +kernel
theorem dX11_worthOf_37 : decode cX11_worthOf 37 = .ok (.aload_n 0, 1) := by decide +kernel
theorem dX11_worthOf_38 : decode cX11_worthOf 38 = .ok (.getfield 20, 3) := by decide +kernel
theorem dX11_worthOf_41 : decode cX11_worthOf 41 = .ok (.bipush 116, 2) := by decide +kernel
theorem dX11_worthOf_43 : decode cX11_worthOf 43 = .ok (.aload_n 0, 1) := by decide +kernel
theorem dX11_worthOf_44 : decode cX11_worthOf 44 = .ok (.iload_n 1, 1) := by decide +kernel
theorem dX11_worthOf_45 : decode cX11_worthOf 45 = .ok (.invokevirtual 314, 3) := by decide +kernel
theorem dX11_worthOf_48 : decode cX11_worthOf 48 = .ok (.iastore, 1) := by decide +kernel
theorem dX11_worthOf_49 : decode cX11_worthOf 49 = .ok (.aload_n 0, 1) := by decide +kernel
theorem dX11_worthOf_50 : decode cX11_worthOf 50 = .ok (.getfield 20, 3) := by decide +kernel
theorem dX11_worthOf_53 : decode cX11_worthOf 53 = .ok (.bipush 115, 2) := by decide +kernel
theorem dX11_worthOf_55 : decode cX11_worthOf 55 = .ok (.aload_n 0, 1) := by decide +kernel
theorem dX11_worthOf_56 : decode cX11_worthOf 56 = .ok (.iconst 0, 1) := by decide +kernel
theorem dX11_worthOf_57 : decode cX11_worthOf 57 = .ok (.iload_n 1, 1) := by decide +kernel
theorem dX11_worthOf_58 : decode cX11_worthOf 58 = .ok (.invokevirtual 299, 3) := by decide +kernel
theorem dX11_worthOf_61 : decode cX11_worthOf 61 = .ok (.aload_n 0, 1) := by decide +kernel
theorem dX11_worthOf_62 : decode cX11_worthOf 62 = .ok (.iconst 1, 1) := by decide +kernel
theorem dX11_worthOf_63 : decode cX11_worthOf 63 = .ok (.iload_n 1, 1) := by decide +kernel
theorem dX11_worthOf_64 : decode cX11_worthOf 64 = .ok (.invokevirtual 299, 3) := by decide +kernel
theorem dX11_worthOf_67 : decode cX11_worthOf 67 = .ok (.iadd, 1) := by decide +kernel
theorem dX11_worthOf_68 : decode cX11_worthOf 68 = .ok (.aload_n 0, 1) := by decide +kernel
theorem dX11_worthOf_69 : decode cX11_worthOf 69 = .ok (.iconst 2, 1) := by decide +kernel
theorem dX11_worthOf_70 : decode cX11_worthOf 70 = .ok (.iload_n 1, 1) := by decide +kernel
theorem dX11_worthOf_71 : decode cX11_worthOf 71 = .ok (.invokevirtual 299, 3) := by decide +kernel
theorem dX11_worthOf_74 : decode cX11_worthOf 74 = .ok (.iadd, 1) := by decide +kernel
theorem dX11_worthOf_75 : decode cX11_worthOf 75 = .ok (.aload_n 0, 1) := by decide +kernel
theorem dX11_worthOf_76 : decode cX11_worthOf 76 = .ok (.iconst 3, 1) := by decide +kernel
theorem dX11_worthOf_77 : decode cX11_worthOf 77 = .ok (.iload_n 1, 1) := by decide +kernel
theorem dX11_worthOf_78 : decode cX11_worthOf 78 = .ok (.invokevirtual 299, 3) := by decide +kernel
theorem dX11_worthOf_81 : decode cX11_worthOf 81 = .ok (.iadd, 1) := by decide +kernel
theorem dX11_worthOf_82 : decode cX11_worthOf 82 = .ok (.iastore, 1) := by decide +kernel
theorem dX11_worthOf_83 : decode cX11_worthOf 83 = .ok (.aload_n 0, 1) := by decide +kernel
theorem dX11_worthOf_84 : decode cX11_worthOf 84 = .ok (.getfield 20, 3) := by decide +kernel
theorem dX11_worthOf_87 : decode cX11_worthOf 87 = .ok (.bipush 110, 2) := by decide +kernel
theorem dX11_worthOf_89 : decode cX11_worthOf 89 = .ok (.aload_n 0, 1) := by decide +kernel
theorem dX11_worthOf_90 : decode cX11_worthOf 90 = .ok (.getfield 272, 3) := by decide +kernel
theorem dX11_worthOf_93 : decode cX11_worthOf 93 = .ok (.iastore, 1) := by decide +kernel
theorem dX11_worthOf_94 : decode cX11_worthOf 94 = .ok (.aload_n 0, 1) := by decide +kernel
theorem dX11_worthOf_95 : decode cX11_worthOf 95 = .ok (.aload_n 0, 1) := by decide +kernel
theorem dX11_worthOf_96 : decode cX11_worthOf 96 = .ok (.getfield 13, 3) := by decide +kernel
theorem dX11_worthOf_99 : decode cX11_worthOf 99 = .ok (.sipush 160, 3) := by decide +kernel
theorem dX11_worthOf_102 : decode cX11_worthOf 102 = .ok (.aload_n 0, 1) := by decide +kernel
theorem dX11_worthOf_103 : decode cX11_worthOf 103 = .ok (.getfield 55, 3) := by decide +kernel
theorem dX11_worthOf_106 : decode cX11_worthOf 106 = .ok (.imul, 1) := by decide +kernel
theorem dX11_worthOf_107 : decode cX11_worthOf 107 = .ok (.aload_n 0, 1) := by decide +kernel
theorem dX11_worthOf_108 : decode cX11_worthOf 108 = .ok (.getfield 16, 3) := by decide +kernel
theorem dX11_worthOf_111 : decode cX11_worthOf 111 = .ok (.aload_n 0, 1) := by decide +kernel
theorem dX11_worthOf_112 : decode cX11_worthOf 112 = .ok (.getfield 55, 3) := by decide +kernel
theorem dX11_worthOf_115 : decode cX11_worthOf 115 = .ok (.iaload, 1) := by decide +kernel
theorem dX11_worthOf_116 : decode cX11_worthOf 116 = .ok (.invokevirtual 264, 3) := by decide +kernel
theorem dX11_worthOf_119 : decode cX11_worthOf 119 = .ok (.aload_n 0, 1) := by decide +kernel
theorem dX11_worthOf_120 : decode cX11_worthOf 120 = .ok (.getfield 206, 3) := by decide +kernel
theorem dX11_worthOf_123 : decode cX11_worthOf 123 = .ok (.ireturn, 1) := by decide +kernel
theorem dX11_best_0 : decode cX11_best 0 = .ok (.aload_n 0, 1) := by decide +kernel
theorem dX11_best_1 : decode cX11_best 1 = .ok (.iconst 0, 1) := by decide +kernel
theorem dX11_best_2 : decode cX11_best 2 = .ok (.putfield 95, 3) := by decide +kernel
theorem dX11_best_5 : decode cX11_best 5 = .ok (.aload_n 0, 1) := by decide +kernel
theorem dX11_best_6 : decode cX11_best 6 = .ok (.getfield 272, 3) := by decide +kernel
theorem dX11_best_9 : decode cX11_best 9 = .ok (.ifCond .eq 13, 3) := by decide +kernel
theorem dX11_best_12 : decode cX11_best 12 = .ok (.iload_n 1, 1) := by decide +kernel
theorem dX11_best_13 : decode cX11_best 13 = .ok (.i2l, 1) := by decide +kernel
theorem dX11_best_14 : decode cX11_best 14 = .ok (.lconst 0, 1) := by decide +kernel
theorem dX11_best_15 : decode cX11_best 15 = .ok (.lconst 1, 1) := by decide +kernel
theorem dX11_best_16 : decode cX11_best 16 = .ok (.invokestatic 219, 3) := by decide +kernel
theorem dX11_best_19 : decode cX11_best 19 = .ok (.ifCond .ne 7, 3) := by decide +kernel
theorem dX11_best_22 : decode cX11_best 22 = .ok (.ldc_w 313, 3) := by decide +kernel
theorem dX11_best_25 : decode cX11_best 25 = .ok (.ireturn, 1) := by decide +kernel
theorem dX11_best_26 : decode cX11_best 26 = .ok (.iconst (-1), 1) := by decide +kernel
theorem dX11_best_27 : decode cX11_best 27 = .ok (.istore_n 2, 1) := by decide +kernel
theorem dX11_best_28 : decode cX11_best 28 = .ok (.iconst 0, 1) := by decide +kernel
theorem dX11_best_29 : decode cX11_best 29 = .ok (.istore_n 3, 1) := by decide +kernel
theorem dX11_best_30 : decode cX11_best 30 = .ok (.iconst 0, 1) := by decide +kernel
theorem dX11_best_31 : decode cX11_best 31 = .ok (.istore 4, 2) := by decide +kernel
theorem dX11_best_33 : decode cX11_best 33 = .ok (.iload 4, 2) := by decide +kernel
theorem dX11_best_35 : decode cX11_best 35 = .ok (.aload_n 0, 1) := by decide +kernel
theorem dX11_best_36 : decode cX11_best 36 = .ok (.getfield 272, 3) := by decide +kernel
theorem dX11_best_39 : decode cX11_best 39 = .ok (.if_icmp .ge 37, 3) := by decide +kernel
theorem dX11_best_42 : decode cX11_best 42 = .ok (.aload_n 0, 1) := by decide +kernel
theorem dX11_best_43 : decode cX11_best 43 = .ok (.iload 4, 2) := by decide +kernel
theorem dX11_best_45 : decode cX11_best 45 = .ok (.invokevirtual 346, 3) := by decide +kernel
theorem dX11_best_48 : decode cX11_best 48 = .ok (.istore 5, 2) := by decide +kernel
theorem dX11_best_50 : decode cX11_best 50 = .ok (.iload_n 2, 1) := by decide +kernel
theorem dX11_best_51 : decode cX11_best 51 = .ok (.iconst (-1), 1) := by decide +kernel
theorem dX11_best_52 : decode cX11_best 52 = .ok (.if_icmp .eq 12, 3) := by decide +kernel
theorem dX11_best_55 : decode cX11_best 55 = .ok (.iload 5, 2) := by decide +kernel
theorem dX11_best_57 : decode cX11_best 57 = .ok (.iload_n 3, 1) := by decide +kernel
theorem dX11_best_58 : decode cX11_best 58 = .ok (.if_icmp .lt 6, 3) := by decide +kernel
theorem dX11_best_61 : decode cX11_best 61 = .ok (.goto 9, 3) := by decide +kernel
theorem dX11_best_64 : decode cX11_best 64 = .ok (.iload 4, 2) := by decide +kernel
theorem dX11_best_66 : decode cX11_best 66 = .ok (.istore_n 2, 1) := by decide +kernel
theorem dX11_best_67 : decode cX11_best 67 = .ok (.iload 5, 2) := by decide +kernel
theorem dX11_best_69 : decode cX11_best 69 = .ok (.istore_n 3, 1) := by decide +kernel
theorem dX11_best_70 : decode cX11_best 70 = .ok (.iinc 4 1, 3) := by decide +kernel
theorem dX11_best_73 : decode cX11_best 73 = .ok (.goto (-40), 3) := by decide +kernel
theorem dX11_best_76 : decode cX11_best 76 = .ok (.iload_n 1, 1) := by decide +kernel
theorem dX11_best_77 : decode cX11_best 77 = .ok (.ifCond .ne 7, 3) := by decide +kernel
theorem dX11_best_80 : decode cX11_best 80 = .ok (.iload_n 2, 1) := by decide +kernel
theorem dX11_best_81 : decode cX11_best 81 = .ok (.goto 4, 3) := by decide +kernel
theorem dX11_best_84 : decode cX11_best 84 = .ok (.iload_n 3, 1) := by decide +kernel
theorem dX11_best_85 : decode cX11_best 85 = .ok (.ireturn, 1) := by decide +kernel
theorem dX11_sawn_0 : decode cX11_sawn 0 = .ok (.aload_n 0, 1) := by decide +kernel
theorem dX11_sawn_1 : decode cX11_sawn 1 = .ok (.iconst 0, 1) := by decide +kernel
theorem dX11_sawn_2 : decode cX11_sawn 2 = .ok (.putfield 95, 3) := by decide +kernel
theorem dX11_sawn_5 : decode cX11_sawn 5 = .ok (.aload_n 0, 1) := by decide +kernel
theorem dX11_sawn_6 : decode cX11_sawn 6 = .ok (.iload_n 1, 1) := by decide +kernel
theorem dX11_sawn_7 : decode cX11_sawn 7 = .ok (.invokevirtual 290, 3) := by decide +kernel
theorem dX11_sawn_10 : decode cX11_sawn 10 = .ok (.ifCond .eq 13, 3) := by decide +kernel
theorem dX11_sawn_13 : decode cX11_sawn 13 = .ok (.iload_n 2, 1) := by decide +kernel
theorem dX11_sawn_14 : decode cX11_sawn 14 = .ok (.i2l, 1) := by decide +kernel
theorem dX11_sawn_15 : decode cX11_sawn 15 = .ok (.lconst 0, 1) := by decide +kernel
theorem dX11_sawn_16 : decode cX11_sawn 16 = .ok (.lconst 1, 1) := by decide +kernel
theorem dX11_sawn_17 : decode cX11_sawn 17 = .ok (.invokestatic 219, 3) := by decide +kernel
theorem dX11_sawn_20 : decode cX11_sawn 20 = .ok (.ifCond .ne 5, 3) := by decide +kernel
theorem dX11_sawn_23 : decode cX11_sawn 23 = .ok (.iconst (-1), 1) := by decide +kernel
theorem dX11_sawn_24 : decode cX11_sawn 24 = .ok (.ireturn, 1) := by decide +kernel
theorem dX11_sawn_25 : decode cX11_sawn 25 = .ok (.aload_n 0, 1) := by decide +kernel
theorem dX11_sawn_26 : decode cX11_sawn 26 = .ok (.iload_n 1, 1) := by decide +kernel
theorem dX11_sawn_27 : decode cX11_sawn 27 = .ok (.invokevirtual 310, 3) := by decide +kernel
theorem dX11_sawn_30 : decode cX11_sawn 30 = .ok (.invokestatic 305, 3) := by decide +kernel
theorem dX11_sawn_33 : decode cX11_sawn 33 = .ok (.istore_n 3, 1) := by decide +kernel
theorem dX11_sawn_34 : decode cX11_sawn 34 = .ok (.aload_n 0, 1) := by decide +kernel
theorem dX11_sawn_35 : decode cX11_sawn 35 = .ok (.iload_n 1, 1) := by decide +kernel
theorem dX11_sawn_36 : decode cX11_sawn 36 = .ok (.invokevirtual 310, 3) := by decide +kernel
theorem dX11_sawn_39 : decode cX11_sawn 39 = .ok (.ifCond .ge 7, 3) := by decide +kernel
theorem dX11_sawn_42 : decode cX11_sawn 42 = .ok (.iconst 1, 1) := by decide +kernel
theorem dX11_sawn_43 : decode cX11_sawn 43 = .ok (.goto 4, 3) := by decide +kernel
theorem dX11_sawn_46 : decode cX11_sawn 46 = .ok (.iconst 0, 1) := by decide +kernel
theorem dX11_sawn_47 : decode cX11_sawn 47 = .ok (.istore 4, 2) := by decide +kernel
theorem dX11_sawn_49 : decode cX11_sawn 49 = .ok (.iload 4, 2) := by decide +kernel
theorem dX11_sawn_51 : decode cX11_sawn 51 = .ok (.iconst 4, 1) := by decide +kernel
theorem dX11_sawn_52 : decode cX11_sawn 52 = .ok (.if_icmp .ge 34, 3) := by decide +kernel
theorem dX11_sawn_55 : decode cX11_sawn 55 = .ok (.aload_n 0, 1) := by decide +kernel
theorem dX11_sawn_56 : decode cX11_sawn 56 = .ok (.getfield 43, 3) := by decide +kernel
theorem dX11_sawn_59 : decode cX11_sawn 59 = .ok (.iload 4, 2) := by decide +kernel
theorem dX11_sawn_61 : decode cX11_sawn 61 = .ok (.iaload, 1) := by decide +kernel
theorem dX11_sawn_62 : decode cX11_sawn 62 = .ok (.iload_n 3, 1) := by decide +kernel
theorem dX11_sawn_63 : decode cX11_sawn 63 = .ok (.iadd, 1) := by decide +kernel
theorem dX11_sawn_64 : decode cX11_sawn 64 = .ok (.bipush 99, 2) := by decide +kernel
theorem dX11_sawn_66 : decode cX11_sawn 66 = .ok (.if_icmp .gt 14, 3) := by decide +kernel
theorem dX11_sawn_69 : decode cX11_sawn 69 = .ok (.iload_n 2, 1) := by decide +kernel
theorem dX11_sawn_70 : decode cX11_sawn 70 = .ok (.ifCond .ne 8, 3) := by decide +kernel
theorem dX11_sawn_73 : decode cX11_sawn 73 = .ok (.iload 4, 2) := by decide +kernel
theorem dX11_sawn_75 : decode cX11_sawn 75 = .ok (.goto 4, 3) := by decide +kernel
theorem dX11_sawn_78 : decode cX11_sawn 78 = .ok (.iload_n 3, 1) := by decide +kernel
theorem dX11_sawn_79 : decode cX11_sawn 79 = .ok (.ireturn, 1) := by decide +kernel
theorem dX11_sawn_80 : decode cX11_sawn 80 = .ok (.iinc 4 2, 3) := by decide +kernel
theorem dX11_sawn_83 : decode cX11_sawn 83 = .ok (.goto (-34), 3) := by decide +kernel
theorem dX11_sawn_86 : decode cX11_sawn 86 = .ok (.iconst (-1), 1) := by decide +kernel
theorem dX11_sawn_87 : decode cX11_sawn 87 = .ok (.ireturn, 1) := by decide +kernel
theorem dX11_less_0 : decode cX11_less 0 = .ok (.aload_n 0, 1) := by decide +kernel
theorem dX11_less_1 : decode cX11_less 1 = .ok (.iconst 0, 1) := by decide +kernel
theorem dX11_less_2 : decode cX11_less 2 = .ok (.putfield 95, 3) := by decide +kernel
theorem dX11_less_5 : decode cX11_less 5 = .ok (.aload_n 0, 1) := by decide +kernel
theorem dX11_less_6 : decode cX11_less 6 = .ok (.getfield 272, 3) := by decide +kernel
theorem dX11_less_9 : decode cX11_less 9 = .ok (.ifCond .ne 7, 3) := by decide +kernel
theorem dX11_less_12 : decode cX11_less 12 = .ok (.iconst (-1), 1) := by decide +kernel
theorem dX11_less_13 : decode cX11_less 13 = .ok (.goto 30, 3) := by decide +kernel
theorem dX11_less_16 : decode cX11_less 16 = .ok (.aload_n 0, 1) := by decide +kernel
theorem dX11_less_17 : decode cX11_less 17 = .ok (.getfield 43, 3) := by decide +kernel
theorem dX11_less_20 : decode cX11_less 20 = .ok (.iconst 0, 1) := by decide +kernel
theorem dX11_less_21 : decode cX11_less 21 = .ok (.iaload, 1) := by decide +kernel
theorem dX11_less_22 : decode cX11_less 22 = .ok (.aload_n 0, 1) := by decide +kernel
theorem dX11_less_23 : decode cX11_less 23 = .ok (.getfield 43, 3) := by decide +kernel
theorem dX11_less_26 : decode cX11_less 26 = .ok (.iconst 1, 1) := by decide +kernel
theorem dX11_less_27 : decode cX11_less 27 = .ok (.iaload, 1) := by decide +kernel
theorem dX11_less_28 : decode cX11_less 28 = .ok (.iadd, 1) := by decide +kernel
theorem dX11_less_29 : decode cX11_less 29 = .ok (.aload_n 0, 1) := by decide +kernel
theorem dX11_less_30 : decode cX11_less 30 = .ok (.getfield 43, 3) := by decide +kernel
theorem dX11_less_33 : decode cX11_less 33 = .ok (.iconst 2, 1) := by decide +kernel
theorem dX11_less_34 : decode cX11_less 34 = .ok (.iaload, 1) := by decide +kernel
theorem dX11_less_35 : decode cX11_less 35 = .ok (.iadd, 1) := by decide +kernel
theorem dX11_less_36 : decode cX11_less 36 = .ok (.aload_n 0, 1) := by decide +kernel
theorem dX11_less_37 : decode cX11_less 37 = .ok (.getfield 43, 3) := by decide +kernel
theorem dX11_less_40 : decode cX11_less 40 = .ok (.iconst 3, 1) := by decide +kernel
theorem dX11_less_41 : decode cX11_less 41 = .ok (.iaload, 1) := by decide +kernel
theorem dX11_less_42 : decode cX11_less 42 = .ok (.iadd, 1) := by decide +kernel
theorem dX11_less_43 : decode cX11_less 43 = .ok (.ireturn, 1) := by decide +kernel
theorem dX11_goWedges_0 : decode cX11_goWedges 0 = .ok (.iload_n 1, 1) := by decide +kernel
theorem dX11_goWedges_1 : decode cX11_goWedges 1 = .ok (.aload_n 0, 1) := by decide +kernel
theorem dX11_goWedges_2 : decode cX11_goWedges 2 = .ok (.getfield 275, 3) := by decide +kernel
theorem dX11_goWedges_5 : decode cX11_goWedges 5 = .ok (.if_icmp .ne 62, 3) := by decide +kernel
theorem dX11_goWedges_8 : decode cX11_goWedges 8 = .ok (.iload_n 2, 1) := by decide +kernel
theorem dX11_goWedges_9 : decode cX11_goWedges 9 = .ok (.ifCond .ne 19, 3) := by decide +kernel
theorem dX11_goWedges_12 : decode cX11_goWedges 12 = .ok (.aload_n 0, 1) := by decide +kernel
theorem dX11_goWedges_13 : decode cX11_goWedges 13 = .ok (.getfield 349, 3) := by decide +kernel
theorem dX11_goWedges_16 : decode cX11_goWedges 16 = .ok (.iconst (-1), 1) := by decide +kernel
theorem dX11_goWedges_17 : decode cX11_goWedges 17 = .ok (.if_icmp .eq 12, 3) := by decide +kernel
theorem dX11_goWedges_20 : decode cX11_goWedges 20 = .ok (.iload_n 3, 1) := by decide +kernel
theorem dX11_goWedges_21 : decode cX11_goWedges 21 = .ok (.aload_n 0, 1) := by decide +kernel
theorem dX11_goWedges_22 : decode cX11_goWedges 22 = .ok (.getfield 349, 3) := by decide +kernel
theorem dX11_goWedges_25 : decode cX11_goWedges 25 = .ok (.if_icmp .lt 4, 3) := by decide +kernel
theorem dX11_goWedges_28 : decode cX11_goWedges 28 = .ok (.return_, 1) := by decide +kernel
theorem dX11_goWedges_29 : decode cX11_goWedges 29 = .ok (.aload_n 0, 1) := by decide +kernel
theorem dX11_goWedges_30 : decode cX11_goWedges 30 = .ok (.iload_n 3, 1) := by decide +kernel
theorem dX11_goWedges_31 : decode cX11_goWedges 31 = .ok (.putfield 349, 3) := by decide +kernel
theorem dX11_goWedges_34 : decode cX11_goWedges 34 = .ok (.iconst 0, 1) := by decide +kernel
theorem dX11_goWedges_35 : decode cX11_goWedges 35 = .ok (.istore 4, 2) := by decide +kernel
theorem dX11_goWedges_37 : decode cX11_goWedges 37 = .ok (.iload 4, 2) := by decide +kernel
theorem dX11_goWedges_39 : decode cX11_goWedges 39 = .ok (.aload_n 0, 1) := by decide +kernel
theorem dX11_goWedges_40 : decode cX11_goWedges 40 = .ok (.getfield 275, 3) := by decide +kernel
theorem dX11_goWedges_43 : decode cX11_goWedges 43 = .ok (.if_icmp .ge 23, 3) := by decide +kernel
theorem dX11_goWedges_46 : decode cX11_goWedges 46 = .ok (.aload_n 0, 1) := by decide +kernel
theorem dX11_goWedges_47 : decode cX11_goWedges 47 = .ok (.getfield 71, 3) := by decide +kernel
theorem dX11_goWedges_50 : decode cX11_goWedges 50 = .ok (.iload 4, 2) := by decide +kernel
theorem dX11_goWedges_52 : decode cX11_goWedges 52 = .ok (.aload_n 0, 1) := by decide +kernel
theorem dX11_goWedges_53 : decode cX11_goWedges 53 = .ok (.getfield 68, 3) := by decide +kernel
theorem dX11_goWedges_56 : decode cX11_goWedges 56 = .ok (.iload 4, 2) := by decide +kernel
theorem dX11_goWedges_58 : decode cX11_goWedges 58 = .ok (.iaload, 1) := by decide +kernel
theorem dX11_goWedges_59 : decode cX11_goWedges 59 = .ok (.iastore, 1) := by decide +kernel
theorem dX11_goWedges_60 : decode cX11_goWedges 60 = .ok (.iinc 4 1, 3) := by decide +kernel
theorem dX11_goWedges_63 : decode cX11_goWedges 63 = .ok (.goto (-26), 3) := by decide +kernel
theorem dX11_goWedges_66 : decode cX11_goWedges 66 = .ok (.return_, 1) := by decide +kernel
theorem dX11_goWedges_67 : decode cX11_goWedges 67 = .ok (.aload_n 0, 1) := by decide +kernel
theorem dX11_goWedges_68 : decode cX11_goWedges 68 = .ok (.getfield 49, 3) := by decide +kernel
theorem dX11_goWedges_71 : decode cX11_goWedges 71 = .ok (.iconst 2, 1) := by decide +kernel
theorem dX11_goWedges_72 : decode cX11_goWedges 72 = .ok (.iload_n 1, 1) := by decide +kernel
theorem dX11_goWedges_73 : decode cX11_goWedges 73 = .ok (.imul, 1) := by decide +kernel
theorem dX11_goWedges_74 : decode cX11_goWedges 74 = .ok (.iconst 1, 1) := by decide +kernel
theorem dX11_goWedges_75 : decode cX11_goWedges 75 = .ok (.iadd, 1) := by decide +kernel
theorem dX11_goWedges_76 : decode cX11_goWedges 76 = .ok (.iaload, 1) := by decide +kernel
theorem dX11_goWedges_77 : decode cX11_goWedges 77 = .ok (.istore 4, 2) := by decide +kernel
theorem dX11_goWedges_79 : decode cX11_goWedges 79 = .ok (.iload 4, 2) := by decide +kernel
theorem dX11_goWedges_81 : decode cX11_goWedges 81 = .ok (.ineg, 1) := by decide +kernel
theorem dX11_goWedges_82 : decode cX11_goWedges 82 = .ok (.istore 5, 2) := by decide +kernel
theorem dX11_goWedges_84 : decode cX11_goWedges 84 = .ok (.iload 5, 2) := by decide +kernel
theorem dX11_goWedges_86 : decode cX11_goWedges 86 = .ok (.iload 4, 2) := by decide +kernel
theorem dX11_goWedges_88 : decode cX11_goWedges 88 = .ok (.if_icmp .gt 44, 3) := by decide +kernel
theorem dX11_goWedges_91 : decode cX11_goWedges 91 = .ok (.aload_n 0, 1) := by decide +kernel
theorem dX11_goWedges_92 : decode cX11_goWedges 92 = .ok (.getfield 68, 3) := by decide +kernel
theorem dX11_goWedges_95 : decode cX11_goWedges 95 = .ok (.iload_n 1, 1) := by decide +kernel
theorem dX11_goWedges_96 : decode cX11_goWedges 96 = .ok (.iload 5, 2) := by decide +kernel
theorem dX11_goWedges_98 : decode cX11_goWedges 98 = .ok (.iastore, 1) := by decide +kernel
theorem dX11_goWedges_99 : decode cX11_goWedges 99 = .ok (.aload_n 0, 1) := by decide +kernel
theorem dX11_goWedges_100 : decode cX11_goWedges 100 = .ok (.iload_n 1, 1) := by decide +kernel
theorem dX11_goWedges_101 : decode cX11_goWedges 101 = .ok (.iconst 1, 1) := by decide +kernel
theorem dX11_goWedges_102 : decode cX11_goWedges 102 = .ok (.iadd, 1) := by decide +kernel
theorem dX11_goWedges_103 : decode cX11_goWedges 103 = .ok (.iload_n 2, 1) := by decide +kernel
theorem dX11_goWedges_104 : decode cX11_goWedges 104 = .ok (.iload 5, 2) := by decide +kernel
theorem dX11_goWedges_106 : decode cX11_goWedges 106 = .ok (.aload_n 0, 1) := by decide +kernel
theorem dX11_goWedges_107 : decode cX11_goWedges 107 = .ok (.getfield 49, 3) := by decide +kernel
theorem dX11_goWedges_110 : decode cX11_goWedges 110 = .ok (.iconst 2, 1) := by decide +kernel
theorem dX11_goWedges_111 : decode cX11_goWedges 111 = .ok (.iload_n 1, 1) := by decide +kernel
theorem dX11_goWedges_112 : decode cX11_goWedges 112 = .ok (.imul, 1) := by decide +kernel
theorem dX11_goWedges_113 : decode cX11_goWedges 113 = .ok (.iaload, 1) := by decide +kernel
theorem dX11_goWedges_114 : decode cX11_goWedges 114 = .ok (.imul, 1) := by decide +kernel
theorem dX11_goWedges_115 : decode cX11_goWedges 115 = .ok (.iadd, 1) := by decide +kernel
theorem dX11_goWedges_116 : decode cX11_goWedges 116 = .ok (.iload_n 3, 1) := by decide +kernel
theorem dX11_goWedges_117 : decode cX11_goWedges 117 = .ok (.iload 5, 2) := by decide +kernel
theorem dX11_goWedges_119 : decode cX11_goWedges 119 = .ok (.invokestatic 305, 3) := by decide +kernel
theorem dX11_goWedges_122 : decode cX11_goWedges 122 = .ok (.iadd, 1) := by decide +kernel
theorem dX11_goWedges_123 : decode cX11_goWedges 123 = .ok (.invokevirtual 352, 3) := by decide +kernel
theorem dX11_goWedges_126 : decode cX11_goWedges 126 = .ok (.iinc 5 1, 3) := by decide +kernel
theorem dX11_goWedges_129 : decode cX11_goWedges 129 = .ok (.goto (-45), 3) := by decide +kernel
theorem dX11_goWedges_132 : decode cX11_goWedges 132 = .ok (.return_, 1) := by decide +kernel
theorem dX11_wedges_0 : decode cX11_wedges 0 = .ok (.aload_n 0, 1) := by decide +kernel
theorem dX11_wedges_1 : decode cX11_wedges 1 = .ok (.iconst 0, 1) := by decide +kernel
theorem dX11_wedges_2 : decode cX11_wedges 2 = .ok (.putfield 95, 3) := by decide +kernel
theorem dX11_wedges_5 : decode cX11_wedges 5 = .ok (.aload_n 0, 1) := by decide +kernel
theorem dX11_wedges_6 : decode cX11_wedges 6 = .ok (.iload_n 1, 1) := by decide +kernel
theorem dX11_wedges_7 : decode cX11_wedges 7 = .ok (.invokevirtual 290, 3) := by decide +kernel
theorem dX11_wedges_10 : decode cX11_wedges 10 = .ok (.ifCond .eq 21, 3) := by decide +kernel
theorem dX11_wedges_13 : decode cX11_wedges 13 = .ok (.iload_n 2, 1) := by decide +kernel
theorem dX11_wedges_14 : decode cX11_wedges 14 = .ok (.i2l, 1) := by decide +kernel
theorem dX11_wedges_15 : decode cX11_wedges 15 = .ok (.ldc2_w 341, 3) := by decide +kernel
theorem dX11_wedges_18 : decode cX11_wedges 18 = .ok (.aload_n 0, 1) := by decide +kernel
theorem dX11_wedges_19 : decode cX11_wedges 19 = .ok (.getfield 275, 3) := by decide +kernel
theorem dX11_wedges_22 : decode cX11_wedges 22 = .ok (.iconst 1, 1) := by decide +kernel
theorem dX11_wedges_23 : decode cX11_wedges 23 = .ok (.isub, 1) := by decide +kernel
theorem dX11_wedges_24 : decode cX11_wedges 24 = .ok (.i2l, 1) := by decide +kernel
theorem dX11_wedges_25 : decode cX11_wedges 25 = .ok (.invokestatic 219, 3) := by decide +kernel
theorem dX11_wedges_28 : decode cX11_wedges 28 = .ok (.ifCond .ne 7, 3) := by decide +kernel
theorem dX11_wedges_31 : decode cX11_wedges 31 = .ok (.ldc_w 313, 3) := by decide +kernel
theorem dX11_wedges_34 : decode cX11_wedges 34 = .ok (.ireturn, 1) := by decide +kernel
theorem dX11_wedges_35 : decode cX11_wedges 35 = .ok (.aload_n 0, 1) := by decide +kernel
theorem dX11_wedges_36 : decode cX11_wedges 36 = .ok (.iconst (-1), 1) := by decide +kernel
theorem dX11_wedges_37 : decode cX11_wedges 37 = .ok (.putfield 349, 3) := by decide +kernel
theorem dX11_wedges_40 : decode cX11_wedges 40 = .ok (.aload_n 0, 1) := by decide +kernel
theorem dX11_wedges_41 : decode cX11_wedges 41 = .ok (.iconst 0, 1) := by decide +kernel
theorem dX11_wedges_42 : decode cX11_wedges 42 = .ok (.aload_n 0, 1) := by decide +kernel
theorem dX11_wedges_43 : decode cX11_wedges 43 = .ok (.iload_n 1, 1) := by decide +kernel
theorem dX11_wedges_44 : decode cX11_wedges 44 = .ok (.invokevirtual 310, 3) := by decide +kernel
theorem dX11_wedges_47 : decode cX11_wedges 47 = .ok (.iconst 0, 1) := by decide +kernel
theorem dX11_wedges_48 : decode cX11_wedges 48 = .ok (.invokevirtual 352, 3) := by decide +kernel
theorem dX11_wedges_51 : decode cX11_wedges 51 = .ok (.aload_n 0, 1) := by decide +kernel
theorem dX11_wedges_52 : decode cX11_wedges 52 = .ok (.getfield 349, 3) := by decide +kernel
theorem dX11_wedges_55 : decode cX11_wedges 55 = .ok (.iconst (-1), 1) := by decide +kernel
theorem dX11_wedges_56 : decode cX11_wedges 56 = .ok (.if_icmp .ne 9, 3) := by decide +kernel
theorem dX11_wedges_59 : decode cX11_wedges 59 = .ok (.ldc_w 313, 3) := by decide +kernel
theorem dX11_wedges_62 : decode cX11_wedges 62 = .ok (.goto 21, 3) := by decide +kernel
theorem dX11_wedges_65 : decode cX11_wedges 65 = .ok (.iload_n 2, 1) := by decide +kernel
theorem dX11_wedges_66 : decode cX11_wedges 66 = .ok (.iconst (-1), 1) := by decide +kernel
theorem dX11_wedges_67 : decode cX11_wedges 67 = .ok (.if_icmp .ne 10, 3) := by decide +kernel
theorem dX11_wedges_70 : decode cX11_wedges 70 = .ok (.aload_n 0, 1) := by decide +kernel
theorem dX11_wedges_71 : decode cX11_wedges 71 = .ok (.getfield 349, 3) := by decide +kernel
theorem dX11_wedges_74 : decode cX11_wedges 74 = .ok (.goto 9, 3) := by decide +kernel
theorem dX11_wedges_77 : decode cX11_wedges 77 = .ok (.aload_n 0, 1) := by decide +kernel
theorem dX11_wedges_78 : decode cX11_wedges 78 = .ok (.getfield 71, 3) := by decide +kernel
theorem dX11_wedges_81 : decode cX11_wedges 81 = .ok (.iload_n 2, 1) := by decide +kernel
theorem dX11_wedges_82 : decode cX11_wedges 82 = .ok (.iaload, 1) := by decide +kernel
theorem dX11_wedges_83 : decode cX11_wedges 83 = .ok (.ireturn, 1) := by decide +kernel
theorem dX11_rock_0 : decode cX11_rock 0 = .ok (.aload_n 0, 1) := by decide +kernel
theorem dX11_rock_1 : decode cX11_rock 1 = .ok (.iconst 0, 1) := by decide +kernel
theorem dX11_rock_2 : decode cX11_rock 2 = .ok (.putfield 95, 3) := by decide +kernel
theorem dX11_rock_5 : decode cX11_rock 5 = .ok (.aload_n 0, 1) := by decide +kernel
theorem dX11_rock_6 : decode cX11_rock 6 = .ok (.iload_n 1, 1) := by decide +kernel
theorem dX11_rock_7 : decode cX11_rock 7 = .ok (.invokevirtual 290, 3) := by decide +kernel
theorem dX11_rock_10 : decode cX11_rock 10 = .ok (.ifCond .eq 24, 3) := by decide +kernel
theorem dX11_rock_13 : decode cX11_rock 13 = .ok (.iload_n 2, 1) := by decide +kernel
theorem dX11_rock_14 : decode cX11_rock 14 = .ok (.i2l, 1) := by decide +kernel
theorem dX11_rock_15 : decode cX11_rock 15 = .ok (.ldc2_w 341, 3) := by decide +kernel
theorem dX11_rock_18 : decode cX11_rock 18 = .ok (.lconst 1, 1) := by decide +kernel
theorem dX11_rock_19 : decode cX11_rock 19 = .ok (.invokestatic 219, 3) := by decide +kernel
theorem dX11_rock_22 : decode cX11_rock 22 = .ok (.ifCond .eq 12, 3) := by decide +kernel
theorem dX11_rock_25 : decode cX11_rock 25 = .ok (.aload_n 0, 1) := by decide +kernel
theorem dX11_rock_26 : decode cX11_rock 26 = .ok (.getfield 281, 3) := by decide +kernel
theorem dX11_rock_29 : decode cX11_rock 29 = .ok (.bipush 20, 2) := by decide +kernel
theorem dX11_rock_31 : decode cX11_rock 31 = .ok (.if_icmp .ne 5, 3) := by decide +kernel
theorem dX11_rock_34 : decode cX11_rock 34 = .ok (.iconst (-1), 1) := by decide +kernel
theorem dX11_rock_35 : decode cX11_rock 35 = .ok (.ireturn, 1) := by decide +kernel
theorem dX11_rock_36 : decode cX11_rock 36 = .ok (.aload_n 0, 1) := by decide +kernel
theorem dX11_rock_37 : decode cX11_rock 37 = .ok (.getfield 74, 3) := by decide +kernel
theorem dX11_rock_40 : decode cX11_rock 40 = .ok (.aload_n 0, 1) := by decide +kernel
theorem dX11_rock_41 : decode cX11_rock 41 = .ok (.getfield 281, 3) := by decide +kernel
theorem dX11_rock_44 : decode cX11_rock 44 = .ok (.iload_n 1, 1) := by decide +kernel
theorem dX11_rock_45 : decode cX11_rock 45 = .ok (.iastore, 1) := by decide +kernel
theorem dX11_rock_46 : decode cX11_rock 46 = .ok (.aload_n 0, 1) := by decide +kernel
theorem dX11_rock_47 : decode cX11_rock 47 = .ok (.getfield 77, 3) := by decide +kernel
theorem dX11_rock_50 : decode cX11_rock 50 = .ok (.aload_n 0, 1) := by decide +kernel
theorem dX11_rock_51 : decode cX11_rock 51 = .ok (.getfield 281, 3) := by decide +kernel
theorem dX11_rock_54 : decode cX11_rock 54 = .ok (.iload_n 2, 1) := by decide +kernel
theorem dX11_rock_55 : decode cX11_rock 55 = .ok (.iastore, 1) := by decide +kernel
theorem dX11_rock_56 : decode cX11_rock 56 = .ok (.aload_n 0, 1) := by decide +kernel
theorem dX11_rock_57 : decode cX11_rock 57 = .ok (.dup, 1) := by decide +kernel
theorem dX11_rock_58 : decode cX11_rock 58 = .ok (.getfield 281, 3) := by decide +kernel
theorem dX11_rock_61 : decode cX11_rock 61 = .ok (.iconst 1, 1) := by decide +kernel
theorem dX11_rock_62 : decode cX11_rock 62 = .ok (.iadd, 1) := by decide +kernel
theorem dX11_rock_63 : decode cX11_rock 63 = .ok (.putfield 281, 3) := by decide +kernel
theorem dX11_rock_66 : decode cX11_rock 66 = .ok (.aload_n 0, 1) := by decide +kernel
theorem dX11_rock_67 : decode cX11_rock 67 = .ok (.getfield 281, 3) := by decide +kernel
theorem dX11_rock_70 : decode cX11_rock 70 = .ok (.ireturn, 1) := by decide +kernel
theorem dX11_wasSo_0 : decode cX11_wasSo 0 = .ok (.iconst 0, 1) := by decide +kernel
theorem dX11_wasSo_1 : decode cX11_wasSo 1 = .ok (.istore_n 1, 1) := by decide +kernel
theorem dX11_wasSo_2 : decode cX11_wasSo 2 = .ok (.iload_n 1, 1) := by decide +kernel
theorem dX11_wasSo_3 : decode cX11_wasSo 3 = .ok (.aload_n 0, 1) := by decide +kernel
theorem dX11_wasSo_4 : decode cX11_wasSo 4 = .ok (.getfield 281, 3) := by decide +kernel
theorem dX11_wasSo_7 : decode cX11_wasSo 7 = .ok (.if_icmp .ge 33, 3) := by decide +kernel
theorem dX11_wasSo_10 : decode cX11_wasSo 10 = .ok (.aload_n 0, 1) := by decide +kernel
theorem dX11_wasSo_11 : decode cX11_wasSo 11 = .ok (.aload_n 0, 1) := by decide +kernel
theorem dX11_wasSo_12 : decode cX11_wasSo 12 = .ok (.getfield 74, 3) := by decide +kernel
theorem dX11_wasSo_15 : decode cX11_wasSo 15 = .ok (.iload_n 1, 1) := by decide +kernel
theorem dX11_wasSo_16 : decode cX11_wasSo 16 = .ok (.iaload, 1) := by decide +kernel
theorem dX11_wasSo_17 : decode cX11_wasSo 17 = .ok (.invokevirtual 310, 3) := by decide +kernel
theorem dX11_wasSo_20 : decode cX11_wasSo 20 = .ok (.invokestatic 355, 3) := by decide +kernel
theorem dX11_wasSo_23 : decode cX11_wasSo 23 = .ok (.aload_n 0, 1) := by decide +kernel
theorem dX11_wasSo_24 : decode cX11_wasSo 24 = .ok (.getfield 77, 3) := by decide +kernel
theorem dX11_wasSo_27 : decode cX11_wasSo 27 = .ok (.iload_n 1, 1) := by decide +kernel
theorem dX11_wasSo_28 : decode cX11_wasSo 28 = .ok (.iaload, 1) := by decide +kernel
theorem dX11_wasSo_29 : decode cX11_wasSo 29 = .ok (.if_icmp .eq 5, 3) := by decide +kernel
theorem dX11_wasSo_32 : decode cX11_wasSo 32 = .ok (.iconst 0, 1) := by decide +kernel
theorem dX11_wasSo_33 : decode cX11_wasSo 33 = .ok (.ireturn, 1) := by decide +kernel
theorem dX11_wasSo_34 : decode cX11_wasSo 34 = .ok (.iinc 1 1, 3) := by decide +kernel
theorem dX11_wasSo_37 : decode cX11_wasSo 37 = .ok (.goto (-35), 3) := by decide +kernel
theorem dX11_wasSo_40 : decode cX11_wasSo 40 = .ok (.iconst 1, 1) := by decide +kernel
theorem dX11_wasSo_41 : decode cX11_wasSo 41 = .ok (.ireturn, 1) := by decide +kernel
theorem dX11_fitsOf_0 : decode cX11_fitsOf 0 = .ok (.aload_n 1, 1) := by decide +kernel
theorem dX11_fitsOf_1 : decode cX11_fitsOf 1 = .ok (.iload_n 2, 1) := by decide +kernel
theorem dX11_fitsOf_2 : decode cX11_fitsOf 2 = .ok (.iaload, 1) := by decide +kernel
theorem dX11_fitsOf_3 : decode cX11_fitsOf 3 = .ok (.istore 4, 2) := by decide +kernel
theorem dX11_fitsOf_5 : decode cX11_fitsOf 5 = .ok (.iconst 0, 1) := by decide +kernel
theorem dX11_fitsOf_6 : decode cX11_fitsOf 6 = .ok (.istore 5, 2) := by decide +kernel
theorem dX11_fitsOf_8 : decode cX11_fitsOf 8 = .ok (.iconst (-1), 1) := by decide +kernel
theorem dX11_fitsOf_9 : decode cX11_fitsOf 9 = .ok (.istore 6, 2) := by decide +kernel
theorem dX11_fitsOf_11 : decode cX11_fitsOf 11 = .ok (.iconst (-1), 1) := by decide +kernel
theorem dX11_fitsOf_12 : decode cX11_fitsOf 12 = .ok (.istore 7, 2) := by decide +kernel
theorem dX11_fitsOf_14 : decode cX11_fitsOf 14 = .ok (.iconst 0, 1) := by decide +kernel
theorem dX11_fitsOf_15 : decode cX11_fitsOf 15 = .ok (.istore 8, 2) := by decide +kernel
theorem dX11_fitsOf_17 : decode cX11_fitsOf 17 = .ok (.iload 8, 2) := by decide +kernel
theorem dX11_fitsOf_19 : decode cX11_fitsOf 19 = .ok (.bipush 99, 2) := by decide +kernel
theorem dX11_fitsOf_21 : decode cX11_fitsOf 21 = .ok (.if_icmp .gt 46, 3) := by decide +kernel
theorem dX11_fitsOf_24 : decode cX11_fitsOf 24 = .ok (.aload_n 1, 1) := by decide +kernel
theorem dX11_fitsOf_25 : decode cX11_fitsOf 25 = .ok (.iload_n 2, 1) := by decide +kernel
theorem dX11_fitsOf_26 : decode cX11_fitsOf 26 = .ok (.iload 8, 2) := by decide +kernel
theorem dX11_fitsOf_28 : decode cX11_fitsOf 28 = .ok (.iastore, 1) := by decide +kernel
theorem dX11_fitsOf_29 : decode cX11_fitsOf 29 = .ok (.aload_n 0, 1) := by decide +kernel
theorem dX11_fitsOf_30 : decode cX11_fitsOf 30 = .ok (.invokevirtual 360, 3) := by decide +kernel
theorem dX11_fitsOf_33 : decode cX11_fitsOf 33 = .ok (.ifCond .ne 6, 3) := by decide +kernel
theorem dX11_fitsOf_36 : decode cX11_fitsOf 36 = .ok (.goto 25, 3) := by decide +kernel
theorem dX11_fitsOf_39 : decode cX11_fitsOf 39 = .ok (.iinc 5 1, 3) := by decide +kernel
theorem dX11_fitsOf_42 : decode cX11_fitsOf 42 = .ok (.iload 6, 2) := by decide +kernel
theorem dX11_fitsOf_44 : decode cX11_fitsOf 44 = .ok (.iconst (-1), 1) := by decide +kernel
theorem dX11_fitsOf_45 : decode cX11_fitsOf 45 = .ok (.if_icmp .ne 8, 3) := by decide +kernel
theorem dX11_fitsOf_48 : decode cX11_fitsOf 48 = .ok (.iload 8, 2) := by decide +kernel
theorem dX11_fitsOf_50 : decode cX11_fitsOf 50 = .ok (.goto 5, 3) := by decide +kernel
theorem dX11_fitsOf_53 : decode cX11_fitsOf 53 = .ok (.iload 6, 2) := by decide +kernel
theorem dX11_fitsOf_55 : decode cX11_fitsOf 55 = .ok (.istore 6, 2) := by decide +kernel
theorem dX11_fitsOf_57 : decode cX11_fitsOf 57 = .ok (.iload 8, 2) := by decide +kernel
theorem dX11_fitsOf_59 : decode cX11_fitsOf 59 = .ok (.istore 7, 2) := by decide +kernel
theorem dX11_fitsOf_61 : decode cX11_fitsOf 61 = .ok (.iinc 8 1, 3) := by decide +kernel
theorem dX11_fitsOf_64 : decode cX11_fitsOf 64 = .ok (.goto (-47), 3) := by decide +kernel
theorem dX11_fitsOf_67 : decode cX11_fitsOf 67 = .ok (.aload_n 1, 1) := by decide +kernel
theorem dX11_fitsOf_68 : decode cX11_fitsOf 68 = .ok (.iload_n 2, 1) := by decide +kernel
theorem dX11_fitsOf_69 : decode cX11_fitsOf 69 = .ok (.iload 4, 2) := by decide +kernel
theorem dX11_fitsOf_71 : decode cX11_fitsOf 71 = .ok (.iastore, 1) := by decide +kernel
theorem dX11_fitsOf_72 : decode cX11_fitsOf 72 = .ok (.iload_n 3, 1) := by decide +kernel
theorem dX11_fitsOf_73 : decode cX11_fitsOf 73 = .ok (.ifCond .ne 8, 3) := by decide +kernel
theorem dX11_fitsOf_76 : decode cX11_fitsOf 76 = .ok (.iload 5, 2) := by decide +kernel
theorem dX11_fitsOf_78 : decode cX11_fitsOf 78 = .ok (.goto 15, 3) := by decide +kernel
theorem dX11_fitsOf_81 : decode cX11_fitsOf 81 = .ok (.iload_n 3, 1) := by decide +kernel
theorem dX11_fitsOf_82 : decode cX11_fitsOf 82 = .ok (.iconst 1, 1) := by decide +kernel
theorem dX11_fitsOf_83 : decode cX11_fitsOf 83 = .ok (.if_icmp .ne 8, 3) := by decide +kernel
theorem dX11_fitsOf_86 : decode cX11_fitsOf 86 = .ok (.iload 6, 2) := by decide +kernel
theorem dX11_fitsOf_88 : decode cX11_fitsOf 88 = .ok (.goto 5, 3) := by decide +kernel
theorem dX11_fitsOf_91 : decode cX11_fitsOf 91 = .ok (.iload 7, 2) := by decide +kernel
theorem dX11_fitsOf_93 : decode cX11_fitsOf 93 = .ok (.ireturn, 1) := by decide +kernel
theorem dX11_shorts_0 : decode cX11_shorts 0 = .ok (.aload_n 0, 1) := by decide +kernel
theorem dX11_shorts_1 : decode cX11_shorts 1 = .ok (.iconst 0, 1) := by decide +kernel
theorem dX11_shorts_2 : decode cX11_shorts 2 = .ok (.putfield 95, 3) := by decide +kernel
theorem dX11_shorts_5 : decode cX11_shorts 5 = .ok (.aload_n 0, 1) := by decide +kernel
theorem dX11_shorts_6 : decode cX11_shorts 6 = .ok (.iload_n 1, 1) := by decide +kernel
theorem dX11_shorts_7 : decode cX11_shorts 7 = .ok (.invokevirtual 293, 3) := by decide +kernel
theorem dX11_shorts_10 : decode cX11_shorts 10 = .ok (.ifCond .eq 28, 3) := by decide +kernel
theorem dX11_shorts_13 : decode cX11_shorts 13 = .ok (.iload_n 2, 1) := by decide +kernel
theorem dX11_shorts_14 : decode cX11_shorts 14 = .ok (.i2l, 1) := by decide +kernel
theorem dX11_shorts_15 : decode cX11_shorts 15 = .ok (.lconst 0, 1) := by decide +kernel
theorem dX11_shorts_16 : decode cX11_shorts 16 = .ok (.ldc2_w 324, 3) := by decide +kernel
theorem dX11_shorts_19 : decode cX11_shorts 19 = .ok (.invokestatic 219, 3) := by decide +kernel
theorem dX11_shorts_22 : decode cX11_shorts 22 = .ok (.ifCond .eq 16, 3) := by decide +kernel
theorem dX11_shorts_25 : decode cX11_shorts 25 = .ok (.aload_n 0, 1) := by decide +kernel
theorem dX11_shorts_26 : decode cX11_shorts 26 = .ok (.aload_n 0, 1) := by decide +kernel
theorem dX11_shorts_27 : decode cX11_shorts 27 = .ok (.getfield 43, 3) := by decide +kernel
theorem dX11_shorts_30 : decode cX11_shorts 30 = .ok (.iload_n 1, 1) := by decide +kernel
theorem dX11_shorts_31 : decode cX11_shorts 31 = .ok (.iload_n 2, 1) := by decide +kernel
theorem dX11_shorts_32 : decode cX11_shorts 32 = .ok (.invokevirtual 363, 3) := by decide +kernel
theorem dX11_shorts_35 : decode cX11_shorts 35 = .ok (.goto 6, 3) := by decide +kernel
theorem dX11_shorts_38 : decode cX11_shorts 38 = .ok (.ldc_w 313, 3) := by decide +kernel
theorem dX11_shorts_41 : decode cX11_shorts 41 = .ok (.ireturn, 1) := by decide +kernel
theorem dX11_heights_0 : decode cX11_heights 0 = .ok (.aload_n 0, 1) := by decide +kernel
theorem dX11_heights_1 : decode cX11_heights 1 = .ok (.iconst 0, 1) := by decide +kernel
theorem dX11_heights_2 : decode cX11_heights 2 = .ok (.putfield 95, 3) := by decide +kernel
theorem dX11_heights_5 : decode cX11_heights 5 = .ok (.aload_n 0, 1) := by decide +kernel
theorem dX11_heights_6 : decode cX11_heights 6 = .ok (.iload_n 1, 1) := by decide +kernel
theorem dX11_heights_7 : decode cX11_heights 7 = .ok (.invokevirtual 290, 3) := by decide +kernel
theorem dX11_heights_10 : decode cX11_heights 10 = .ok (.ifCond .eq 28, 3) := by decide +kernel
theorem dX11_heights_13 : decode cX11_heights 13 = .ok (.iload_n 2, 1) := by decide +kernel
theorem dX11_heights_14 : decode cX11_heights 14 = .ok (.i2l, 1) := by decide +kernel
theorem dX11_heights_15 : decode cX11_heights 15 = .ok (.lconst 0, 1) := by decide +kernel
theorem dX11_heights_16 : decode cX11_heights 16 = .ok (.ldc2_w 324, 3) := by decide +kernel
theorem dX11_heights_19 : decode cX11_heights 19 = .ok (.invokestatic 219, 3) := by decide +kernel
theorem dX11_heights_22 : decode cX11_heights 22 = .ok (.ifCond .eq 16, 3) := by decide +kernel
theorem dX11_heights_25 : decode cX11_heights 25 = .ok (.aload_n 0, 1) := by decide +kernel
theorem dX11_heights_26 : decode cX11_heights 26 = .ok (.aload_n 0, 1) := by decide +kernel
theorem dX11_heights_27 : decode cX11_heights 27 = .ok (.getfield 37, 3) := by decide +kernel
theorem dX11_heights_30 : decode cX11_heights 30 = .ok (.iload_n 1, 1) := by decide +kernel
theorem dX11_heights_31 : decode cX11_heights 31 = .ok (.iload_n 2, 1) := by decide +kernel
theorem dX11_heights_32 : decode cX11_heights 32 = .ok (.invokevirtual 363, 3) := by decide +kernel
theorem dX11_heights_35 : decode cX11_heights 35 = .ok (.goto 6, 3) := by decide +kernel
theorem dX11_heights_38 : decode cX11_heights 38 = .ok (.ldc_w 313, 3) := by decide +kernel
theorem dX11_heights_41 : decode cX11_heights 41 = .ok (.ireturn, 1) := by decide +kernel
theorem dX11_angles_0 : decode cX11_angles 0 = .ok (.aload_n 0, 1) := by decide +kernel
theorem dX11_angles_1 : decode cX11_angles 1 = .ok (.iconst 0, 1) := by decide +kernel
theorem dX11_angles_2 : decode cX11_angles 2 = .ok (.putfield 95, 3) := by decide +kernel
theorem dX11_angles_5 : decode cX11_angles 5 = .ok (.aload_n 0, 1) := by decide +kernel
theorem dX11_angles_6 : decode cX11_angles 6 = .ok (.getfield 272, 3) := by decide +kernel
theorem dX11_angles_9 : decode cX11_angles 9 = .ok (.ifCond .ne 5, 3) := by decide +kernel
theorem dX11_angles_12 : decode cX11_angles 12 = .ok (.iconst (-1), 1) := by decide +kernel
theorem dX11_angles_13 : decode cX11_angles 13 = .ok (.ireturn, 1) := by decide +kernel
theorem dX11_angles_14 : decode cX11_angles 14 = .ok (.aload_n 0, 1) := by decide +kernel
theorem dX11_angles_15 : decode cX11_angles 15 = .ok (.getfield 278, 3) := by decide +kernel
theorem dX11_angles_18 : decode cX11_angles 18 = .ok (.istore_n 1, 1) := by decide +kernel
theorem dX11_angles_19 : decode cX11_angles 19 = .ok (.iconst 0, 1) := by decide +kernel
theorem dX11_angles_20 : decode cX11_angles 20 = .ok (.istore_n 2, 1) := by decide +kernel
theorem dX11_angles_21 : decode cX11_angles 21 = .ok (.iconst 1, 1) := by decide +kernel
theorem dX11_angles_22 : decode cX11_angles 22 = .ok (.istore_n 3, 1) := by decide +kernel
theorem dX11_angles_23 : decode cX11_angles 23 = .ok (.iconst 2, 1) := by decide +kernel
theorem dX11_angles_24 : decode cX11_angles 24 = .ok (.iload_n 3, 1) := by decide +kernel
theorem dX11_angles_25 : decode cX11_angles 25 = .ok (.imul, 1) := by decide +kernel
theorem dX11_angles_26 : decode cX11_angles 26 = .ok (.aload_n 0, 1) := by decide +kernel
theorem dX11_angles_27 : decode cX11_angles 27 = .ok (.getfield 272, 3) := by decide +kernel
theorem dX11_angles_30 : decode cX11_angles 30 = .ok (.if_icmp .ge 31, 3) := by decide +kernel
theorem dX11_angles_33 : decode cX11_angles 33 = .ok (.aload_n 0, 1) := by decide +kernel
theorem dX11_angles_34 : decode cX11_angles 34 = .ok (.iload_n 3, 1) := by decide +kernel
theorem dX11_angles_35 : decode cX11_angles 35 = .ok (.putfield 278, 3) := by decide +kernel
theorem dX11_angles_38 : decode cX11_angles 38 = .ok (.iload_n 2, 1) := by decide +kernel
theorem dX11_angles_39 : decode cX11_angles 39 = .ok (.aload_n 0, 1) := by decide +kernel
theorem dX11_angles_40 : decode cX11_angles 40 = .ok (.invokevirtual 360, 3) := by decide +kernel
theorem dX11_angles_43 : decode cX11_angles 43 = .ok (.ifCond .eq 9, 3) := by decide +kernel
theorem dX11_angles_46 : decode cX11_angles 46 = .ok (.iconst 1, 1) := by decide +kernel
theorem dX11_angles_47 : decode cX11_angles 47 = .ok (.iload_n 3, 1) := by decide +kernel
theorem dX11_angles_48 : decode cX11_angles 48 = .ok (.ishl, 1) := by decide +kernel
theorem dX11_angles_49 : decode cX11_angles 49 = .ok (.goto 4, 3) := by decide +kernel
theorem dX11_angles_52 : decode cX11_angles 52 = .ok (.iconst 0, 1) := by decide +kernel
theorem dX11_angles_53 : decode cX11_angles 53 = .ok (.ior, 1) := by decide +kernel
theorem dX11_angles_54 : decode cX11_angles 54 = .ok (.istore_n 2, 1) := by decide +kernel
theorem dX11_angles_55 : decode cX11_angles 55 = .ok (.iinc 3 1, 3) := by decide +kernel
theorem dX11_angles_58 : decode cX11_angles 58 = .ok (.goto (-35), 3) := by decide +kernel
theorem dX11_angles_61 : decode cX11_angles 61 = .ok (.aload_n 0, 1) := by decide +kernel
theorem dX11_angles_62 : decode cX11_angles 62 = .ok (.iload_n 1, 1) := by decide +kernel
theorem dX11_angles_63 : decode cX11_angles 63 = .ok (.putfield 278, 3) := by decide +kernel
theorem dX11_angles_66 : decode cX11_angles 66 = .ok (.iload_n 2, 1) := by decide +kernel
theorem dX11_angles_67 : decode cX11_angles 67 = .ok (.ireturn, 1) := by decide +kernel
theorem dX11_steady_0 : decode cX11_steady 0 = .ok (.aload_n 0, 1) := by decide +kernel
theorem dX11_steady_1 : decode cX11_steady 1 = .ok (.iconst 0, 1) := by decide +kernel
theorem dX11_steady_2 : decode cX11_steady 2 = .ok (.putfield 95, 3) := by decide +kernel
theorem dX11_steady_5 : decode cX11_steady 5 = .ok (.aload_n 0, 1) := by decide +kernel
theorem dX11_steady_6 : decode cX11_steady 6 = .ok (.getfield 272, 3) := by decide +kernel
theorem dX11_steady_9 : decode cX11_steady 9 = .ok (.ifCond .eq 13, 3) := by decide +kernel
theorem dX11_steady_12 : decode cX11_steady 12 = .ok (.iload_n 1, 1) := by decide +kernel
theorem dX11_steady_13 : decode cX11_steady 13 = .ok (.i2l, 1) := by decide +kernel
theorem dX11_steady_14 : decode cX11_steady 14 = .ok (.lconst 0, 1) := by decide +kernel
theorem dX11_steady_15 : decode cX11_steady 15 = .ok (.lconst 1, 1) := by decide +kernel
theorem dX11_steady_16 : decode cX11_steady 16 = .ok (.invokestatic 219, 3) := by decide +kernel
theorem dX11_steady_19 : decode cX11_steady 19 = .ok (.ifCond .ne 5, 3) := by decide +kernel
theorem dX11_steady_22 : decode cX11_steady 22 = .ok (.iconst (-1), 1) := by decide +kernel
theorem dX11_steady_23 : decode cX11_steady 23 = .ok (.ireturn, 1) := by decide +kernel
theorem dX11_steady_24 : decode cX11_steady 24 = .ok (.aload_n 0, 1) := by decide +kernel
theorem dX11_steady_25 : decode cX11_steady 25 = .ok (.getfield 278, 3) := by decide +kernel
theorem dX11_steady_28 : decode cX11_steady 28 = .ok (.istore_n 2, 1) := by decide +kernel
theorem dX11_steady_29 : decode cX11_steady 29 = .ok (.iconst (-1), 1) := by decide +kernel
theorem dX11_steady_30 : decode cX11_steady 30 = .ok (.istore_n 3, 1) := by decide +kernel
theorem dX11_steady_31 : decode cX11_steady 31 = .ok (.iconst 0, 1) := by decide +kernel
theorem dX11_steady_32 : decode cX11_steady 32 = .ok (.istore 4, 2) := by decide +kernel
theorem dX11_steady_34 : decode cX11_steady 34 = .ok (.iconst 1, 1) := by decide +kernel
theorem dX11_steady_35 : decode cX11_steady 35 = .ok (.istore 5, 2) := by decide +kernel
theorem dX11_steady_37 : decode cX11_steady 37 = .ok (.iconst 2, 1) := by decide +kernel
theorem dX11_steady_38 : decode cX11_steady 38 = .ok (.iload 5, 2) := by decide +kernel
theorem dX11_steady_40 : decode cX11_steady 40 = .ok (.imul, 1) := by decide +kernel
theorem dX11_steady_41 : decode cX11_steady 41 = .ok (.aload_n 0, 1) := by decide +kernel
theorem dX11_steady_42 : decode cX11_steady 42 = .ok (.getfield 272, 3) := by decide +kernel
theorem dX11_steady_45 : decode cX11_steady 45 = .ok (.if_icmp .ge 45, 3) := by decide +kernel
theorem dX11_steady_48 : decode cX11_steady 48 = .ok (.aload_n 0, 1) := by decide +kernel
theorem dX11_steady_49 : decode cX11_steady 49 = .ok (.iload 5, 2) := by decide +kernel
theorem dX11_steady_51 : decode cX11_steady 51 = .ok (.putfield 278, 3) := by decide +kernel
theorem dX11_steady_54 : decode cX11_steady 54 = .ok (.aload_n 0, 1) := by decide +kernel
theorem dX11_steady_55 : decode cX11_steady 55 = .ok (.invokevirtual 326, 3) := by decide +kernel
theorem dX11_steady_58 : decode cX11_steady 58 = .ok (.iload_n 3, 1) := by decide +kernel
theorem dX11_steady_59 : decode cX11_steady 59 = .ok (.iconst (-1), 1) := by decide +kernel
theorem dX11_steady_60 : decode cX11_steady 60 = .ok (.if_icmp .eq 15, 3) := by decide +kernel
theorem dX11_steady_63 : decode cX11_steady 63 = .ok (.aload_n 0, 1) := by decide +kernel
theorem dX11_steady_64 : decode cX11_steady 64 = .ok (.getfield 317, 3) := by decide +kernel
theorem dX11_steady_67 : decode cX11_steady 67 = .ok (.iload 4, 2) := by decide +kernel
theorem dX11_steady_69 : decode cX11_steady 69 = .ok (.if_icmp .gt 6, 3) := by decide +kernel
theorem dX11_steady_72 : decode cX11_steady 72 = .ok (.goto 12, 3) := by decide +kernel
theorem dX11_steady_75 : decode cX11_steady 75 = .ok (.iload 5, 2) := by decide +kernel
theorem dX11_steady_77 : decode cX11_steady 77 = .ok (.istore_n 3, 1) := by decide +kernel
theorem dX11_steady_78 : decode cX11_steady 78 = .ok (.aload_n 0, 1) := by decide +kernel
theorem dX11_steady_79 : decode cX11_steady 79 = .ok (.getfield 317, 3) := by decide +kernel
theorem dX11_steady_82 : decode cX11_steady 82 = .ok (.istore 4, 2) := by decide +kernel
theorem dX11_steady_84 : decode cX11_steady 84 = .ok (.iinc 5 1, 3) := by decide +kernel
theorem dX11_steady_87 : decode cX11_steady 87 = .ok (.goto (-50), 3) := by decide +kernel
theorem dX11_steady_90 : decode cX11_steady 90 = .ok (.aload_n 0, 1) := by decide +kernel
theorem dX11_steady_91 : decode cX11_steady 91 = .ok (.iload_n 2, 1) := by decide +kernel
theorem dX11_steady_92 : decode cX11_steady 92 = .ok (.putfield 278, 3) := by decide +kernel
theorem dX11_steady_95 : decode cX11_steady 95 = .ok (.iload_n 1, 1) := by decide +kernel
theorem dX11_steady_96 : decode cX11_steady 96 = .ok (.ifCond .ne 7, 3) := by decide +kernel
theorem dX11_steady_99 : decode cX11_steady 99 = .ok (.iload_n 3, 1) := by decide +kernel
theorem dX11_steady_100 : decode cX11_steady 100 = .ok (.goto 5, 3) := by decide +kernel
theorem dX11_steady_103 : decode cX11_steady 103 = .ok (.iload 4, 2) := by decide +kernel
theorem dX11_steady_105 : decode cX11_steady 105 = .ok (.ireturn, 1) := by decide +kernel
theorem dX11_goLikely_0 : decode cX11_goLikely 0 = .ok (.iload_n 1, 1) := by decide +kernel
theorem dX11_goLikely_1 : decode cX11_goLikely 1 = .ok (.ifCond .ne 13, 3) := by decide +kernel
theorem dX11_goLikely_4 : decode cX11_goLikely 4 = .ok (.iload_n 2, 1) := by decide +kernel
theorem dX11_goLikely_5 : decode cX11_goLikely 5 = .ok (.ifCond .ne 7, 3) := by decide +kernel
theorem dX11_goLikely_8 : decode cX11_goLikely 8 = .ok (.iload_n 3, 1) := by decide +kernel
theorem dX11_goLikely_9 : decode cX11_goLikely 9 = .ok (.goto 4, 3) := by decide +kernel
theorem dX11_goLikely_12 : decode cX11_goLikely 12 = .ok (.iconst 0, 1) := by decide +kernel
theorem dX11_goLikely_13 : decode cX11_goLikely 13 = .ok (.ireturn, 1) := by decide +kernel
theorem dX11_goLikely_14 : decode cX11_goLikely 14 = .ok (.iload_n 3, 1) := by decide +kernel
theorem dX11_goLikely_15 : decode cX11_goLikely 15 = .ok (.i2l, 1) := by decide +kernel
theorem dX11_goLikely_16 : decode cX11_goLikely 16 = .ok (.iload 4, 2) := by decide +kernel
theorem dX11_goLikely_18 : decode cX11_goLikely 18 = .ok (.i2l, 1) := by decide +kernel
theorem dX11_goLikely_19 : decode cX11_goLikely 19 = .ok (.lmul, 1) := by decide +kernel
theorem dX11_goLikely_20 : decode cX11_goLikely 20 = .ok (.ldc2_w 367, 3) := by decide +kernel
theorem dX11_goLikely_23 : decode cX11_goLikely 23 = .ok (.ldiv, 1) := by decide +kernel
theorem dX11_goLikely_24 : decode cX11_goLikely 24 = .ok (.l2i, 1) := by decide +kernel
theorem dX11_goLikely_25 : decode cX11_goLikely 25 = .ok (.istore 5, 2) := by decide +kernel
theorem dX11_goLikely_27 : decode cX11_goLikely 27 = .ok (.iload_n 1, 1) := by decide +kernel
theorem dX11_goLikely_28 : decode cX11_goLikely 28 = .ok (.iconst 2, 1) := by decide +kernel
theorem dX11_goLikely_29 : decode cX11_goLikely 29 = .ok (.irem, 1) := by decide +kernel
theorem dX11_goLikely_30 : decode cX11_goLikely 30 = .ok (.ifCond .ne 9, 3) := by decide +kernel
theorem dX11_goLikely_33 : decode cX11_goLikely 33 = .ok (.iload_n 2, 1) := by decide +kernel
theorem dX11_goLikely_34 : decode cX11_goLikely 34 = .ok (.iconst 1, 1) := by decide +kernel
theorem dX11_goLikely_35 : decode cX11_goLikely 35 = .ok (.isub, 1) := by decide +kernel
theorem dX11_goLikely_36 : decode cX11_goLikely 36 = .ok (.goto 6, 3) := by decide +kernel
theorem dX11_goLikely_39 : decode cX11_goLikely 39 = .ok (.iload_n 2, 1) := by decide +kernel
theorem dX11_goLikely_40 : decode cX11_goLikely 40 = .ok (.iconst 1, 1) := by decide +kernel
theorem dX11_goLikely_41 : decode cX11_goLikely 41 = .ok (.iadd, 1) := by decide +kernel
theorem dX11_goLikely_42 : decode cX11_goLikely 42 = .ok (.istore 6, 2) := by decide +kernel
theorem dX11_goLikely_44 : decode cX11_goLikely 44 = .ok (.aload_n 0, 1) := by decide +kernel
theorem dX11_goLikely_45 : decode cX11_goLikely 45 = .ok (.iload_n 1, 1) := by decide +kernel
theorem dX11_goLikely_46 : decode cX11_goLikely 46 = .ok (.iconst 1, 1) := by decide +kernel
theorem dX11_goLikely_47 : decode cX11_goLikely 47 = .ok (.isub, 1) := by decide +kernel
theorem dX11_goLikely_48 : decode cX11_goLikely 48 = .ok (.iload 6, 2) := by decide +kernel
theorem dX11_goLikely_50 : decode cX11_goLikely 50 = .ok (.iload 5, 2) := by decide +kernel
theorem dX11_goLikely_52 : decode cX11_goLikely 52 = .ok (.iload 4, 2) := by decide +kernel
theorem dX11_goLikely_54 : decode cX11_goLikely 54 = .ok (.invokevirtual 369, 3) := by decide +kernel
theorem dX11_goLikely_57 : decode cX11_goLikely 57 = .ok (.aload_n 0, 1) := by decide +kernel
theorem dX11_goLikely_58 : decode cX11_goLikely 58 = .ok (.iload_n 1, 1) := by decide +kernel
theorem dX11_goLikely_59 : decode cX11_goLikely 59 = .ok (.iconst 1, 1) := by decide +kernel
theorem dX11_goLikely_60 : decode cX11_goLikely 60 = .ok (.isub, 1) := by decide +kernel
theorem dX11_goLikely_61 : decode cX11_goLikely 61 = .ok (.iload_n 2, 1) := by decide +kernel
theorem dX11_goLikely_62 : decode cX11_goLikely 62 = .ok (.iload_n 3, 1) := by decide +kernel
theorem dX11_goLikely_63 : decode cX11_goLikely 63 = .ok (.iload 5, 2) := by decide +kernel
theorem dX11_goLikely_65 : decode cX11_goLikely 65 = .ok (.isub, 1) := by decide +kernel
theorem dX11_goLikely_66 : decode cX11_goLikely 66 = .ok (.iload 4, 2) := by decide +kernel
theorem dX11_goLikely_68 : decode cX11_goLikely 68 = .ok (.invokevirtual 369, 3) := by decide +kernel
theorem dX11_goLikely_71 : decode cX11_goLikely 71 = .ok (.iadd, 1) := by decide +kernel
theorem dX11_goLikely_72 : decode cX11_goLikely 72 = .ok (.ireturn, 1) := by decide +kernel
theorem dX11_likely_0 : decode cX11_likely 0 = .ok (.aload_n 0, 1) := by decide +kernel
theorem dX11_likely_1 : decode cX11_likely 1 = .ok (.iconst 0, 1) := by decide +kernel
theorem dX11_likely_2 : decode cX11_likely 2 = .ok (.putfield 95, 3) := by decide +kernel
theorem dX11_likely_5 : decode cX11_likely 5 = .ok (.aload_n 0, 1) := by decide +kernel
theorem dX11_likely_6 : decode cX11_likely 6 = .ok (.iload_n 1, 1) := by decide +kernel
theorem dX11_likely_7 : decode cX11_likely 7 = .ok (.invokevirtual 290, 3) := by decide +kernel
theorem dX11_likely_10 : decode cX11_likely 10 = .ok (.ifCond .eq 46, 3) := by decide +kernel
theorem dX11_likely_13 : decode cX11_likely 13 = .ok (.iload_n 2, 1) := by decide +kernel
theorem dX11_likely_14 : decode cX11_likely 14 = .ok (.i2l, 1) := by decide +kernel
theorem dX11_likely_15 : decode cX11_likely 15 = .ok (.lconst 0, 1) := by decide +kernel
theorem dX11_likely_16 : decode cX11_likely 16 = .ok (.ldc2_w 373, 3) := by decide +kernel
theorem dX11_likely_19 : decode cX11_likely 19 = .ok (.invokestatic 219, 3) := by decide +kernel
theorem dX11_likely_22 : decode cX11_likely 22 = .ok (.ifCond .eq 34, 3) := by decide +kernel
theorem dX11_likely_25 : decode cX11_likely 25 = .ok (.iload_n 3, 1) := by decide +kernel
theorem dX11_likely_26 : decode cX11_likely 26 = .ok (.i2l, 1) := by decide +kernel
theorem dX11_likely_27 : decode cX11_likely 27 = .ok (.lconst 0, 1) := by decide +kernel
theorem dX11_likely_28 : decode cX11_likely 28 = .ok (.ldc2_w 367, 3) := by decide +kernel
theorem dX11_likely_31 : decode cX11_likely 31 = .ok (.invokestatic 219, 3) := by decide +kernel
theorem dX11_likely_34 : decode cX11_likely 34 = .ok (.ifCond .eq 22, 3) := by decide +kernel
theorem dX11_likely_37 : decode cX11_likely 37 = .ok (.aload_n 0, 1) := by decide +kernel
theorem dX11_likely_38 : decode cX11_likely 38 = .ok (.iconst 4, 1) := by decide +kernel
theorem dX11_likely_39 : decode cX11_likely 39 = .ok (.iload_n 2, 1) := by decide +kernel
theorem dX11_likely_40 : decode cX11_likely 40 = .ok (.imul, 1) := by decide +kernel
theorem dX11_likely_41 : decode cX11_likely 41 = .ok (.aload_n 0, 1) := by decide +kernel
theorem dX11_likely_42 : decode cX11_likely 42 = .ok (.iload_n 1, 1) := by decide +kernel
theorem dX11_likely_43 : decode cX11_likely 43 = .ok (.invokevirtual 310, 3) := by decide +kernel
theorem dX11_likely_46 : decode cX11_likely 46 = .ok (.ldc_w 375, 3) := by decide +kernel
theorem dX11_likely_49 : decode cX11_likely 49 = .ok (.iload_n 3, 1) := by decide +kernel
theorem dX11_likely_50 : decode cX11_likely 50 = .ok (.invokevirtual 369, 3) := by decide +kernel
theorem dX11_likely_53 : decode cX11_likely 53 = .ok (.goto 4, 3) := by decide +kernel
theorem dX11_likely_56 : decode cX11_likely 56 = .ok (.iconst (-1), 1) := by decide +kernel
theorem dX11_likely_57 : decode cX11_likely 57 = .ok (.ireturn, 1) := by decide +kernel
theorem dX11_jug_0 : decode cX11_jug 0 = .ok (.aload_n 0, 1) := by decide +kernel
theorem dX11_jug_1 : decode cX11_jug 1 = .ok (.iconst 0, 1) := by decide +kernel
theorem dX11_jug_2 : decode cX11_jug 2 = .ok (.putfield 95, 3) := by decide +kernel
theorem dX11_jug_5 : decode cX11_jug 5 = .ok (.aload_n 0, 1) := by decide +kernel
theorem dX11_jug_6 : decode cX11_jug 6 = .ok (.iload_n 1, 1) := by decide +kernel
theorem dX11_jug_7 : decode cX11_jug 7 = .ok (.invokevirtual 290, 3) := by decide +kernel
theorem dX11_jug_10 : decode cX11_jug 10 = .ok (.ifCond .eq 11, 3) := by decide +kernel
theorem dX11_jug_13 : decode cX11_jug 13 = .ok (.aload_n 0, 1) := by decide +kernel
theorem dX11_jug_14 : decode cX11_jug 14 = .ok (.iload_n 2, 1) := by decide +kernel
theorem dX11_jug_15 : decode cX11_jug 15 = .ok (.invokevirtual 293, 3) := by decide +kernel
theorem dX11_jug_18 : decode cX11_jug 18 = .ok (.ifCond .ne 5, 3) := by decide +kernel
theorem dX11_jug_21 : decode cX11_jug 21 = .ok (.iconst (-1), 1) := by decide +kernel
theorem dX11_jug_22 : decode cX11_jug 22 = .ok (.ireturn, 1) := by decide +kernel
theorem dX11_jug_23 : decode cX11_jug 23 = .ok (.aload_n 0, 1) := by decide +kernel
theorem dX11_jug_24 : decode cX11_jug 24 = .ok (.iload_n 1, 1) := by decide +kernel
theorem dX11_jug_25 : decode cX11_jug 25 = .ok (.invokevirtual 310, 3) := by decide +kernel
theorem dX11_jug_28 : decode cX11_jug 28 = .ok (.istore_n 3, 1) := by decide +kernel
theorem dX11_jug_29 : decode cX11_jug 29 = .ok (.iload_n 3, 1) := by decide +kernel
theorem dX11_jug_30 : decode cX11_jug 30 = .ok (.ifCond .ne 6, 3) := by decide +kernel
theorem dX11_jug_33 : decode cX11_jug 33 = .ok (.bipush 15, 2) := by decide +kernel
theorem dX11_jug_35 : decode cX11_jug 35 = .ok (.ireturn, 1) := by decide +kernel
theorem dX11_jug_36 : decode cX11_jug 36 = .ok (.iload_n 3, 1) := by decide +kernel
theorem dX11_jug_37 : decode cX11_jug 37 = .ok (.ifCond .le 19, 3) := by decide +kernel
theorem dX11_jug_40 : decode cX11_jug 40 = .ok (.iconst 5, 1) := by decide +kernel
theorem dX11_jug_41 : decode cX11_jug 41 = .ok (.iload_n 2, 1) := by decide +kernel
theorem dX11_jug_42 : decode cX11_jug 42 = .ok (.iconst 3, 1) := by decide +kernel
theorem dX11_jug_43 : decode cX11_jug 43 = .ok (.if_icmp .ne 8, 3) := by decide +kernel
theorem dX11_jug_46 : decode cX11_jug 46 = .ok (.bipush 8, 2) := by decide +kernel
theorem dX11_jug_48 : decode cX11_jug 48 = .ok (.goto 4, 3) := by decide +kernel
theorem dX11_jug_51 : decode cX11_jug 51 = .ok (.iconst 2, 1) := by decide +kernel
theorem dX11_jug_52 : decode cX11_jug 52 = .ok (.ior, 1) := by decide +kernel
theorem dX11_jug_53 : decode cX11_jug 53 = .ok (.goto 16, 3) := by decide +kernel
theorem dX11_jug_56 : decode cX11_jug 56 = .ok (.bipush 10, 2) := by decide +kernel
theorem dX11_jug_58 : decode cX11_jug 58 = .ok (.iload_n 2, 1) := by decide +kernel
theorem dX11_jug_59 : decode cX11_jug 59 = .ok (.iconst 2, 1) := by decide +kernel
theorem dX11_jug_60 : decode cX11_jug 60 = .ok (.if_icmp .ne 7, 3) := by decide +kernel
theorem dX11_jug_63 : decode cX11_jug 63 = .ok (.iconst 4, 1) := by decide +kernel
theorem dX11_jug_64 : decode cX11_jug 64 = .ok (.goto 4, 3) := by decide +kernel
theorem dX11_jug_67 : decode cX11_jug 67 = .ok (.iconst 1, 1) := by decide +kernel
theorem dX11_jug_68 : decode cX11_jug 68 = .ok (.ior, 1) := by decide +kernel
theorem dX11_jug_69 : decode cX11_jug 69 = .ok (.ireturn, 1) := by decide +kernel
theorem dX11_soup_0 : decode cX11_soup 0 = .ok (.aload_n 0, 1) := by decide +kernel
theorem dX11_soup_1 : decode cX11_soup 1 = .ok (.iconst 0, 1) := by decide +kernel
theorem dX11_soup_2 : decode cX11_soup 2 = .ok (.putfield 95, 3) := by decide +kernel
theorem dX11_soup_5 : decode cX11_soup 5 = .ok (.aload_n 0, 1) := by decide +kernel
theorem dX11_soup_6 : decode cX11_soup 6 = .ok (.getfield 272, 3) := by decide +kernel
theorem dX11_soup_9 : decode cX11_soup 9 = .ok (.ifCond .eq 27, 3) := by decide +kernel
theorem dX11_soup_12 : decode cX11_soup 12 = .ok (.iload_n 1, 1) := by decide +kernel
theorem dX11_soup_13 : decode cX11_soup 13 = .ok (.i2l, 1) := by decide +kernel
theorem dX11_soup_14 : decode cX11_soup 14 = .ok (.lconst 0, 1) := by decide +kernel
theorem dX11_soup_15 : decode cX11_soup 15 = .ok (.ldc2_w 376, 3) := by decide +kernel
theorem dX11_soup_18 : decode cX11_soup 18 = .ok (.invokestatic 219, 3) := by decide +kernel
theorem dX11_soup_21 : decode cX11_soup 21 = .ok (.ifCond .eq 15, 3) := by decide +kernel
theorem dX11_soup_24 : decode cX11_soup 24 = .ok (.iload_n 2, 1) := by decide +kernel
theorem dX11_soup_25 : decode cX11_soup 25 = .ok (.i2l, 1) := by decide +kernel
theorem dX11_soup_26 : decode cX11_soup 26 = .ok (.lconst 0, 1) := by decide +kernel
theorem dX11_soup_27 : decode cX11_soup 27 = .ok (.ldc2_w 376, 3) := by decide +kernel
theorem dX11_soup_30 : decode cX11_soup 30 = .ok (.invokestatic 219, 3) := by decide +kernel
theorem dX11_soup_33 : decode cX11_soup 33 = .ok (.ifCond .ne 5, 3) := by decide +kernel
theorem dX11_soup_36 : decode cX11_soup 36 = .ok (.iconst (-1), 1) := by decide +kernel
theorem dX11_soup_37 : decode cX11_soup 37 = .ok (.ireturn, 1) := by decide +kernel
theorem dX11_soup_38 : decode cX11_soup 38 = .ok (.iconst 0, 1) := by decide +kernel
theorem dX11_soup_39 : decode cX11_soup 39 = .ok (.istore_n 3, 1) := by decide +kernel
theorem dX11_soup_40 : decode cX11_soup 40 = .ok (.iconst 0, 1) := by decide +kernel
theorem dX11_soup_41 : decode cX11_soup 41 = .ok (.istore 4, 2) := by decide +kernel
theorem dX11_soup_43 : decode cX11_soup 43 = .ok (.iload 4, 2) := by decide +kernel
theorem dX11_soup_45 : decode cX11_soup 45 = .ok (.aload_n 0, 1) := by decide +kernel
theorem dX11_soup_46 : decode cX11_soup 46 = .ok (.getfield 272, 3) := by decide +kernel
theorem dX11_soup_49 : decode cX11_soup 49 = .ok (.if_icmp .ge 40, 3) := by decide +kernel
theorem dX11_soup_52 : decode cX11_soup 52 = .ok (.iload_n 3, 1) := by decide +kernel
theorem dX11_soup_53 : decode cX11_soup 53 = .ok (.aload_n 0, 1) := by decide +kernel
theorem dX11_soup_54 : decode cX11_soup 54 = .ok (.iload 4, 2) := by decide +kernel
theorem dX11_soup_56 : decode cX11_soup 56 = .ok (.invokevirtual 310, 3) := by decide +kernel
theorem dX11_soup_59 : decode cX11_soup 59 = .ok (.invokestatic 305, 3) := by decide +kernel
theorem dX11_soup_62 : decode cX11_soup 62 = .ok (.iload_n 1, 1) := by decide +kernel
theorem dX11_soup_63 : decode cX11_soup 63 = .ok (.if_icmp .gt 17, 3) := by decide +kernel
theorem dX11_soup_66 : decode cX11_soup 66 = .ok (.aload_n 0, 1) := by decide +kernel
theorem dX11_soup_67 : decode cX11_soup 67 = .ok (.iload 4, 2) := by decide +kernel
theorem dX11_soup_69 : decode cX11_soup 69 = .ok (.invokevirtual 314, 3) := by decide +kernel
theorem dX11_soup_72 : decode cX11_soup 72 = .ok (.iload_n 2, 1) := by decide +kernel
theorem dX11_soup_73 : decode cX11_soup 73 = .ok (.if_icmp .gt 7, 3) := by decide +kernel
theorem dX11_soup_76 : decode cX11_soup 76 = .ok (.iconst 1, 1) := by decide +kernel
theorem dX11_soup_77 : decode cX11_soup 77 = .ok (.goto 4, 3) := by decide +kernel
theorem dX11_soup_80 : decode cX11_soup 80 = .ok (.iconst 0, 1) := by decide +kernel
theorem dX11_soup_81 : decode cX11_soup 81 = .ok (.iadd, 1) := by decide +kernel
theorem dX11_soup_82 : decode cX11_soup 82 = .ok (.istore_n 3, 1) := by decide +kernel
theorem dX11_soup_83 : decode cX11_soup 83 = .ok (.iinc 4 1, 3) := by decide +kernel
theorem dX11_soup_86 : decode cX11_soup 86 = .ok (.goto (-43), 3) := by decide +kernel
theorem dX11_soup_89 : decode cX11_soup 89 = .ok (.iload_n 3, 1) := by decide +kernel
theorem dX11_soup_90 : decode cX11_soup 90 = .ok (.ireturn, 1) := by decide +kernel
theorem dX11_turningsOf_0 : decode cX11_turningsOf 0 = .ok (.iconst 0, 1) := by decide +kernel
theorem dX11_turningsOf_1 : decode cX11_turningsOf 1 = .ok (.istore_n 2, 1) := by decide +kernel
theorem dX11_turningsOf_2 : decode cX11_turningsOf 2 = .ok (.iconst 0, 1) := by decide +kernel
theorem dX11_turningsOf_3 : decode cX11_turningsOf 3 = .ok (.istore_n 3, 1) := by decide +kernel
theorem dX11_turningsOf_4 : decode cX11_turningsOf 4 = .ok (.iload_n 3, 1) := by decide +kernel
theorem dX11_turningsOf_5 : decode cX11_turningsOf 5 = .ok (.aload_n 0, 1) := by decide +kernel
theorem dX11_turningsOf_6 : decode cX11_turningsOf 6 = .ok (.getfield 272, 3) := by decide +kernel
theorem dX11_turningsOf_9 : decode cX11_turningsOf 9 = .ok (.if_icmp .ge 26, 3) := by decide +kernel
theorem dX11_turningsOf_12 : decode cX11_turningsOf 12 = .ok (.iload_n 2, 1) := by decide +kernel
theorem dX11_turningsOf_13 : decode cX11_turningsOf 13 = .ok (.aload_n 0, 1) := by decide +kernel
theorem dX11_turningsOf_14 : decode cX11_turningsOf 14 = .ok (.iload_n 3, 1) := by decide +kernel
theorem dX11_turningsOf_15 : decode cX11_turningsOf 15 = .ok (.invokevirtual 310, 3) := by decide +kernel
theorem dX11_turningsOf_18 : decode cX11_turningsOf 18 = .ok (.iload_n 1, 1) := by decide +kernel
theorem dX11_turningsOf_19 : decode cX11_turningsOf 19 = .ok (.if_icmp .ne 7, 3) := by decide +kernel
theorem dX11_turningsOf_22 : decode cX11_turningsOf 22 = .ok (.iconst 1, 1) := by decide +kernel
theorem dX11_turningsOf_23 : decode cX11_turningsOf 23 = .ok (.goto 4, 3) := by decide +kernel
theorem dX11_turningsOf_26 : decode cX11_turningsOf 26 = .ok (.iconst 0, 1) := by decide +kernel
theorem dX11_turningsOf_27 : decode cX11_turningsOf 27 = .ok (.iadd, 1) := by decide +kernel
theorem dX11_turningsOf_28 : decode cX11_turningsOf 28 = .ok (.istore_n 2, 1) := by decide +kernel
theorem dX11_turningsOf_29 : decode cX11_turningsOf 29 = .ok (.iinc 3 1, 3) := by decide +kernel
theorem dX11_turningsOf_32 : decode cX11_turningsOf 32 = .ok (.goto (-28), 3) := by decide +kernel
theorem dX11_turningsOf_35 : decode cX11_turningsOf 35 = .ok (.iload_n 2, 1) := by decide +kernel
theorem dX11_turningsOf_36 : decode cX11_turningsOf 36 = .ok (.ireturn, 1) := by decide +kernel
theorem dX11_serves_0 : decode cX11_serves 0 = .ok (.aload_n 0, 1) := by decide +kernel
theorem dX11_serves_1 : decode cX11_serves 1 = .ok (.iconst 0, 1) := by decide +kernel
theorem dX11_serves_2 : decode cX11_serves 2 = .ok (.putfield 95, 3) := by decide +kernel
theorem dX11_serves_5 : decode cX11_serves 5 = .ok (.aload_n 0, 1) := by decide +kernel
theorem dX11_serves_6 : decode cX11_serves 6 = .ok (.getfield 272, 3) := by decide +kernel
theorem dX11_serves_9 : decode cX11_serves 9 = .ok (.ifCond .eq 13, 3) := by decide +kernel
theorem dX11_serves_12 : decode cX11_serves 12 = .ok (.iload_n 1, 1) := by decide +kernel
theorem dX11_serves_13 : decode cX11_serves 13 = .ok (.i2l, 1) := by decide +kernel
theorem dX11_serves_14 : decode cX11_serves 14 = .ok (.lconst 0, 1) := by decide +kernel
theorem dX11_serves_15 : decode cX11_serves 15 = .ok (.lconst 1, 1) := by decide +kernel
theorem dX11_serves_16 : decode cX11_serves 16 = .ok (.invokestatic 219, 3) := by decide +kernel
theorem dX11_serves_19 : decode cX11_serves 19 = .ok (.ifCond .ne 7, 3) := by decide +kernel
theorem dX11_serves_22 : decode cX11_serves 22 = .ok (.ldc_w 313, 3) := by decide +kernel
theorem dX11_serves_25 : decode cX11_serves 25 = .ok (.ireturn, 1) := by decide +kernel
theorem dX11_serves_26 : decode cX11_serves 26 = .ok (.aload_n 0, 1) := by decide +kernel
theorem dX11_serves_27 : decode cX11_serves 27 = .ok (.iconst 0, 1) := by decide +kernel
theorem dX11_serves_28 : decode cX11_serves 28 = .ok (.invokevirtual 310, 3) := by decide +kernel
theorem dX11_serves_31 : decode cX11_serves 31 = .ok (.istore_n 2, 1) := by decide +kernel
theorem dX11_serves_32 : decode cX11_serves 32 = .ok (.iconst 1, 1) := by decide +kernel
theorem dX11_serves_33 : decode cX11_serves 33 = .ok (.istore_n 3, 1) := by decide +kernel
theorem dX11_serves_34 : decode cX11_serves 34 = .ok (.iload_n 3, 1) := by decide +kernel
theorem dX11_serves_35 : decode cX11_serves 35 = .ok (.aload_n 0, 1) := by decide +kernel
theorem dX11_serves_36 : decode cX11_serves 36 = .ok (.getfield 272, 3) := by decide +kernel
theorem dX11_serves_39 : decode cX11_serves 39 = .ok (.if_icmp .ge 85, 3) := by decide +kernel
theorem dX11_serves_42 : decode cX11_serves 42 = .ok (.aload_n 0, 1) := by decide +kernel
theorem dX11_serves_43 : decode cX11_serves 43 = .ok (.iload_n 3, 1) := by decide +kernel
theorem dX11_serves_44 : decode cX11_serves 44 = .ok (.invokevirtual 310, 3) := by decide +kernel
theorem dX11_serves_47 : decode cX11_serves 47 = .ok (.istore 4, 2) := by decide +kernel
theorem dX11_serves_49 : decode cX11_serves 49 = .ok (.aload_n 0, 1) := by decide +kernel
theorem dX11_serves_50 : decode cX11_serves 50 = .ok (.iload 4, 2) := by decide +kernel
theorem dX11_serves_52 : decode cX11_serves 52 = .ok (.invokevirtual 378, 3) := by decide +kernel
theorem dX11_serves_55 : decode cX11_serves 55 = .ok (.aload_n 0, 1) := by decide +kernel
theorem dX11_serves_56 : decode cX11_serves 56 = .ok (.iload_n 2, 1) := by decide +kernel
theorem dX11_serves_57 : decode cX11_serves 57 = .ok (.invokevirtual 378, 3) := by decide +kernel
theorem dX11_serves_60 : decode cX11_serves 60 = .ok (.isub, 1) := by decide +kernel
theorem dX11_serves_61 : decode cX11_serves 61 = .ok (.istore 5, 2) := by decide +kernel
theorem dX11_serves_63 : decode cX11_serves 63 = .ok (.iload 4, 2) := by decide +kernel
theorem dX11_serves_65 : decode cX11_serves 65 = .ok (.invokestatic 305, 3) := by decide +kernel
theorem dX11_serves_68 : decode cX11_serves 68 = .ok (.iload_n 2, 1) := by decide +kernel
theorem dX11_serves_69 : decode cX11_serves 69 = .ok (.invokestatic 305, 3) := by decide +kernel
theorem dX11_serves_72 : decode cX11_serves 72 = .ok (.if_icmp .lt 21, 3) := by decide +kernel
theorem dX11_serves_75 : decode cX11_serves 75 = .ok (.iload 4, 2) := by decide +kernel
theorem dX11_serves_77 : decode cX11_serves 77 = .ok (.invokestatic 305, 3) := by decide +kernel
theorem dX11_serves_80 : decode cX11_serves 80 = .ok (.iload_n 2, 1) := by decide +kernel
theorem dX11_serves_81 : decode cX11_serves 81 = .ok (.invokestatic 305, 3) := by decide +kernel
theorem dX11_serves_84 : decode cX11_serves 84 = .ok (.if_icmp .ne 13, 3) := by decide +kernel
theorem dX11_serves_87 : decode cX11_serves 87 = .ok (.iload 4, 2) := by decide +kernel
theorem dX11_serves_89 : decode cX11_serves 89 = .ok (.iload_n 2, 1) := by decide +kernel
theorem dX11_serves_90 : decode cX11_serves 90 = .ok (.if_icmp .ge 7, 3) := by decide +kernel
theorem dX11_serves_93 : decode cX11_serves 93 = .ok (.iconst 1, 1) := by decide +kernel
theorem dX11_serves_94 : decode cX11_serves 94 = .ok (.goto 4, 3) := by decide +kernel
theorem dX11_serves_97 : decode cX11_serves 97 = .ok (.iconst 0, 1) := by decide +kernel
theorem dX11_serves_98 : decode cX11_serves 98 = .ok (.istore 6, 2) := by decide +kernel
theorem dX11_serves_100 : decode cX11_serves 100 = .ok (.iload 5, 2) := by decide +kernel
theorem dX11_serves_102 : decode cX11_serves 102 = .ok (.ifCond .gt 13, 3) := by decide +kernel
theorem dX11_serves_105 : decode cX11_serves 105 = .ok (.iload 5, 2) := by decide +kernel
theorem dX11_serves_107 : decode cX11_serves 107 = .ok (.ifCond .ne 11, 3) := by decide +kernel
theorem dX11_serves_110 : decode cX11_serves 110 = .ok (.iload 6, 2) := by decide +kernel
theorem dX11_serves_112 : decode cX11_serves 112 = .ok (.ifCond .eq 6, 3) := by decide +kernel
theorem dX11_serves_115 : decode cX11_serves 115 = .ok (.iload 4, 2) := by decide +kernel
theorem dX11_serves_117 : decode cX11_serves 117 = .ok (.istore_n 2, 1) := by decide +kernel
theorem dX11_serves_118 : decode cX11_serves 118 = .ok (.iinc 3 1, 3) := by decide +kernel
theorem dX11_serves_121 : decode cX11_serves 121 = .ok (.goto (-87), 3) := by decide +kernel
theorem dX11_serves_124 : decode cX11_serves 124 = .ok (.iload_n 1, 1) := by decide +kernel
theorem dX11_serves_125 : decode cX11_serves 125 = .ok (.ifCond .ne 7, 3) := by decide +kernel
theorem dX11_serves_128 : decode cX11_serves 128 = .ok (.iload_n 2, 1) := by decide +kernel
theorem dX11_serves_129 : decode cX11_serves 129 = .ok (.goto 8, 3) := by decide +kernel
theorem dX11_serves_132 : decode cX11_serves 132 = .ok (.aload_n 0, 1) := by decide +kernel
theorem dX11_serves_133 : decode cX11_serves 133 = .ok (.iload_n 2, 1) := by decide +kernel
theorem dX11_serves_134 : decode cX11_serves 134 = .ok (.invokevirtual 378, 3) := by decide +kernel
theorem dX11_serves_137 : decode cX11_serves 137 = .ok (.ireturn, 1) := by decide +kernel
theorem dX11_longest_0 : decode cX11_longest 0 = .ok (.iconst 0, 1) := by decide +kernel
theorem dX11_longest_1 : decode cX11_longest 1 = .ok (.istore_n 2, 1) := by decide +kernel
theorem dX11_longest_2 : decode cX11_longest 2 = .ok (.iconst 0, 1) := by decide +kernel
theorem dX11_longest_3 : decode cX11_longest 3 = .ok (.istore_n 3, 1) := by decide +kernel
theorem dX11_longest_4 : decode cX11_longest 4 = .ok (.iload_n 3, 1) := by decide +kernel
theorem dX11_longest_5 : decode cX11_longest 5 = .ok (.aload_n 0, 1) := by decide +kernel
theorem dX11_longest_6 : decode cX11_longest 6 = .ok (.getfield 272, 3) := by decide +kernel
theorem dX11_longest_9 : decode cX11_longest 9 = .ok (.if_icmp .ge 54, 3) := by decide +kernel
theorem dX11_longest_12 : decode cX11_longest 12 = .ok (.iconst 0, 1) := by decide +kernel
theorem dX11_longest_13 : decode cX11_longest 13 = .ok (.istore 4, 2) := by decide +kernel
theorem dX11_longest_15 : decode cX11_longest 15 = .ok (.iload 4, 2) := by decide +kernel
theorem dX11_longest_17 : decode cX11_longest 17 = .ok (.aload_n 0, 1) := by decide +kernel
theorem dX11_longest_18 : decode cX11_longest 18 = .ok (.getfield 272, 3) := by decide +kernel
theorem dX11_longest_21 : decode cX11_longest 21 = .ok (.if_icmp .ge 29, 3) := by decide +kernel
theorem dX11_longest_24 : decode cX11_longest 24 = .ok (.aload_n 0, 1) := by decide +kernel
theorem dX11_longest_25 : decode cX11_longest 25 = .ok (.iload_n 3, 1) := by decide +kernel
theorem dX11_longest_26 : decode cX11_longest 26 = .ok (.iload 4, 2) := by decide +kernel
theorem dX11_longest_28 : decode cX11_longest 28 = .ok (.iadd, 1) := by decide +kernel
theorem dX11_longest_29 : decode cX11_longest 29 = .ok (.aload_n 0, 1) := by decide +kernel
theorem dX11_longest_30 : decode cX11_longest 30 = .ok (.getfield 272, 3) := by decide +kernel
theorem dX11_longest_33 : decode cX11_longest 33 = .ok (.irem, 1) := by decide +kernel
theorem dX11_longest_34 : decode cX11_longest 34 = .ok (.invokevirtual 310, 3) := by decide +kernel
theorem dX11_longest_37 : decode cX11_longest 37 = .ok (.invokestatic 355, 3) := by decide +kernel
theorem dX11_longest_40 : decode cX11_longest 40 = .ok (.iload_n 1, 1) := by decide +kernel
theorem dX11_longest_41 : decode cX11_longest 41 = .ok (.if_icmp .ne 9, 3) := by decide +kernel
theorem dX11_longest_44 : decode cX11_longest 44 = .ok (.iinc 4 1, 3) := by decide +kernel
theorem dX11_longest_47 : decode cX11_longest 47 = .ok (.goto (-32), 3) := by decide +kernel
theorem dX11_longest_50 : decode cX11_longest 50 = .ok (.iload_n 2, 1) := by decide +kernel
theorem dX11_longest_51 : decode cX11_longest 51 = .ok (.iload 4, 2) := by decide +kernel
theorem dX11_longest_53 : decode cX11_longest 53 = .ok (.invokestatic 308, 3) := by decide +kernel
theorem dX11_longest_56 : decode cX11_longest 56 = .ok (.istore_n 2, 1) := by decide +kernel
theorem dX11_longest_57 : decode cX11_longest 57 = .ok (.iinc 3 1, 3) := by decide +kernel
theorem dX11_longest_60 : decode cX11_longest 60 = .ok (.goto (-56), 3) := by decide +kernel
theorem dX11_longest_63 : decode cX11_longest 63 = .ok (.iload_n 2, 1) := by decide +kernel
theorem dX11_longest_64 : decode cX11_longest 64 = .ok (.ireturn, 1) := by decide +kernel
theorem dX11_rocky_0 : decode cX11_rocky 0 = .ok (.aload_n 0, 1) := by decide +kernel
theorem dX11_rocky_1 : decode cX11_rocky 1 = .ok (.iconst 0, 1) := by decide +kernel
theorem dX11_rocky_2 : decode cX11_rocky 2 = .ok (.putfield 95, 3) := by decide +kernel
theorem dX11_rocky_5 : decode cX11_rocky 5 = .ok (.aload_n 0, 1) := by decide +kernel
theorem dX11_rocky_6 : decode cX11_rocky 6 = .ok (.getfield 272, 3) := by decide +kernel
theorem dX11_rocky_9 : decode cX11_rocky 9 = .ok (.ifCond .eq 15, 3) := by decide +kernel
theorem dX11_rocky_12 : decode cX11_rocky 12 = .ok (.iload_n 1, 1) := by decide +kernel
theorem dX11_rocky_13 : decode cX11_rocky 13 = .ok (.i2l, 1) := by decide +kernel
theorem dX11_rocky_14 : decode cX11_rocky 14 = .ok (.lconst 0, 1) := by decide +kernel
theorem dX11_rocky_15 : decode cX11_rocky 15 = .ok (.ldc2_w 324, 3) := by decide +kernel
theorem dX11_rocky_18 : decode cX11_rocky 18 = .ok (.invokestatic 219, 3) := by decide +kernel
theorem dX11_rocky_21 : decode cX11_rocky 21 = .ok (.ifCond .ne 5, 3) := by decide +kernel
theorem dX11_rocky_24 : decode cX11_rocky 24 = .ok (.iconst (-1), 1) := by decide +kernel
theorem dX11_rocky_25 : decode cX11_rocky 25 = .ok (.ireturn, 1) := by decide +kernel
theorem dX11_rocky_26 : decode cX11_rocky 26 = .ok (.iload_n 1, 1) := by decide +kernel
theorem dX11_rocky_27 : decode cX11_rocky 27 = .ok (.ifCond .le 18, 3) := by decide +kernel
theorem dX11_rocky_30 : decode cX11_rocky 30 = .ok (.aload_n 0, 1) := by decide +kernel
theorem dX11_rocky_31 : decode cX11_rocky 31 = .ok (.iload_n 1, 1) := by decide +kernel
theorem dX11_rocky_32 : decode cX11_rocky 32 = .ok (.iconst 1, 1) := by decide +kernel
theorem dX11_rocky_33 : decode cX11_rocky 33 = .ok (.if_icmp .ne 7, 3) := by decide +kernel
theorem dX11_rocky_36 : decode cX11_rocky 36 = .ok (.iconst 1, 1) := by decide +kernel
theorem dX11_rocky_37 : decode cX11_rocky 37 = .ok (.goto 4, 3) := by decide +kernel
theorem dX11_rocky_40 : decode cX11_rocky 40 = .ok (.iconst (-1), 1) := by decide +kernel
theorem dX11_rocky_41 : decode cX11_rocky 41 = .ok (.invokevirtual 381, 3) := by decide +kernel
theorem dX11_rocky_44 : decode cX11_rocky 44 = .ok (.ireturn, 1) := by decide +kernel
theorem dX11_rocky_45 : decode cX11_rocky 45 = .ok (.iconst 0, 1) := by decide +kernel
theorem dX11_rocky_46 : decode cX11_rocky 46 = .ok (.istore_n 2, 1) := by decide +kernel
theorem dX11_rocky_47 : decode cX11_rocky 47 = .ok (.iconst 0, 1) := by decide +kernel
theorem dX11_rocky_48 : decode cX11_rocky 48 = .ok (.istore_n 3, 1) := by decide +kernel
theorem dX11_rocky_49 : decode cX11_rocky 49 = .ok (.iload_n 3, 1) := by decide +kernel
theorem dX11_rocky_50 : decode cX11_rocky 50 = .ok (.aload_n 0, 1) := by decide +kernel
theorem dX11_rocky_51 : decode cX11_rocky 51 = .ok (.getfield 272, 3) := by decide +kernel
theorem dX11_rocky_54 : decode cX11_rocky 54 = .ok (.if_icmp .ge 20, 3) := by decide +kernel
theorem dX11_rocky_57 : decode cX11_rocky 57 = .ok (.iload_n 2, 1) := by decide +kernel
theorem dX11_rocky_58 : decode cX11_rocky 58 = .ok (.aload_n 0, 1) := by decide +kernel
theorem dX11_rocky_59 : decode cX11_rocky 59 = .ok (.iload_n 3, 1) := by decide +kernel
theorem dX11_rocky_60 : decode cX11_rocky 60 = .ok (.invokevirtual 310, 3) := by decide +kernel
theorem dX11_rocky_63 : decode cX11_rocky 63 = .ok (.invokestatic 305, 3) := by decide +kernel
theorem dX11_rocky_66 : decode cX11_rocky 66 = .ok (.iadd, 1) := by decide +kernel
theorem dX11_rocky_67 : decode cX11_rocky 67 = .ok (.istore_n 2, 1) := by decide +kernel
theorem dX11_rocky_68 : decode cX11_rocky 68 = .ok (.iinc 3 1, 3) := by decide +kernel
theorem dX11_rocky_71 : decode cX11_rocky 71 = .ok (.goto (-22), 3) := by decide +kernel
theorem dX11_rocky_74 : decode cX11_rocky 74 = .ok (.iload_n 2, 1) := by decide +kernel
theorem dX11_rocky_75 : decode cX11_rocky 75 = .ok (.ireturn, 1) := by decide +kernel
theorem dX11_cheap_0 : decode cX11_cheap 0 = .ok (.aload_n 0, 1) := by decide +kernel
theorem dX11_cheap_1 : decode cX11_cheap 1 = .ok (.iconst 0, 1) := by decide +kernel
theorem dX11_cheap_2 : decode cX11_cheap 2 = .ok (.putfield 95, 3) := by decide +kernel
theorem dX11_cheap_5 : decode cX11_cheap 5 = .ok (.aload_n 0, 1) := by decide +kernel
theorem dX11_cheap_6 : decode cX11_cheap 6 = .ok (.iload_n 1, 1) := by decide +kernel
theorem dX11_cheap_7 : decode cX11_cheap 7 = .ok (.invokevirtual 290, 3) := by decide +kernel
theorem dX11_cheap_10 : decode cX11_cheap 10 = .ok (.ifCond .eq 38, 3) := by decide +kernel
theorem dX11_cheap_13 : decode cX11_cheap 13 = .ok (.iload_n 2, 1) := by decide +kernel
theorem dX11_cheap_14 : decode cX11_cheap 14 = .ok (.i2l, 1) := by decide +kernel
theorem dX11_cheap_15 : decode cX11_cheap 15 = .ok (.lconst 0, 1) := by decide +kernel
theorem dX11_cheap_16 : decode cX11_cheap 16 = .ok (.ldc2_w 376, 3) := by decide +kernel
theorem dX11_cheap_19 : decode cX11_cheap 19 = .ok (.invokestatic 219, 3) := by decide +kernel
theorem dX11_cheap_22 : decode cX11_cheap 22 = .ok (.ifCond .eq 26, 3) := by decide +kernel
theorem dX11_cheap_25 : decode cX11_cheap 25 = .ok (.iload_n 3, 1) := by decide +kernel
theorem dX11_cheap_26 : decode cX11_cheap 26 = .ok (.i2l, 1) := by decide +kernel
theorem dX11_cheap_27 : decode cX11_cheap 27 = .ok (.lconst 0, 1) := by decide +kernel
theorem dX11_cheap_28 : decode cX11_cheap 28 = .ok (.ldc2_w 376, 3) := by decide +kernel
theorem dX11_cheap_31 : decode cX11_cheap 31 = .ok (.invokestatic 219, 3) := by decide +kernel
theorem dX11_cheap_34 : decode cX11_cheap 34 = .ok (.ifCond .eq 14, 3) := by decide +kernel
theorem dX11_cheap_37 : decode cX11_cheap 37 = .ok (.iload 4, 2) := by decide +kernel
theorem dX11_cheap_39 : decode cX11_cheap 39 = .ok (.i2l, 1) := by decide +kernel
theorem dX11_cheap_40 : decode cX11_cheap 40 = .ok (.lconst 0, 1) := by decide +kernel
theorem dX11_cheap_41 : decode cX11_cheap 41 = .ok (.lconst 1, 1) := by decide +kernel
theorem dX11_cheap_42 : decode cX11_cheap 42 = .ok (.invokestatic 219, 3) := by decide +kernel
theorem dX11_cheap_45 : decode cX11_cheap 45 = .ok (.ifCond .ne 5, 3) := by decide +kernel
theorem dX11_cheap_48 : decode cX11_cheap 48 = .ok (.iconst (-1), 1) := by decide +kernel
theorem dX11_cheap_49 : decode cX11_cheap 49 = .ok (.ireturn, 1) := by decide +kernel
theorem dX11_cheap_50 : decode cX11_cheap 50 = .ok (.iconst (-1), 1) := by decide +kernel
theorem dX11_cheap_51 : decode cX11_cheap 51 = .ok (.istore 5, 2) := by decide +kernel
theorem dX11_cheap_53 : decode cX11_cheap 53 = .ok (.iconst 0, 1) := by decide +kernel
theorem dX11_cheap_54 : decode cX11_cheap 54 = .ok (.istore 6, 2) := by decide +kernel
theorem dX11_cheap_56 : decode cX11_cheap 56 = .ok (.iconst 0, 1) := by decide +kernel
theorem dX11_cheap_57 : decode cX11_cheap 57 = .ok (.istore 7, 2) := by decide +kernel
theorem dX11_cheap_59 : decode cX11_cheap 59 = .ok (.iload 7, 2) := by decide +kernel
theorem dX11_cheap_61 : decode cX11_cheap 61 = .ok (.aload_n 0, 1) := by decide +kernel
theorem dX11_cheap_62 : decode cX11_cheap 62 = .ok (.getfield 272, 3) := by decide +kernel
theorem dX11_cheap_65 : decode cX11_cheap 65 = .ok (.if_icmp .ge 93, 3) := by decide +kernel
theorem dX11_cheap_68 : decode cX11_cheap 68 = .ok (.aload_n 0, 1) := by decide +kernel
theorem dX11_cheap_69 : decode cX11_cheap 69 = .ok (.iconst (-1), 1) := by decide +kernel
theorem dX11_cheap_70 : decode cX11_cheap 70 = .ok (.putfield 349, 3) := by decide +kernel
theorem dX11_cheap_73 : decode cX11_cheap 73 = .ok (.aload_n 0, 1) := by decide +kernel
theorem dX11_cheap_74 : decode cX11_cheap 74 = .ok (.iconst 0, 1) := by decide +kernel
theorem dX11_cheap_75 : decode cX11_cheap 75 = .ok (.aload_n 0, 1) := by decide +kernel
theorem dX11_cheap_76 : decode cX11_cheap 76 = .ok (.iload 7, 2) := by decide +kernel
theorem dX11_cheap_78 : decode cX11_cheap 78 = .ok (.invokevirtual 310, 3) := by decide +kernel
theorem dX11_cheap_81 : decode cX11_cheap 81 = .ok (.iconst 0, 1) := by decide +kernel
theorem dX11_cheap_82 : decode cX11_cheap 82 = .ok (.invokevirtual 352, 3) := by decide +kernel
theorem dX11_cheap_85 : decode cX11_cheap 85 = .ok (.aload_n 0, 1) := by decide +kernel
theorem dX11_cheap_86 : decode cX11_cheap 86 = .ok (.getfield 349, 3) := by decide +kernel
theorem dX11_cheap_89 : decode cX11_cheap 89 = .ok (.iconst (-1), 1) := by decide +kernel
theorem dX11_cheap_90 : decode cX11_cheap 90 = .ok (.if_icmp .ne 6, 3) := by decide +kernel
theorem dX11_cheap_93 : decode cX11_cheap 93 = .ok (.goto 59, 3) := by decide +kernel
theorem dX11_cheap_96 : decode cX11_cheap 96 = .ok (.iload 7, 2) := by decide +kernel
theorem dX11_cheap_98 : decode cX11_cheap 98 = .ok (.iload_n 1, 1) := by decide +kernel
theorem dX11_cheap_99 : decode cX11_cheap 99 = .ok (.isub, 1) := by decide +kernel
theorem dX11_cheap_100 : decode cX11_cheap 100 = .ok (.invokestatic 305, 3) := by decide +kernel
theorem dX11_cheap_103 : decode cX11_cheap 103 = .ok (.istore 8, 2) := by decide +kernel
theorem dX11_cheap_105 : decode cX11_cheap 105 = .ok (.iload_n 2, 1) := by decide +kernel
theorem dX11_cheap_106 : decode cX11_cheap 106 = .ok (.iload 8, 2) := by decide +kernel
theorem dX11_cheap_108 : decode cX11_cheap 108 = .ok (.aload_n 0, 1) := by decide +kernel
theorem dX11_cheap_109 : decode cX11_cheap 109 = .ok (.getfield 272, 3) := by decide +kernel
theorem dX11_cheap_112 : decode cX11_cheap 112 = .ok (.iload 8, 2) := by decide +kernel
theorem dX11_cheap_114 : decode cX11_cheap 114 = .ok (.isub, 1) := by decide +kernel
theorem dX11_cheap_115 : decode cX11_cheap 115 = .ok (.invokestatic 384, 3) := by decide +kernel
theorem dX11_cheap_118 : decode cX11_cheap 118 = .ok (.imul, 1) := by decide +kernel
theorem dX11_cheap_119 : decode cX11_cheap 119 = .ok (.iload_n 3, 1) := by decide +kernel
theorem dX11_cheap_120 : decode cX11_cheap 120 = .ok (.aload_n 0, 1) := by decide +kernel
theorem dX11_cheap_121 : decode cX11_cheap 121 = .ok (.getfield 349, 3) := by decide +kernel
theorem dX11_cheap_124 : decode cX11_cheap 124 = .ok (.imul, 1) := by decide +kernel
theorem dX11_cheap_125 : decode cX11_cheap 125 = .ok (.iadd, 1) := by decide +kernel
theorem dX11_cheap_126 : decode cX11_cheap 126 = .ok (.istore 9, 2) := by decide +kernel
theorem dX11_cheap_128 : decode cX11_cheap 128 = .ok (.iload 5, 2) := by decide +kernel
theorem dX11_cheap_130 : decode cX11_cheap 130 = .ok (.iconst (-1), 1) := by decide +kernel
theorem dX11_cheap_131 : decode cX11_cheap 131 = .ok (.if_icmp .eq 13, 3) := by decide +kernel
theorem dX11_cheap_134 : decode cX11_cheap 134 = .ok (.iload 9, 2) := by decide +kernel
theorem dX11_cheap_136 : decode cX11_cheap 136 = .ok (.iload 6, 2) := by decide +kernel
theorem dX11_cheap_138 : decode cX11_cheap 138 = .ok (.if_icmp .lt 6, 3) := by decide +kernel
theorem dX11_cheap_141 : decode cX11_cheap 141 = .ok (.goto 11, 3) := by decide +kernel
theorem dX11_cheap_144 : decode cX11_cheap 144 = .ok (.iload 7, 2) := by decide +kernel
theorem dX11_cheap_146 : decode cX11_cheap 146 = .ok (.istore 5, 2) := by decide +kernel
theorem dX11_cheap_148 : decode cX11_cheap 148 = .ok (.iload 9, 2) := by decide +kernel
theorem dX11_cheap_150 : decode cX11_cheap 150 = .ok (.istore 6, 2) := by decide +kernel
theorem dX11_cheap_152 : decode cX11_cheap 152 = .ok (.iinc 7 1, 3) := by decide +kernel
theorem dX11_cheap_155 : decode cX11_cheap 155 = .ok (.goto (-96), 3) := by decide +kernel
theorem dX11_cheap_158 : decode cX11_cheap 158 = .ok (.iload 5, 2) := by decide +kernel
theorem dX11_cheap_160 : decode cX11_cheap 160 = .ok (.iconst (-1), 1) := by decide +kernel
theorem dX11_cheap_161 : decode cX11_cheap 161 = .ok (.if_icmp .ne 7, 3) := by decide +kernel
theorem dX11_cheap_164 : decode cX11_cheap 164 = .ok (.iconst (-1), 1) := by decide +kernel
theorem dX11_cheap_165 : decode cX11_cheap 165 = .ok (.goto 15, 3) := by decide +kernel
theorem dX11_cheap_168 : decode cX11_cheap 168 = .ok (.iload 4, 2) := by decide +kernel
theorem dX11_cheap_170 : decode cX11_cheap 170 = .ok (.ifCond .ne 8, 3) := by decide +kernel
theorem dX11_cheap_173 : decode cX11_cheap 173 = .ok (.iload 5, 2) := by decide +kernel
theorem dX11_cheap_175 : decode cX11_cheap 175 = .ok (.goto 5, 3) := by decide +kernel
theorem dX11_cheap_178 : decode cX11_cheap 178 = .ok (.iload 6, 2) := by decide +kernel
theorem dX11_cheap_180 : decode cX11_cheap 180 = .ok (.ireturn, 1) := by decide +kernel
theorem dX11_pilesFrom_0 : decode cX11_pilesFrom 0 = .ok (.iload_n 1, 1) := by decide +kernel
theorem dX11_pilesFrom_1 : decode cX11_pilesFrom 1 = .ok (.aload_n 0, 1) := by decide +kernel
theorem dX11_pilesFrom_2 : decode cX11_pilesFrom 2 = .ok (.getfield 275, 3) := by decide +kernel
theorem dX11_pilesFrom_5 : decode cX11_pilesFrom 5 = .ok (.if_icmp .ne 13, 3) := by decide +kernel
theorem dX11_pilesFrom_8 : decode cX11_pilesFrom 8 = .ok (.iload_n 2, 1) := by decide +kernel
theorem dX11_pilesFrom_9 : decode cX11_pilesFrom 9 = .ok (.ifCond .ne 7, 3) := by decide +kernel
theorem dX11_pilesFrom_12 : decode cX11_pilesFrom 12 = .ok (.iconst 1, 1) := by decide +kernel
theorem dX11_pilesFrom_13 : decode cX11_pilesFrom 13 = .ok (.goto 4, 3) := by decide +kernel
theorem dX11_pilesFrom_16 : decode cX11_pilesFrom 16 = .ok (.iconst 0, 1) := by decide +kernel
theorem dX11_pilesFrom_17 : decode cX11_pilesFrom 17 = .ok (.ireturn, 1) := by decide +kernel
theorem dX11_pilesFrom_18 : decode cX11_pilesFrom 18 = .ok (.iconst 0, 1) := by decide +kernel
theorem dX11_pilesFrom_19 : decode cX11_pilesFrom 19 = .ok (.istore_n 3, 1) := by decide +kernel
theorem dX11_pilesFrom_20 : decode cX11_pilesFrom 20 = .ok (.aload_n 0, 1) := by decide +kernel
theorem dX11_pilesFrom_21 : decode cX11_pilesFrom 21 = .ok (.getfield 49, 3) := by decide +kernel
theorem dX11_pilesFrom_24 : decode cX11_pilesFrom 24 = .ok (.iconst 2, 1) := by decide +kernel
theorem dX11_pilesFrom_25 : decode cX11_pilesFrom 25 = .ok (.iload_n 1, 1) := by decide +kernel
theorem dX11_pilesFrom_26 : decode cX11_pilesFrom 26 = .ok (.imul, 1) := by decide +kernel
theorem dX11_pilesFrom_27 : decode cX11_pilesFrom 27 = .ok (.iconst 1, 1) := by decide +kernel
theorem dX11_pilesFrom_28 : decode cX11_pilesFrom 28 = .ok (.iadd, 1) := by decide +kernel
theorem dX11_pilesFrom_29 : decode cX11_pilesFrom 29 = .ok (.iaload, 1) := by decide +kernel
theorem dX11_pilesFrom_30 : decode cX11_pilesFrom 30 = .ok (.ineg, 1) := by decide +kernel
theorem dX11_pilesFrom_31 : decode cX11_pilesFrom 31 = .ok (.istore 4, 2) := by decide +kernel
theorem dX11_pilesFrom_33 : decode cX11_pilesFrom 33 = .ok (.iload 4, 2) := by decide +kernel
theorem dX11_pilesFrom_35 : decode cX11_pilesFrom 35 = .ok (.aload_n 0, 1) := by decide +kernel
theorem dX11_pilesFrom_36 : decode cX11_pilesFrom 36 = .ok (.getfield 49, 3) := by decide +kernel
theorem dX11_pilesFrom_39 : decode cX11_pilesFrom 39 = .ok (.iconst 2, 1) := by decide +kernel
theorem dX11_pilesFrom_40 : decode cX11_pilesFrom 40 = .ok (.iload_n 1, 1) := by decide +kernel
theorem dX11_pilesFrom_41 : decode cX11_pilesFrom 41 = .ok (.imul, 1) := by decide +kernel
theorem dX11_pilesFrom_42 : decode cX11_pilesFrom 42 = .ok (.iconst 1, 1) := by decide +kernel
theorem dX11_pilesFrom_43 : decode cX11_pilesFrom 43 = .ok (.iadd, 1) := by decide +kernel
theorem dX11_pilesFrom_44 : decode cX11_pilesFrom 44 = .ok (.iaload, 1) := by decide +kernel
theorem dX11_pilesFrom_45 : decode cX11_pilesFrom 45 = .ok (.if_icmp .gt 32, 3) := by decide +kernel
theorem dX11_pilesFrom_48 : decode cX11_pilesFrom 48 = .ok (.iload_n 3, 1) := by decide +kernel
theorem dX11_pilesFrom_49 : decode cX11_pilesFrom 49 = .ok (.aload_n 0, 1) := by decide +kernel
theorem dX11_pilesFrom_50 : decode cX11_pilesFrom 50 = .ok (.iload_n 1, 1) := by decide +kernel
theorem dX11_pilesFrom_51 : decode cX11_pilesFrom 51 = .ok (.iconst 1, 1) := by decide +kernel
theorem dX11_pilesFrom_52 : decode cX11_pilesFrom 52 = .ok (.iadd, 1) := by decide +kernel
theorem dX11_pilesFrom_53 : decode cX11_pilesFrom 53 = .ok (.iload_n 2, 1) := by decide +kernel
theorem dX11_pilesFrom_54 : decode cX11_pilesFrom 54 = .ok (.iload 4, 2) := by decide +kernel
theorem dX11_pilesFrom_56 : decode cX11_pilesFrom 56 = .ok (.aload_n 0, 1) := by decide +kernel
theorem dX11_pilesFrom_57 : decode cX11_pilesFrom 57 = .ok (.getfield 49, 3) := by decide +kernel
theorem dX11_pilesFrom_60 : decode cX11_pilesFrom 60 = .ok (.iconst 2, 1) := by decide +kernel
theorem dX11_pilesFrom_61 : decode cX11_pilesFrom 61 = .ok (.iload_n 1, 1) := by decide +kernel
theorem dX11_pilesFrom_62 : decode cX11_pilesFrom 62 = .ok (.imul, 1) := by decide +kernel
theorem dX11_pilesFrom_63 : decode cX11_pilesFrom 63 = .ok (.iaload, 1) := by decide +kernel
theorem dX11_pilesFrom_64 : decode cX11_pilesFrom 64 = .ok (.imul, 1) := by decide +kernel
theorem dX11_pilesFrom_65 : decode cX11_pilesFrom 65 = .ok (.iadd, 1) := by decide +kernel
theorem dX11_pilesFrom_66 : decode cX11_pilesFrom 66 = .ok (.invokevirtual 386, 3) := by decide +kernel
theorem dX11_pilesFrom_69 : decode cX11_pilesFrom 69 = .ok (.iadd, 1) := by decide +kernel
theorem dX11_pilesFrom_70 : decode cX11_pilesFrom 70 = .ok (.istore_n 3, 1) := by decide +kernel
theorem dX11_pilesFrom_71 : decode cX11_pilesFrom 71 = .ok (.iinc 4 1, 3) := by decide +kernel
theorem dX11_pilesFrom_74 : decode cX11_pilesFrom 74 = .ok (.goto (-41), 3) := by decide +kernel
theorem dX11_pilesFrom_77 : decode cX11_pilesFrom 77 = .ok (.iload_n 3, 1) := by decide +kernel
theorem dX11_pilesFrom_78 : decode cX11_pilesFrom 78 = .ok (.ireturn, 1) := by decide +kernel
theorem dX11_piles_0 : decode cX11_piles 0 = .ok (.aload_n 0, 1) := by decide +kernel
theorem dX11_piles_1 : decode cX11_piles 1 = .ok (.iconst 0, 1) := by decide +kernel
theorem dX11_piles_2 : decode cX11_piles 2 = .ok (.putfield 95, 3) := by decide +kernel
theorem dX11_piles_5 : decode cX11_piles 5 = .ok (.aload_n 0, 1) := by decide +kernel
theorem dX11_piles_6 : decode cX11_piles 6 = .ok (.iload_n 1, 1) := by decide +kernel
theorem dX11_piles_7 : decode cX11_piles 7 = .ok (.invokevirtual 290, 3) := by decide +kernel
theorem dX11_piles_10 : decode cX11_piles 10 = .ok (.ifCond .eq 16, 3) := by decide +kernel
theorem dX11_piles_13 : decode cX11_piles 13 = .ok (.aload_n 0, 1) := by decide +kernel
theorem dX11_piles_14 : decode cX11_piles 14 = .ok (.iconst 0, 1) := by decide +kernel
theorem dX11_piles_15 : decode cX11_piles 15 = .ok (.aload_n 0, 1) := by decide +kernel
theorem dX11_piles_16 : decode cX11_piles 16 = .ok (.iload_n 1, 1) := by decide +kernel
theorem dX11_piles_17 : decode cX11_piles 17 = .ok (.invokevirtual 310, 3) := by decide +kernel
theorem dX11_piles_20 : decode cX11_piles 20 = .ok (.invokevirtual 386, 3) := by decide +kernel
theorem dX11_piles_23 : decode cX11_piles 23 = .ok (.goto 4, 3) := by decide +kernel
theorem dX11_piles_26 : decode cX11_piles 26 = .ok (.iconst (-1), 1) := by decide +kernel
