theorem dJ11_isValidCodePoint_9a6ad_0 : decode cJ11_isValidCodePoint_9a6ad 0 = .ok (.iload_n 0, 1) := by decide +kernel
theorem dJ11_isValidCodePoint_9a6ad_1 : decode cJ11_isValidCodePoint_9a6ad 1 = .ok (.bipush 16, 2) := by decide +kernel
theorem dJ11_isValidCodePoint_9a6ad_3 : decode cJ11_isValidCodePoint_9a6ad 3 = .ok (.iushr, 1) := by decide +kernel
theorem dJ11_isValidCodePoint_9a6ad_4 : decode cJ11_isValidCodePoint_9a6ad 4 = .ok (.istore_n 1, 1) := by decide +kernel
theorem dJ11_isValidCodePoint_9a6ad_5 : decode cJ11_isValidCodePoint_9a6ad 5 = .ok (.iload_n 1, 1) := by decide +kernel
theorem dJ11_isValidCodePoint_9a6ad_6 : decode cJ11_isValidCodePoint_9a6ad 6 = .ok (.bipush 17, 2) := by decide +kernel
theorem dJ11_isValidCodePoint_9a6ad_8 : decode cJ11_isValidCodePoint_9a6ad 8 = .ok (.if_icmp .ge 7, 3) := by decide +kernel
theorem dJ11_isValidCodePoint_9a6ad_11 : decode cJ11_isValidCodePoint_9a6ad 11 = .ok (.iconst 1, 1) := by decide +kernel
theorem dJ11_isValidCodePoint_9a6ad_12 : decode cJ11_isValidCodePoint_9a6ad 12 = .ok (.goto 4, 3) := by decide +kernel
theorem dJ11_isValidCodePoint_9a6ad_15 : decode cJ11_isValidCodePoint_9a6ad 15 = .ok (.iconst 0, 1) := by decide +kernel
theorem dJ11_isValidCodePoint_9a6ad_16 : decode cJ11_isValidCodePoint_9a6ad 16 = .ok (.ireturn, 1) := by decide +kernel
theorem dJ11_highSurrogate_5068e_0 : decode cJ11_highSurrogate_5068e 0 = .ok (.iload_n 0, 1) := by decide +kernel
theorem dJ11_highSurrogate_5068e_1 : decode cJ11_highSurrogate_5068e 1 = .ok (.bipush 10, 2) := by decide +kernel
theorem dJ11_highSurrogate_5068e_3 : decode cJ11_highSurrogate_5068e 3 = .ok (.iushr, 1) := by decide +kernel
theorem dJ11_highSurrogate_5068e_4 : decode cJ11_highSurrogate_5068e 4 = .ok (.ldc 110, 2) := by decide +kernel
theorem dJ11_highSurrogate_5068e_6 : decode cJ11_highSurrogate_5068e 6 = .ok (.iadd, 1) := by decide +kernel
theorem dJ11_highSurrogate_5068e_7 : decode cJ11_highSurrogate_5068e 7 = .ok (.i2c, 1) := by decide +kernel
theorem dJ11_highSurrogate_5068e_8 : decode cJ11_highSurrogate_5068e 8 = .ok (.ireturn, 1) := by decide +kernel
theorem dJ11_lowSurrogate_5068e_0 : decode cJ11_lowSurrogate_5068e 0 = .ok (.iload_n 0, 1) := by decide +kernel
theorem dJ11_lowSurrogate_5068e_1 : decode cJ11_lowSurrogate_5068e 1 = .ok (.sipush 1023, 3) := by decide +kernel
theorem dJ11_lowSurrogate_5068e_4 : decode cJ11_lowSurrogate_5068e 4 = .ok (.iand, 1) := by decide +kernel
theorem dJ11_lowSurrogate_5068e_5 : decode cJ11_lowSurrogate_5068e 5 = .ok (.ldc 76, 2) := by decide +kernel
theorem dJ11_lowSurrogate_5068e_7 : decode cJ11_lowSurrogate_5068e 7 = .ok (.iadd, 1) := by decide +kernel
theorem dJ11_lowSurrogate_5068e_8 : decode cJ11_lowSurrogate_5068e 8 = .ok (.i2c, 1) := by decide +kernel
theorem dJ11_lowSurrogate_5068e_9 : decode cJ11_lowSurrogate_5068e 9 = .ok (.ireturn, 1) := by decide +kernel
theorem dJ6_signum_0f7a4_0 : decode cJ6_signum_0f7a4 0 = .ok (.iload_n 0, 1) := by decide +kernel
theorem dJ6_signum_0f7a4_1 : decode cJ6_signum_0f7a4 1 = .ok (.bipush 31, 2) := by decide +kernel
theorem dJ6_signum_0f7a4_3 : decode cJ6_signum_0f7a4 3 = .ok (.ishr, 1) := by decide +kernel
theorem dJ6_signum_0f7a4_4 : decode cJ6_signum_0f7a4 4 = .ok (.iload_n 0, 1) := by decide +kernel
theorem dJ6_signum_0f7a4_5 : decode cJ6_signum_0f7a4 5 = .ok (.ineg, 1) := by decide +kernel
theorem dJ6_signum_0f7a4_6 : decode cJ6_signum_0f7a4 6 = .ok (.bipush 31, 2) := by decide +kernel
theorem dJ6_signum_0f7a4_8 : decode cJ6_signum_0f7a4 8 = .ok (.iushr, 1) := by decide +kernel
theorem dJ6_signum_0f7a4_9 : decode cJ6_signum_0f7a4 9 = .ok (.ior, 1) := by decide +kernel
theorem dJ6_signum_0f7a4_10 : decode cJ6_signum_0f7a4 10 = .ok (.ireturn, 1) := by decide +kernel
theorem dJ9_abs_0f7a4_0 : decode cJ9_abs_0f7a4 0 = .ok (.iload_n 0, 1) := by decide +kernel
theorem dJ9_abs_0f7a4_1 : decode cJ9_abs_0f7a4 1 = .ok (.ifCond .ge 8, 3) := by decide +kernel
theorem dJ9_abs_0f7a4_4 : decode cJ9_abs_0f7a4 4 = .ok (.iload_n 0, 1) := by decide +kernel
theorem dJ9_abs_0f7a4_5 : decode cJ9_abs_0f7a4 5 = .ok (.ineg, 1) := by decide +kernel
theorem dJ9_abs_0f7a4_6 : decode cJ9_abs_0f7a4 6 = .ok (.goto 4, 3) := by decide +kernel
theorem dJ9_abs_0f7a4_9 : decode cJ9_abs_0f7a4 9 = .ok (.iload_n 0, 1) := by decide +kernel
theorem dJ9_abs_0f7a4_10 : decode cJ9_abs_0f7a4 10 = .ok (.ireturn, 1) := by decide +kernel
theorem dJ9_abs_067f4_0 : decode cJ9_abs_067f4 0 = .ok (.lload_n 0, 1) := by decide +kernel
theorem dJ9_abs_067f4_1 : decode cJ9_abs_067f4 1 = .ok (.lconst 0, 1) := by decide +kernel
theorem dJ9_abs_067f4_2 : decode cJ9_abs_067f4 2 = .ok (.lcmp, 1) := by decide +kernel
theorem dJ9_abs_067f4_3 : decode cJ9_abs_067f4 3 = .ok (.ifCond .ge 8, 3) := by decide +kernel
theorem dJ9_abs_067f4_6 : decode cJ9_abs_067f4 6 = .ok (.lload_n 0, 1) := by decide +kernel
theorem dJ9_abs_067f4_7 : decode cJ9_abs_067f4 7 = .ok (.lneg, 1) := by decide +kernel
theorem dJ9_abs_067f4_8 : decode cJ9_abs_067f4 8 = .ok (.goto 4, 3) := by decide +kernel
theorem dJ9_abs_067f4_11 : decode cJ9_abs_067f4 11 = .ok (.lload_n 0, 1) := by decide +kernel
theorem dJ9_abs_067f4_12 : decode cJ9_abs_067f4 12 = .ok (.lreturn, 1) := by decide +kernel
theorem dJ9_max_7cf53_0 : decode cJ9_max_7cf53 0 = .ok (.iload_n 0, 1) := by decide +kernel
theorem dJ9_max_7cf53_1 : decode cJ9_max_7cf53 1 = .ok (.iload_n 1, 1) := by decide +kernel
theorem dJ9_max_7cf53_2 : decode cJ9_max_7cf53 2 = .ok (.if_icmp .lt 7, 3) := by decide +kernel
theorem dJ9_max_7cf53_5 : decode cJ9_max_7cf53 5 = .ok (.iload_n 0, 1) := by decide +kernel
theorem dJ9_max_7cf53_6 : decode cJ9_max_7cf53 6 = .ok (.goto 4, 3) := by decide +kernel
theorem dJ9_max_7cf53_9 : decode cJ9_max_7cf53 9 = .ok (.iload_n 1, 1) := by decide +kernel
theorem dJ9_max_7cf53_10 : decode cJ9_max_7cf53 10 = .ok (.ireturn, 1) := by decide +kernel
theorem dJ9_max_f86c9_0 : decode cJ9_max_f86c9 0 = .ok (.lload_n 0, 1) := by decide +kernel
theorem dJ9_max_f86c9_1 : decode cJ9_max_f86c9 1 = .ok (.lload_n 2, 1) := by decide +kernel
theorem dJ9_max_f86c9_2 : decode cJ9_max_f86c9 2 = .ok (.lcmp, 1) := by decide +kernel
theorem dJ9_max_f86c9_3 : decode cJ9_max_f86c9 3 = .ok (.ifCond .lt 7, 3) := by decide +kernel
theorem dJ9_max_f86c9_6 : decode cJ9_max_f86c9 6 = .ok (.lload_n 0, 1) := by decide +kernel
theorem dJ9_max_f86c9_7 : decode cJ9_max_f86c9 7 = .ok (.goto 4, 3) := by decide +kernel
theorem dJ9_max_f86c9_10 : decode cJ9_max_f86c9 10 = .ok (.lload_n 2, 1) := by decide +kernel
theorem dJ9_max_f86c9_11 : decode cJ9_max_f86c9 11 = .ok (.lreturn, 1) := by decide +kernel
theorem dJ9_min_7cf53_0 : decode cJ9_min_7cf53 0 = .ok (.iload_n 0, 1) := by decide +kernel
theorem dJ9_min_7cf53_1 : decode cJ9_min_7cf53 1 = .ok (.iload_n 1, 1) := by decide +kernel
theorem dJ9_min_7cf53_2 : decode cJ9_min_7cf53 2 = .ok (.if_icmp .gt 7, 3) := by decide +kernel
theorem dJ9_min_7cf53_5 : decode cJ9_min_7cf53 5 = .ok (.iload_n 0, 1) := by decide +kernel
theorem dJ9_min_7cf53_6 : decode cJ9_min_7cf53 6 = .ok (.goto 4, 3) := by decide +kernel
theorem dJ9_min_7cf53_9 : decode cJ9_min_7cf53 9 = .ok (.iload_n 1, 1) := by decide +kernel
theorem dJ9_min_7cf53_10 : decode cJ9_min_7cf53 10 = .ok (.ireturn, 1) := by decide +kernel
theorem dJ9_min_f86c9_0 : decode cJ9_min_f86c9 0 = .ok (.lload_n 0, 1) := by decide +kernel
theorem dJ9_min_f86c9_1 : decode cJ9_min_f86c9 1 = .ok (.lload_n 2, 1) := by decide +kernel
theorem dJ9_min_f86c9_2 : decode cJ9_min_f86c9 2 = .ok (.lcmp, 1) := by decide +kernel
theorem dJ9_min_f86c9_3 : decode cJ9_min_f86c9 3 = .ok (.ifCond .gt 7, 3) := by decide +kernel
theorem dJ9_min_f86c9_6 : decode cJ9_min_f86c9 6 = .ok (.lload_n 0, 1) := by decide +kernel
theorem dJ9_min_f86c9_7 : decode cJ9_min_f86c9 7 = .ok (.goto 4, 3) := by decide +kernel
theorem dJ9_min_f86c9_10 : decode cJ9_min_f86c9 10 = .ok (.lload_n 2, 1) := by decide +kernel
theorem dJ9_min_f86c9_11 : decode cJ9_min_f86c9 11 = .ok (.lreturn, 1) := by decide +kernel
theorem dJ0_length_8abf5_0 : decode cJ0_length_8abf5 0 = .ok (.aload_n 0, 1) := by decide +kernel
theorem dJ0_length_8abf5_1 : decode cJ0_length_8abf5 1 = .ok (.getfield 9, 3) := by decide +kernel
theorem dJ0_length_8abf5_4 : decode cJ0_length_8abf5 4 = .ok (.arraylength, 1) := by decide +kernel
theorem dJ0_length_8abf5_5 : decode cJ0_length_8abf5 5 = .ok (.aload_n 0, 1) := by decide +kernel
theorem dJ0_length_8abf5_6 : decode cJ0_length_8abf5 6 = .ok (.invokevirtual 335, 3) := by decide +kernel
theorem dJ0_length_8abf5_9 : decode cJ0_length_8abf5 9 = .ok (.ishr, 1) := by decide +kernel
theorem dJ0_length_8abf5_10 : decode cJ0_length_8abf5 10 = .ok (.ireturn, 1) := by decide +kernel
theorem dJ0_charAt_5068e_0 : decode cJ0_charAt_5068e 0 = .ok (.aload_n 0, 1) := by decide +kernel
theorem dJ0_charAt_5068e_1 : decode cJ0_charAt_5068e 1 = .ok (.invokevirtual 492, 3) := by decide +kernel
theorem dJ0_charAt_5068e_4 : decode cJ0_charAt_5068e 4 = .ok (.ifCond .eq 12, 3) := by decide +kernel
theorem dJ0_charAt_5068e_7 : decode cJ0_charAt_5068e 7 = .ok (.aload_n 0, 1) := by decide +kernel
theorem dJ0_charAt_5068e_8 : decode cJ0_charAt_5068e 8 = .ok (.getfield 9, 3) := by decide +kernel
theorem dJ0_charAt_5068e_11 : decode cJ0_charAt_5068e 11 = .ok (.iload_n 1, 1) := by decide +kernel
theorem dJ0_charAt_5068e_12 : decode cJ0_charAt_5068e 12 = .ok (.invokestatic 495, 3) := by decide +kernel
theorem dJ0_charAt_5068e_15 : decode cJ0_charAt_5068e 15 = .ok (.ireturn, 1) := by decide +kernel
theorem dJ0_charAt_5068e_16 : decode cJ0_charAt_5068e 16 = .ok (.aload_n 0, 1) := by decide +kernel
theorem dJ0_charAt_5068e_17 : decode cJ0_charAt_5068e 17 = .ok (.getfield 9, 3) := by decide +kernel
theorem dJ0_charAt_5068e_20 : decode cJ0_charAt_5068e 20 = .ok (.iload_n 1, 1) := by decide +kernel
theorem dJ0_charAt_5068e_21 : decode cJ0_charAt_5068e 21 = .ok (.invokestatic 498, 3) := by decide +kernel
theorem dJ0_charAt_5068e_24 : decode cJ0_charAt_5068e 24 = .ok (.ireturn, 1) := by decide +kernel
theorem dJ0_indexOf_0f7a4_0 : decode cJ0_indexOf_0f7a4 0 = .ok (.aload_n 0, 1) := by decide +kernel
theorem dJ0_indexOf_0f7a4_1 : decode cJ0_indexOf_0f7a4 1 = .ok (.iload_n 1, 1) := by decide +kernel
theorem dJ0_indexOf_0f7a4_2 : decode cJ0_indexOf_0f7a4 2 = .ok (.iconst 0, 1) := by decide +kernel
theorem dJ0_indexOf_0f7a4_3 : decode cJ0_indexOf_0f7a4 3 = .ok (.invokevirtual 633, 3) := by decide +kernel
theorem dJ0_indexOf_0f7a4_6 : decode cJ0_indexOf_0f7a4 6 = .ok (.ireturn, 1) := by decide +kernel
theorem dJ0_indexOf_7cf53_0 : decode cJ0_indexOf_7cf53 0 = .ok (.aload_n 0, 1) := by decide +kernel
theorem dJ0_indexOf_7cf53_1 : decode cJ0_indexOf_7cf53 1 = .ok (.invokevirtual 492, 3) := by decide +kernel
theorem dJ0_indexOf_7cf53_4 : decode cJ0_indexOf_7cf53 4 = .ok (.ifCond .eq 19, 3) := by decide +kernel
theorem dJ0_indexOf_7cf53_7 : decode cJ0_indexOf_7cf53 7 = .ok (.aload_n 0, 1) := by decide +kernel
theorem dJ0_indexOf_7cf53_8 : decode cJ0_indexOf_7cf53 8 = .ok (.getfield 9, 3) := by decide +kernel
theorem dJ0_indexOf_7cf53_11 : decode cJ0_indexOf_7cf53 11 = .ok (.iload_n 1, 1) := by decide +kernel
theorem dJ0_indexOf_7cf53_12 : decode cJ0_indexOf_7cf53 12 = .ok (.iload_n 2, 1) := by decide +kernel
theorem dJ0_indexOf_7cf53_13 : decode cJ0_indexOf_7cf53 13 = .ok (.aload_n 0, 1) := by decide +kernel
theorem dJ0_indexOf_7cf53_14 : decode cJ0_indexOf_7cf53 14 = .ok (.invokevirtual 505, 3) := by decide +kernel
theorem dJ0_indexOf_7cf53_17 : decode cJ0_indexOf_7cf53 17 = .ok (.invokestatic 637, 3) := by decide +kernel
theorem dJ0_indexOf_7cf53_20 : decode cJ0_indexOf_7cf53 20 = .ok (.goto 16, 3) := by decide +kernel
theorem dJ0_indexOf_7cf53_23 : decode cJ0_indexOf_7cf53 23 = .ok (.aload_n 0, 1) := by decide +kernel
theorem dJ0_indexOf_7cf53_24 : decode cJ0_indexOf_7cf53 24 = .ok (.getfield 9, 3) := by decide +kernel
theorem dJ0_indexOf_7cf53_27 : decode cJ0_indexOf_7cf53 27 = .ok (.iload_n 1, 1) := by decide +kernel
theorem dJ0_indexOf_7cf53_28 : decode cJ0_indexOf_7cf53 28 = .ok (.iload_n 2, 1) := by decide +kernel
theorem dJ0_indexOf_7cf53_29 : decode cJ0_indexOf_7cf53 29 = .ok (.aload_n 0, 1) := by decide +kernel
theorem dJ0_indexOf_7cf53_30 : decode cJ0_indexOf_7cf53 30 = .ok (.invokevirtual 505, 3) := by decide +kernel
theorem dJ0_indexOf_7cf53_33 : decode cJ0_indexOf_7cf53 33 = .ok (.invokestatic 640, 3) := by decide +kernel
theorem dJ0_indexOf_7cf53_36 : decode cJ0_indexOf_7cf53 36 = .ok (.ireturn, 1) := by decide +kernel
theorem dJ0_coder_7d493_0 : decode cJ0_coder_7d493 0 = .ok (.getstatic 38, 3) := by decide +kernel
theorem dJ0_coder_7d493_3 : decode cJ0_coder_7d493 3 = .ok (.ifCond .eq 10, 3) := by decide +kernel
theorem dJ0_coder_7d493_6 : decode cJ0_coder_7d493 6 = .ok (.aload_n 0, 1) := by decide +kernel
theorem dJ0_coder_7d493_7 : decode cJ0_coder_7d493 7 = .ok (.getfield 15, 3) := by decide +kernel
theorem dJ0_coder_7d493_10 : decode cJ0_coder_7d493 10 = .ok (.goto 4, 3) := by decide +kernel
theorem dJ0_coder_7d493_13 : decode cJ0_coder_7d493 13 = .ok (.iconst 1, 1) := by decide +kernel
theorem dJ0_coder_7d493_14 : decode cJ0_coder_7d493 14 = .ok (.ireturn, 1) := by decide +kernel
theorem dJ0_isLatin1_aae02_0 : decode cJ0_isLatin1_aae02 0 = .ok (.getstatic 38, 3) := by decide +kernel
theorem dJ0_isLatin1_aae02_3 : decode cJ0_isLatin1_aae02 3 = .ok (.ifCond .eq 14, 3) := by decide +kernel
theorem dJ0_isLatin1_aae02_6 : decode cJ0_isLatin1_aae02 6 = .ok (.aload_n 0, 1) := by decide +kernel
theorem dJ0_isLatin1_aae02_7 : decode cJ0_isLatin1_aae02 7 = .ok (.getfield 15, 3) := by decide +kernel
theorem dJ0_isLatin1_aae02_10 : decode cJ0_isLatin1_aae02 10 = .ok (.ifCond .ne 7, 3) := by decide +kernel
theorem dJ0_isLatin1_aae02_13 : decode cJ0_isLatin1_aae02 13 = .ok (.iconst 1, 1) := by decide +kernel
theorem dJ0_isLatin1_aae02_14 : decode cJ0_isLatin1_aae02 14 = .ok (.goto 4, 3) := by decide +kernel
theorem dJ0_isLatin1_aae02_17 : decode cJ0_isLatin1_aae02 17 = .ok (.iconst 0, 1) := by decide +kernel
theorem dJ0_isLatin1_aae02_18 : decode cJ0_isLatin1_aae02 18 = .ok (.ireturn, 1) := by decide +kernel
theorem dJ0_checkIndex_df160_0 : decode cJ0_checkIndex_df160 0 = .ok (.iload_n 0, 1) := by decide +kernel
theorem dJ0_checkIndex_df160_1 : decode cJ0_checkIndex_df160 1 = .ok (.iload_n 1, 1) := by decide +kernel
theorem dJ0_checkIndex_df160_2 : decode cJ0_checkIndex_df160 2 = .ok (.getstatic 1053, 3) := by decide +kernel
theorem dJ0_checkIndex_df160_5 : decode cJ0_checkIndex_df160 5 = .ok (.invokestatic 1059, 3) := by decide +kernel
theorem dJ0_checkIndex_df160_8 : decode cJ0_checkIndex_df160 8 = .ok (.pop, 1) := by decide +kernel
theorem dJ0_checkIndex_df160_9 : decode cJ0_checkIndex_df160 9 = .ok (.return_, 1) := by decide +kernel
theorem dJ0_checkBoundsBeginEnd_23922_0 : decode cJ0_checkBoundsBeginEnd_23922 0 = .ok (.iload_n 0, 1) := by decide +kernel
theorem dJ0_checkBoundsBeginEnd_23922_1 : decode cJ0_checkBoundsBeginEnd_23922 1 = .ok (.iload_n 1, 1) := by decide +kernel
theorem dJ0_checkBoundsBeginEnd_23922_2 : decode cJ0_checkBoundsBeginEnd_23922 2 = .ok (.iload_n 2, 1) := by decide +kernel
theorem dJ0_checkBoundsBeginEnd_23922_3 : decode cJ0_checkBoundsBeginEnd_23922 3 = .ok (.getstatic 1053, 3) := by decide +kernel
theorem dJ0_checkBoundsBeginEnd_23922_6 : decode cJ0_checkBoundsBeginEnd_23922 6 = .ok (.invokestatic 1062, 3) := by decide +kernel
theorem dJ0_checkBoundsBeginEnd_23922_9 : decode cJ0_checkBoundsBeginEnd_23922 9 = .ok (.pop, 1) := by decide +kernel
theorem dJ0_checkBoundsBeginEnd_23922_10 : decode cJ0_checkBoundsBeginEnd_23922 10 = .ok (.return_, 1) := by decide +kernel
theorem dJ1_charAt_3b067_0 : decode cJ1_charAt_3b067 0 = .ok (.iload_n 1, 1) := by decide +kernel
theorem dJ1_charAt_3b067_1 : decode cJ1_charAt_3b067 1 = .ok (.aload_n 0, 1) := by decide +kernel
theorem dJ1_charAt_3b067_2 : decode cJ1_charAt_3b067 2 = .ok (.arraylength, 1) := by decide +kernel
theorem dJ1_charAt_3b067_3 : decode cJ1_charAt_3b067 3 = .ok (.invokestatic 9, 3) := by decide +kernel
theorem dJ1_charAt_3b067_6 : decode cJ1_charAt_3b067 6 = .ok (.aload_n 0, 1) := by decide +kernel
theorem dJ1_charAt_3b067_7 : decode cJ1_charAt_3b067 7 = .ok (.iload_n 1, 1) := by decide +kernel
theorem dJ1_charAt_3b067_8 : decode cJ1_charAt_3b067 8 = .ok (.baload, 1) := by decide +kernel
theorem dJ1_charAt_3b067_9 : decode cJ1_charAt_3b067 9 = .ok (.sipush 255, 3) := by decide +kernel
theorem dJ1_charAt_3b067_12 : decode cJ1_charAt_3b067 12 = .ok (.iand, 1) := by decide +kernel
theorem dJ1_charAt_3b067_13 : decode cJ1_charAt_3b067 13 = .ok (.i2c, 1) := by decide +kernel
theorem dJ1_charAt_3b067_14 : decode cJ1_charAt_3b067 14 = .ok (.ireturn, 1) := by decide +kernel
theorem dJ1_canEncode_9a6ad_0 : decode cJ1_canEncode_9a6ad 0 = .ok (.iload_n 0, 1) := by decide +kernel
theorem dJ1_canEncode_9a6ad_1 : decode cJ1_canEncode_9a6ad 1 = .ok (.ifCond .lt 14, 3) := by decide +kernel
theorem dJ1_canEncode_9a6ad_4 : decode cJ1_canEncode_9a6ad 4 = .ok (.iload_n 0, 1) := by decide +kernel
theorem dJ1_canEncode_9a6ad_5 : decode cJ1_canEncode_9a6ad 5 = .ok (.sipush 255, 3) := by decide +kernel
theorem dJ1_canEncode_9a6ad_8 : decode cJ1_canEncode_9a6ad 8 = .ok (.if_icmp .gt 7, 3) := by decide +kernel
theorem dJ1_canEncode_9a6ad_11 : decode cJ1_canEncode_9a6ad 11 = .ok (.iconst 1, 1) := by decide +kernel
theorem dJ1_canEncode_9a6ad_12 : decode cJ1_canEncode_9a6ad 12 = .ok (.goto 4, 3) := by decide +kernel
theorem dJ1_canEncode_9a6ad_15 : decode cJ1_canEncode_9a6ad 15 = .ok (.iconst 0, 1) := by decide +kernel
theorem dJ1_canEncode_9a6ad_16 : decode cJ1_canEncode_9a6ad 16 = .ok (.ireturn, 1) := by decide +kernel
theorem dJ1_indexOf_4cfef_0 : decode cJ1_indexOf_4cfef 0 = .ok (.iload_n 1, 1) := by decide +kernel
theorem dJ1_indexOf_4cfef_1 : decode cJ1_indexOf_4cfef 1 = .ok (.invokestatic 88, 3) := by decide +kernel
theorem dJ1_indexOf_4cfef_4 : decode cJ1_indexOf_4cfef 4 = .ok (.ifCond .ne 5, 3) := by decide +kernel
theorem dJ1_indexOf_4cfef_7 : decode cJ1_indexOf_4cfef 7 = .ok (.iconst (-1), 1) := by decide +kernel
theorem dJ1_indexOf_4cfef_8 : decode cJ1_indexOf_4cfef 8 = .ok (.ireturn, 1) := by decide +kernel
theorem dJ1_indexOf_4cfef_9 : decode cJ1_indexOf_4cfef 9 = .ok (.iload_n 2, 1) := by decide +kernel
theorem dJ1_indexOf_4cfef_10 : decode cJ1_indexOf_4cfef 10 = .ok (.iconst 0, 1) := by decide +kernel
theorem dJ1_indexOf_4cfef_11 : decode cJ1_indexOf_4cfef 11 = .ok (.invokestatic 92, 3) := by decide +kernel
theorem dJ1_indexOf_4cfef_14 : decode cJ1_indexOf_4cfef 14 = .ok (.istore_n 2, 1) := by decide +kernel
theorem dJ1_indexOf_4cfef_15 : decode cJ1_indexOf_4cfef 15 = .ok (.iload_n 3, 1) := by decide +kernel
theorem dJ1_indexOf_4cfef_16 : decode cJ1_indexOf_4cfef 16 = .ok (.aload_n 0, 1) := by decide +kernel
theorem dJ1_indexOf_4cfef_17 : decode cJ1_indexOf_4cfef 17 = .ok (.arraylength, 1) := by decide +kernel
theorem dJ1_indexOf_4cfef_18 : decode cJ1_indexOf_4cfef 18 = .ok (.invokestatic 38, 3) := by decide +kernel
theorem dJ1_indexOf_4cfef_21 : decode cJ1_indexOf_4cfef 21 = .ok (.istore_n 3, 1) := by decide +kernel
theorem dJ1_indexOf_4cfef_22 : decode cJ1_indexOf_4cfef 22 = .ok (.iload_n 2, 1) := by decide +kernel
theorem dJ1_indexOf_4cfef_23 : decode cJ1_indexOf_4cfef 23 = .ok (.iload_n 3, 1) := by decide +kernel
theorem dJ1_indexOf_4cfef_24 : decode cJ1_indexOf_4cfef 24 = .ok (.if_icmp .lt 5, 3) := by decide +kernel
theorem dJ1_indexOf_4cfef_27 : decode cJ1_indexOf_4cfef 27 = .ok (.iconst (-1), 1) := by decide +kernel
theorem dJ1_indexOf_4cfef_28 : decode cJ1_indexOf_4cfef 28 = .ok (.ireturn, 1) := by decide +kernel
theorem dJ1_indexOf_4cfef_29 : decode cJ1_indexOf_4cfef 29 = .ok (.aload_n 0, 1) := by decide +kernel
theorem dJ1_indexOf_4cfef_30 : decode cJ1_indexOf_4cfef 30 = .ok (.iload_n 1, 1) := by decide +kernel
theorem dJ1_indexOf_4cfef_31 : decode cJ1_indexOf_4cfef 31 = .ok (.iload_n 2, 1) := by decide +kernel
theorem dJ1_indexOf_4cfef_32 : decode cJ1_indexOf_4cfef 32 = .ok (.iload_n 3, 1) := by decide +kernel
theorem dJ1_indexOf_4cfef_33 : decode cJ1_indexOf_4cfef 33 = .ok (.invokestatic 95, 3) := by decide +kernel
theorem dJ1_indexOf_4cfef_36 : decode cJ1_indexOf_4cfef 36 = .ok (.ireturn, 1) := by decide +kernel
theorem dJ1_indexOfChar_4cfef_0 : decode cJ1_indexOfChar_4cfef 0 = .ok (.iload_n 1, 1) := by decide +kernel
theorem dJ1_indexOfChar_4cfef_1 : decode cJ1_indexOfChar_4cfef 1 = .ok (.i2b, 1) := by decide +kernel
theorem dJ1_indexOfChar_4cfef_2 : decode cJ1_indexOfChar_4cfef 2 = .ok (.istore 4, 2) := by decide +kernel
theorem dJ1_indexOfChar_4cfef_4 : decode cJ1_indexOfChar_4cfef 4 = .ok (.iload_n 2, 1) := by decide +kernel
theorem dJ1_indexOfChar_4cfef_5 : decode cJ1_indexOfChar_4cfef 5 = .ok (.istore 5, 2) := by decide +kernel
theorem dJ1_indexOfChar_4cfef_7 : decode cJ1_indexOfChar_4cfef 7 = .ok (.iload 5, 2) := by decide +kernel
theorem dJ1_indexOfChar_4cfef_9 : decode cJ1_indexOfChar_4cfef 9 = .ok (.iload_n 3, 1) := by decide +kernel
theorem dJ1_indexOfChar_4cfef_10 : decode cJ1_indexOfChar_4cfef 10 = .ok (.if_icmp .ge 21, 3) := by decide +kernel
theorem dJ1_indexOfChar_4cfef_13 : decode cJ1_indexOfChar_4cfef 13 = .ok (.aload_n 0, 1) := by decide +kernel
theorem dJ1_indexOfChar_4cfef_14 : decode cJ1_indexOfChar_4cfef 14 = .ok (.iload 5, 2) := by decide +kernel
theorem dJ1_indexOfChar_4cfef_16 : decode cJ1_indexOfChar_4cfef 16 = .ok (.baload, 1) := by decide +kernel
theorem dJ1_indexOfChar_4cfef_17 : decode cJ1_indexOfChar_4cfef 17 = .ok (.iload 4, 2) := by decide +kernel
theorem dJ1_indexOfChar_4cfef_19 : decode cJ1_indexOfChar_4cfef 19 = .ok (.if_icmp .ne 6, 3) := by decide +kernel
theorem dJ1_indexOfChar_4cfef_22 : decode cJ1_indexOfChar_4cfef 22 = .ok (.iload 5, 2) := by decide +kernel
theorem dJ1_indexOfChar_4cfef_24 : decode cJ1_indexOfChar_4cfef 24 = .ok (.ireturn, 1) := by decide +kernel
theorem dJ1_indexOfChar_4cfef_25 : decode cJ1_indexOfChar_4cfef 25 = .ok (.iinc 5 1, 3) := by decide +kernel
theorem dJ1_indexOfChar_4cfef_28 : decode cJ1_indexOfChar_4cfef 28 = .ok (.goto (-21), 3) := by decide +kernel
theorem dJ1_indexOfChar_4cfef_31 : decode cJ1_indexOfChar_4cfef 31 = .ok (.iconst (-1), 1) := by decide +kernel
theorem dJ1_indexOfChar_4cfef_32 : decode cJ1_indexOfChar_4cfef 32 = .ok (.ireturn, 1) := by decide +kernel
theorem dJ2_getChar_3b067_0 : decode cJ2_getChar_3b067 0 = .ok (.getstatic 44, 3) := by decide +kernel
theorem dJ2_getChar_3b067_3 : decode cJ2_getChar_3b067 3 = .ok (.ifCond .ne 25, 3) := by decide +kernel
theorem dJ2_getChar_3b067_6 : decode cJ2_getChar_3b067 6 = .ok (.iload_n 1, 1) := by decide +kernel
theorem dJ2_getChar_3b067_7 : decode cJ2_getChar_3b067 7 = .ok (.ifCond .lt 11, 3) := by decide +kernel
theorem dJ2_getChar_3b067_10 : decode cJ2_getChar_3b067 10 = .ok (.iload_n 1, 1) := by decide +kernel
theorem dJ2_getChar_3b067_11 : decode cJ2_getChar_3b067 11 = .ok (.aload_n 0, 1) := by decide +kernel
theorem dJ2_getChar_3b067_12 : decode cJ2_getChar_3b067 12 = .ok (.invokestatic 48, 3) := by decide +kernel
theorem dJ2_getChar_3b067_15 : decode cJ2_getChar_3b067 15 = .ok (.if_icmp .lt 13, 3) := by decide +kernel
theorem dJ2_getChar_3b067_18 : decode cJ2_getChar_3b067 18 = .ok (.new 52, 3) := by decide +kernel
theorem dJ2_getChar_3b067_21 : decode cJ2_getChar_3b067 21 = .ok (.dup, 1) := by decide +kernel
theorem dJ2_getChar_3b067_22 : decode cJ2_getChar_3b067 22 = .ok (.ldc 54, 2) := by decide +kernel
theorem dJ2_getChar_3b067_24 : decode cJ2_getChar_3b067 24 = .ok (.invokespecial 56, 3) := by decide +kernel
theorem dJ2_getChar_3b067_27 : decode cJ2_getChar_3b067 27 = .ok (.athrow, 1) := by decide +kernel
theorem dJ2_getChar_3b067_28 : decode cJ2_getChar_3b067 28 = .ok (.iload_n 1, 1) := by decide +kernel
theorem dJ2_getChar_3b067_29 : decode cJ2_getChar_3b067 29 = .ok (.iconst 1, 1) := by decide +kernel
theorem dJ2_getChar_3b067_30 : decode cJ2_getChar_3b067 30 = .ok (.ishl, 1) := by decide +kernel
theorem dJ2_getChar_3b067_31 : decode cJ2_getChar_3b067 31 = .ok (.istore_n 1, 1) := by decide +kernel
theorem dJ2_getChar_3b067_32 : decode cJ2_getChar_3b067 32 = .ok (.aload_n 0, 1) := by decide +kernel
theorem dJ2_getChar_3b067_33 : decode cJ2_getChar_3b067 33 = .ok (.iload_n 1, 1) := by decide +kernel
theorem dJ2_getChar_3b067_34 : decode cJ2_getChar_3b067 34 = .ok (.iinc 1 1, 3) := by decide +kernel
theorem dJ2_getChar_3b067_37 : decode cJ2_getChar_3b067 37 = .ok (.baload, 1) := by decide +kernel
theorem dJ2_getChar_3b067_38 : decode cJ2_getChar_3b067 38 = .ok (.sipush 255, 3) := by decide +kernel
theorem dJ2_getChar_3b067_41 : decode cJ2_getChar_3b067 41 = .ok (.iand, 1) := by decide +kernel
theorem dJ2_getChar_3b067_42 : decode cJ2_getChar_3b067 42 = .ok (.getstatic 59, 3) := by decide +kernel
theorem dJ2_getChar_3b067_45 : decode cJ2_getChar_3b067 45 = .ok (.ishl, 1) := by decide +kernel
theorem dJ2_getChar_3b067_46 : decode cJ2_getChar_3b067 46 = .ok (.aload_n 0, 1) := by decide +kernel
theorem dJ2_getChar_3b067_47 : decode cJ2_getChar_3b067 47 = .ok (.iload_n 1, 1) := by decide +kernel
theorem dJ2_getChar_3b067_48 : decode cJ2_getChar_3b067 48 = .ok (.baload, 1) := by decide +kernel
theorem dJ2_getChar_3b067_49 : decode cJ2_getChar_3b067 49 = .ok (.sipush 255, 3) := by decide +kernel
theorem dJ2_getChar_3b067_52 : decode cJ2_getChar_3b067 52 = .ok (.iand, 1) := by decide +kernel
theorem dJ2_getChar_3b067_53 : decode cJ2_getChar_3b067 53 = .ok (.getstatic 63, 3) := by decide +kernel
theorem dJ2_getChar_3b067_56 : decode cJ2_getChar_3b067 56 = .ok (.ishl, 1) := by decide +kernel
theorem dJ2_getChar_3b067_57 : decode cJ2_getChar_3b067 57 = .ok (.ior, 1) := by decide +kernel
theorem dJ2_getChar_3b067_58 : decode cJ2_getChar_3b067 58 = .ok (.i2c, 1) := by decide +kernel
theorem dJ2_getChar_3b067_59 : decode cJ2_getChar_3b067 59 = .ok (.ireturn, 1) := by decide +kernel
theorem dJ2_length_9d52b_0 : decode cJ2_length_9d52b 0 = .ok (.aload_n 0, 1) := by decide +kernel
theorem dJ2_length_9d52b_1 : decode cJ2_length_9d52b 1 = .ok (.arraylength, 1) := by decide +kernel
theorem dJ2_length_9d52b_2 : decode cJ2_length_9d52b 2 = .ok (.iconst 1, 1) := by decide +kernel
theorem dJ2_length_9d52b_3 : decode cJ2_length_9d52b 3 = .ok (.ishr, 1) := by decide +kernel
theorem dJ2_length_9d52b_4 : decode cJ2_length_9d52b 4 = .ok (.ireturn, 1) := by decide +kernel
theorem dJ2_indexOf_4cfef_0 : decode cJ2_indexOf_4cfef 0 = .ok (.iload_n 2, 1) := by decide +kernel
theorem dJ2_indexOf_4cfef_1 : decode cJ2_indexOf_4cfef 1 = .ok (.iconst 0, 1) := by decide +kernel
theorem dJ2_indexOf_4cfef_2 : decode cJ2_indexOf_4cfef 2 = .ok (.invokestatic 224, 3) := by decide +kernel
theorem dJ2_indexOf_4cfef_5 : decode cJ2_indexOf_4cfef 5 = .ok (.istore_n 2, 1) := by decide +kernel
theorem dJ2_indexOf_4cfef_6 : decode cJ2_indexOf_4cfef 6 = .ok (.iload_n 3, 1) := by decide +kernel
theorem dJ2_indexOf_4cfef_7 : decode cJ2_indexOf_4cfef 7 = .ok (.aload_n 0, 1) := by decide +kernel
theorem dJ2_indexOf_4cfef_8 : decode cJ2_indexOf_4cfef 8 = .ok (.arraylength, 1) := by decide +kernel
theorem dJ2_indexOf_4cfef_9 : decode cJ2_indexOf_4cfef 9 = .ok (.iconst 1, 1) := by decide +kernel
theorem dJ2_indexOf_4cfef_10 : decode cJ2_indexOf_4cfef 10 = .ok (.ishr, 1) := by decide +kernel
theorem dJ2_indexOf_4cfef_11 : decode cJ2_indexOf_4cfef 11 = .ok (.invokestatic 183, 3) := by decide +kernel
theorem dJ2_indexOf_4cfef_14 : decode cJ2_indexOf_4cfef 14 = .ok (.istore_n 3, 1) := by decide +kernel
theorem dJ2_indexOf_4cfef_15 : decode cJ2_indexOf_4cfef 15 = .ok (.iload_n 2, 1) := by decide +kernel
theorem dJ2_indexOf_4cfef_16 : decode cJ2_indexOf_4cfef 16 = .ok (.iload_n 3, 1) := by decide +kernel
theorem dJ2_indexOf_4cfef_17 : decode cJ2_indexOf_4cfef 17 = .ok (.if_icmp .lt 5, 3) := by decide +kernel
theorem dJ2_indexOf_4cfef_20 : decode cJ2_indexOf_4cfef 20 = .ok (.iconst (-1), 1) := by decide +kernel
theorem dJ2_indexOf_4cfef_21 : decode cJ2_indexOf_4cfef 21 = .ok (.ireturn, 1) := by decide +kernel
theorem dJ2_indexOf_4cfef_22 : decode cJ2_indexOf_4cfef 22 = .ok (.iload_n 1, 1) := by decide +kernel
theorem dJ2_indexOf_4cfef_23 : decode cJ2_indexOf_4cfef 23 = .ok (.ldc 227, 2) := by decide +kernel
theorem dJ2_indexOf_4cfef_25 : decode cJ2_indexOf_4cfef 25 = .ok (.if_icmp .ge 11, 3) := by decide +kernel
theorem dJ2_indexOf_4cfef_28 : decode cJ2_indexOf_4cfef 28 = .ok (.aload_n 0, 1) := by decide +kernel
theorem dJ2_indexOf_4cfef_29 : decode cJ2_indexOf_4cfef 29 = .ok (.iload_n 1, 1) := by decide +kernel
theorem dJ2_indexOf_4cfef_30 : decode cJ2_indexOf_4cfef 30 = .ok (.iload_n 2, 1) := by decide +kernel
theorem dJ2_indexOf_4cfef_31 : decode cJ2_indexOf_4cfef 31 = .ok (.iload_n 3, 1) := by decide +kernel
theorem dJ2_indexOf_4cfef_32 : decode cJ2_indexOf_4cfef 32 = .ok (.invokestatic 228, 3) := by decide +kernel
theorem dJ2_indexOf_4cfef_35 : decode cJ2_indexOf_4cfef 35 = .ok (.ireturn, 1) := by decide +kernel
theorem dJ2_indexOf_4cfef_36 : decode cJ2_indexOf_4cfef 36 = .ok (.aload_n 0, 1) := by decide +kernel
theorem dJ2_indexOf_4cfef_37 : decode cJ2_indexOf_4cfef 37 = .ok (.iload_n 1, 1) := by decide +kernel
theorem dJ2_indexOf_4cfef_38 : decode cJ2_indexOf_4cfef 38 = .ok (.iload_n 2, 1) := by decide +kernel
theorem dJ2_indexOf_4cfef_39 : decode cJ2_indexOf_4cfef 39 = .ok (.iload_n 3, 1) := by decide +kernel
theorem dJ2_indexOf_4cfef_40 : decode cJ2_indexOf_4cfef 40 = .ok (.invokestatic 232, 3) := by decide +kernel
theorem dJ2_indexOf_4cfef_43 : decode cJ2_indexOf_4cfef 43 = .ok (.ireturn, 1) := by decide +kernel
theorem dJ2_indexOfChar_4cfef_0 : decode cJ2_indexOfChar_4cfef 0 = .ok (.iload_n 2, 1) := by decide +kernel
theorem dJ2_indexOfChar_4cfef_1 : decode cJ2_indexOfChar_4cfef 1 = .ok (.iload_n 3, 1) := by decide +kernel
theorem dJ2_indexOfChar_4cfef_2 : decode cJ2_indexOfChar_4cfef 2 = .ok (.aload_n 0, 1) := by decide +kernel
theorem dJ2_indexOfChar_4cfef_3 : decode cJ2_indexOfChar_4cfef 3 = .ok (.invokestatic 96, 3) := by decide +kernel
theorem dJ2_indexOfChar_4cfef_6 : decode cJ2_indexOfChar_4cfef 6 = .ok (.aload_n 0, 1) := by decide +kernel
theorem dJ2_indexOfChar_4cfef_7 : decode cJ2_indexOfChar_4cfef 7 = .ok (.iload_n 1, 1) := by decide +kernel
theorem dJ2_indexOfChar_4cfef_8 : decode cJ2_indexOfChar_4cfef 8 = .ok (.iload_n 2, 1) := by decide +kernel
theorem dJ2_indexOfChar_4cfef_9 : decode cJ2_indexOfChar_4cfef 9 = .ok (.iload_n 3, 1) := by decide +kernel
theorem dJ2_indexOfChar_4cfef_10 : decode cJ2_indexOfChar_4cfef 10 = .ok (.invokestatic 244, 3) := by decide +kernel
theorem dJ2_indexOfChar_4cfef_13 : decode cJ2_indexOfChar_4cfef 13 = .ok (.ireturn, 1) := by decide +kernel
theorem dJ2_indexOfCharUnsafe_4cfef_0 : decode cJ2_indexOfCharUnsafe_4cfef 0 = .ok (.iload_n 2, 1) := by decide +kernel
theorem dJ2_indexOfCharUnsafe_4cfef_1 : decode cJ2_indexOfCharUnsafe_4cfef 1 = .ok (.istore 4, 2) := by decide +kernel
theorem dJ2_indexOfCharUnsafe_4cfef_3 : decode cJ2_indexOfCharUnsafe_4cfef 3 = .ok (.iload 4, 2) := by decide +kernel
theorem dJ2_indexOfCharUnsafe_4cfef_5 : decode cJ2_indexOfCharUnsafe_4cfef 5 = .ok (.iload_n 3, 1) := by decide +kernel
theorem dJ2_indexOfCharUnsafe_4cfef_6 : decode cJ2_indexOfCharUnsafe_4cfef 6 = .ok (.if_icmp .ge 22, 3) := by decide +kernel
theorem dJ2_indexOfCharUnsafe_4cfef_9 : decode cJ2_indexOfCharUnsafe_4cfef 9 = .ok (.aload_n 0, 1) := by decide +kernel
theorem dJ2_indexOfCharUnsafe_4cfef_10 : decode cJ2_indexOfCharUnsafe_4cfef 10 = .ok (.iload 4, 2) := by decide +kernel
theorem dJ2_indexOfCharUnsafe_4cfef_12 : decode cJ2_indexOfCharUnsafe_4cfef 12 = .ok (.invokestatic 71, 3) := by decide +kernel
theorem dJ2_indexOfCharUnsafe_4cfef_15 : decode cJ2_indexOfCharUnsafe_4cfef 15 = .ok (.iload_n 1, 1) := by decide +kernel
theorem dJ2_indexOfCharUnsafe_4cfef_16 : decode cJ2_indexOfCharUnsafe_4cfef 16 = .ok (.if_icmp .ne 6, 3) := by decide +kernel
theorem dJ2_indexOfCharUnsafe_4cfef_19 : decode cJ2_indexOfCharUnsafe_4cfef 19 = .ok (.iload 4, 2) := by decide +kernel
theorem dJ2_indexOfCharUnsafe_4cfef_21 : decode cJ2_indexOfCharUnsafe_4cfef 21 = .ok (.ireturn, 1) := by decide +kernel
theorem dJ2_indexOfCharUnsafe_4cfef_22 : decode cJ2_indexOfCharUnsafe_4cfef 22 = .ok (.iinc 4 1, 3) := by decide +kernel
theorem dJ2_indexOfCharUnsafe_4cfef_25 : decode cJ2_indexOfCharUnsafe_4cfef 25 = .ok (.goto (-22), 3) := by decide +kernel
theorem dJ2_indexOfCharUnsafe_4cfef_28 : decode cJ2_indexOfCharUnsafe_4cfef 28 = .ok (.iconst (-1), 1) := by decide +kernel
theorem dJ2_indexOfCharUnsafe_4cfef_29 : decode cJ2_indexOfCharUnsafe_4cfef 29 = .ok (.ireturn, 1) := by decide +kernel
theorem dJ2_indexOfSupplementary_4cfef_0 : decode cJ2_indexOfSupplementary_4cfef 0 = .ok (.iload_n 1, 1) := by decide +kernel
theorem dJ2_indexOfSupplementary_4cfef_1 : decode cJ2_indexOfSupplementary_4cfef 1 = .ok (.invokestatic 164, 3) := by decide +kernel
theorem dJ2_indexOfSupplementary_4cfef_4 : decode cJ2_indexOfSupplementary_4cfef 4 = .ok (.ifCond .eq 65, 3) := by decide +kernel
theorem dJ2_indexOfSupplementary_4cfef_7 : decode cJ2_indexOfSupplementary_4cfef 7 = .ok (.iload_n 1, 1) := by decide +kernel
theorem dJ2_indexOfSupplementary_4cfef_8 : decode cJ2_indexOfSupplementary_4cfef 8 = .ok (.invokestatic 157, 3) := by decide +kernel
theorem dJ2_indexOfSupplementary_4cfef_11 : decode cJ2_indexOfSupplementary_4cfef 11 = .ok (.istore 4, 2) := by decide +kernel
theorem dJ2_indexOfSupplementary_4cfef_13 : decode cJ2_indexOfSupplementary_4cfef 13 = .ok (.iload_n 1, 1) := by decide +kernel
theorem dJ2_indexOfSupplementary_4cfef_14 : decode cJ2_indexOfSupplementary_4cfef 14 = .ok (.invokestatic 161, 3) := by decide +kernel
theorem dJ2_indexOfSupplementary_4cfef_17 : decode cJ2_indexOfSupplementary_4cfef 17 = .ok (.istore 5, 2) := by decide +kernel
theorem dJ2_indexOfSupplementary_4cfef_19 : decode cJ2_indexOfSupplementary_4cfef 19 = .ok (.iload_n 2, 1) := by decide +kernel
theorem dJ2_indexOfSupplementary_4cfef_20 : decode cJ2_indexOfSupplementary_4cfef 20 = .ok (.iload_n 3, 1) := by decide +kernel
theorem dJ2_indexOfSupplementary_4cfef_21 : decode cJ2_indexOfSupplementary_4cfef 21 = .ok (.aload_n 0, 1) := by decide +kernel
theorem dJ2_indexOfSupplementary_4cfef_22 : decode cJ2_indexOfSupplementary_4cfef 22 = .ok (.invokestatic 96, 3) := by decide +kernel
theorem dJ2_indexOfSupplementary_4cfef_25 : decode cJ2_indexOfSupplementary_4cfef 25 = .ok (.iload_n 2, 1) := by decide +kernel
theorem dJ2_indexOfSupplementary_4cfef_26 : decode cJ2_indexOfSupplementary_4cfef 26 = .ok (.istore 6, 2) := by decide +kernel
theorem dJ2_indexOfSupplementary_4cfef_28 : decode cJ2_indexOfSupplementary_4cfef 28 = .ok (.iload 6, 2) := by decide +kernel
theorem dJ2_indexOfSupplementary_4cfef_30 : decode cJ2_indexOfSupplementary_4cfef 30 = .ok (.iload_n 3, 1) := by decide +kernel
theorem dJ2_indexOfSupplementary_4cfef_31 : decode cJ2_indexOfSupplementary_4cfef 31 = .ok (.iconst 1, 1) := by decide +kernel
theorem dJ2_indexOfSupplementary_4cfef_32 : decode cJ2_indexOfSupplementary_4cfef 32 = .ok (.isub, 1) := by decide +kernel
theorem dJ2_indexOfSupplementary_4cfef_33 : decode cJ2_indexOfSupplementary_4cfef 33 = .ok (.if_icmp .ge 36, 3) := by decide +kernel
theorem dJ2_indexOfSupplementary_4cfef_36 : decode cJ2_indexOfSupplementary_4cfef 36 = .ok (.aload_n 0, 1) := by decide +kernel
theorem dJ2_indexOfSupplementary_4cfef_37 : decode cJ2_indexOfSupplementary_4cfef 37 = .ok (.iload 6, 2) := by decide +kernel
theorem dJ2_indexOfSupplementary_4cfef_39 : decode cJ2_indexOfSupplementary_4cfef 39 = .ok (.invokestatic 71, 3) := by decide +kernel
theorem dJ2_indexOfSupplementary_4cfef_42 : decode cJ2_indexOfSupplementary_4cfef 42 = .ok (.iload 4, 2) := by decide +kernel
theorem dJ2_indexOfSupplementary_4cfef_44 : decode cJ2_indexOfSupplementary_4cfef 44 = .ok (.if_icmp .ne 19, 3) := by decide +kernel
theorem dJ2_indexOfSupplementary_4cfef_47 : decode cJ2_indexOfSupplementary_4cfef 47 = .ok (.aload_n 0, 1) := by decide +kernel
theorem dJ2_indexOfSupplementary_4cfef_48 : decode cJ2_indexOfSupplementary_4cfef 48 = .ok (.iload 6, 2) := by decide +kernel
theorem dJ2_indexOfSupplementary_4cfef_50 : decode cJ2_indexOfSupplementary_4cfef 50 = .ok (.iconst 1, 1) := by decide +kernel
theorem dJ2_indexOfSupplementary_4cfef_51 : decode cJ2_indexOfSupplementary_4cfef 51 = .ok (.iadd, 1) := by decide +kernel
theorem dJ2_indexOfSupplementary_4cfef_52 : decode cJ2_indexOfSupplementary_4cfef 52 = .ok (.invokestatic 71, 3) := by decide +kernel
theorem dJ2_indexOfSupplementary_4cfef_55 : decode cJ2_indexOfSupplementary_4cfef 55 = .ok (.iload 5, 2) := by decide +kernel
theorem dJ2_indexOfSupplementary_4cfef_57 : decode cJ2_indexOfSupplementary_4cfef 57 = .ok (.if_icmp .ne 6, 3) := by decide +kernel
theorem dJ2_indexOfSupplementary_4cfef_60 : decode cJ2_indexOfSupplementary_4cfef 60 = .ok (.iload 6, 2) := by decide +kernel
theorem dJ2_indexOfSupplementary_4cfef_62 : decode cJ2_indexOfSupplementary_4cfef 62 = .ok (.ireturn, 1) := by decide +kernel
theorem dJ2_indexOfSupplementary_4cfef_63 : decode cJ2_indexOfSupplementary_4cfef 63 = .ok (.iinc 6 1, 3) := by decide +kernel
theorem dJ2_indexOfSupplementary_4cfef_66 : decode cJ2_indexOfSupplementary_4cfef 66 = .ok (.goto (-38), 3) := by decide +kernel
theorem dJ2_indexOfSupplementary_4cfef_69 : decode cJ2_indexOfSupplementary_4cfef 69 = .ok (.iconst (-1), 1) := by decide +kernel
theorem dJ2_indexOfSupplementary_4cfef_70 : decode cJ2_indexOfSupplementary_4cfef 70 = .ok (.ireturn, 1) := by decide +kernel
theorem dJ2_charAt_3b067_0 : decode cJ2_charAt_3b067 0 = .ok (.iload_n 1, 1) := by decide +kernel
theorem dJ2_charAt_3b067_1 : decode cJ2_charAt_3b067 1 = .ok (.aload_n 0, 1) := by decide +kernel
theorem dJ2_charAt_3b067_2 : decode cJ2_charAt_3b067 2 = .ok (.invokestatic 67, 3) := by decide +kernel
theorem dJ2_charAt_3b067_5 : decode cJ2_charAt_3b067 5 = .ok (.aload_n 0, 1) := by decide +kernel
theorem dJ2_charAt_3b067_6 : decode cJ2_charAt_3b067 6 = .ok (.iload_n 1, 1) := by decide +kernel
theorem dJ2_charAt_3b067_7 : decode cJ2_charAt_3b067 7 = .ok (.invokestatic 71, 3) := by decide +kernel
theorem dJ2_charAt_3b067_10 : decode cJ2_charAt_3b067 10 = .ok (.ireturn, 1) := by decide +kernel
theorem dJ2_checkIndex_2214a_0 : decode cJ2_checkIndex_2214a 0 = .ok (.iload_n 0, 1) := by decide +kernel
theorem dJ2_checkIndex_2214a_1 : decode cJ2_checkIndex_2214a 1 = .ok (.aload_n 1, 1) := by decide +kernel
theorem dJ2_checkIndex_2214a_2 : decode cJ2_checkIndex_2214a 2 = .ok (.invokestatic 48, 3) := by decide +kernel
theorem dJ2_checkIndex_2214a_5 : decode cJ2_checkIndex_2214a 5 = .ok (.invokestatic 414, 3) := by decide +kernel
theorem dJ2_checkIndex_2214a_8 : decode cJ2_checkIndex_2214a 8 = .ok (.return_, 1) := by decide +kernel
theorem dJ2_checkBoundsBeginEnd_d044e_0 : decode cJ2_checkBoundsBeginEnd_d044e 0 = .ok (.iload_n 0, 1) := by decide +kernel
theorem dJ2_checkBoundsBeginEnd_d044e_1 : decode cJ2_checkBoundsBeginEnd_d044e 1 = .ok (.iload_n 1, 1) := by decide +kernel
theorem dJ2_checkBoundsBeginEnd_d044e_2 : decode cJ2_checkBoundsBeginEnd_d044e 2 = .ok (.aload_n 2, 1) := by decide +kernel
theorem dJ2_checkBoundsBeginEnd_d044e_3 : decode cJ2_checkBoundsBeginEnd_d044e 3 = .ok (.invokestatic 48, 3) := by decide +kernel
theorem dJ2_checkBoundsBeginEnd_d044e_6 : decode cJ2_checkBoundsBeginEnd_d044e 6 = .ok (.invokestatic 241, 3) := by decide +kernel
theorem dJ2_checkBoundsBeginEnd_d044e_9 : decode cJ2_checkBoundsBeginEnd_d044e 9 = .ok (.return_, 1) := by decide +kernel
theorem dJ7_fill_53178_0 : decode cJ7_fill_53178 0 = .ok (.iconst 0, 1) := by decide +kernel
theorem dJ7_fill_53178_1 : decode cJ7_fill_53178 1 = .ok (.istore_n 2, 1) := by decide +kernel
theorem dJ7_fill_53178_2 : decode cJ7_fill_53178 2 = .ok (.aload_n 0, 1) := by decide +kernel
theorem dJ7_fill_53178_3 : decode cJ7_fill_53178 3 = .ok (.arraylength, 1) := by decide +kernel
theorem dJ7_fill_53178_4 : decode cJ7_fill_53178 4 = .ok (.istore_n 3, 1) := by decide +kernel
theorem dJ7_fill_53178_5 : decode cJ7_fill_53178 5 = .ok (.iload_n 2, 1) := by decide +kernel
theorem dJ7_fill_53178_6 : decode cJ7_fill_53178 6 = .ok (.iload_n 3, 1) := by decide +kernel
theorem dJ7_fill_53178_7 : decode cJ7_fill_53178 7 = .ok (.if_icmp .ge 13, 3) := by decide +kernel
theorem dJ7_fill_53178_10 : decode cJ7_fill_53178 10 = .ok (.aload_n 0, 1) := by decide +kernel
theorem dJ7_fill_53178_11 : decode cJ7_fill_53178 11 = .ok (.iload_n 2, 1) := by decide +kernel
theorem dJ7_fill_53178_12 : decode cJ7_fill_53178 12 = .ok (.iload_n 1, 1) := by decide +kernel
theorem dJ7_fill_53178_13 : decode cJ7_fill_53178 13 = .ok (.iastore, 1) := by decide +kernel
theorem dJ7_fill_53178_14 : decode cJ7_fill_53178 14 = .ok (.iinc 2 1, 3) := by decide +kernel
theorem dJ7_fill_53178_17 : decode cJ7_fill_53178 17 = .ok (.goto (-12), 3) := by decide +kernel
theorem dJ7_fill_53178_20 : decode cJ7_fill_53178 20 = .ok (.return_, 1) := by decide +kernel
theorem dJ3_checkIndex_8e157_0 : decode cJ3_checkIndex_8e157 0 = .ok (.iload_n 0, 1) := by decide +kernel
theorem dJ3_checkIndex_8e157_1 : decode cJ3_checkIndex_8e157 1 = .ok (.ifCond .lt 8, 3) := by decide +kernel
theorem dJ3_checkIndex_8e157_4 : decode cJ3_checkIndex_8e157 4 = .ok (.iload_n 0, 1) := by decide +kernel
theorem dJ3_checkIndex_8e157_5 : decode cJ3_checkIndex_8e157 5 = .ok (.iload_n 1, 1) := by decide +kernel
theorem dJ3_checkIndex_8e157_6 : decode cJ3_checkIndex_8e157 6 = .ok (.if_icmp .lt 10, 3) := by decide +kernel
theorem dJ3_checkIndex_8e157_9 : decode cJ3_checkIndex_8e157 9 = .ok (.aload_n 2, 1) := by decide +kernel
theorem dJ3_checkIndex_8e157_10 : decode cJ3_checkIndex_8e157 10 = .ok (.iload_n 0, 1) := by decide +kernel
theorem dJ3_checkIndex_8e157_11 : decode cJ3_checkIndex_8e157 11 = .ok (.iload_n 1, 1) := by decide +kernel
theorem dJ3_checkIndex_8e157_12 : decode cJ3_checkIndex_8e157 12 = .ok (.invokestatic 95, 3) := by decide +kernel
theorem dJ3_checkIndex_8e157_15 : decode cJ3_checkIndex_8e157 15 = .ok (.athrow, 1) := by decide +kernel
theorem dJ3_checkIndex_8e157_16 : decode cJ3_checkIndex_8e157 16 = .ok (.iload_n 0, 1) := by decide +kernel
theorem dJ3_checkIndex_8e157_17 : decode cJ3_checkIndex_8e157 17 = .ok (.ireturn, 1) := by decide +kernel
theorem dJ3_checkFromToIndex_8c36e_0 : decode cJ3_checkFromToIndex_8c36e 0 = .ok (.iload_n 0, 1) := by decide +kernel
theorem dJ3_checkFromToIndex_8c36e_1 : decode cJ3_checkFromToIndex_8c36e 1 = .ok (.ifCond .lt 13, 3) := by decide +kernel
theorem dJ3_checkFromToIndex_8c36e_4 : decode cJ3_checkFromToIndex_8c36e 4 = .ok (.iload_n 0, 1) := by decide +kernel
theorem dJ3_checkFromToIndex_8c36e_5 : decode cJ3_checkFromToIndex_8c36e 5 = .ok (.iload_n 1, 1) := by decide +kernel
theorem dJ3_checkFromToIndex_8c36e_6 : decode cJ3_checkFromToIndex_8c36e 6 = .ok (.if_icmp .gt 8, 3) := by decide +kernel
theorem dJ3_checkFromToIndex_8c36e_9 : decode cJ3_checkFromToIndex_8c36e 9 = .ok (.iload_n 1, 1) := by decide +kernel
theorem dJ3_checkFromToIndex_8c36e_10 : decode cJ3_checkFromToIndex_8c36e 10 = .ok (.iload_n 2, 1) := by decide +kernel
theorem dJ3_checkFromToIndex_8c36e_11 : decode cJ3_checkFromToIndex_8c36e 11 = .ok (.if_icmp .le 11, 3) := by decide +kernel
theorem dJ3_checkFromToIndex_8c36e_14 : decode cJ3_checkFromToIndex_8c36e 14 = .ok (.aload_n 3, 1) := by decide +kernel
theorem dJ3_checkFromToIndex_8c36e_15 : decode cJ3_checkFromToIndex_8c36e 15 = .ok (.iload_n 0, 1) := by decide +kernel
theorem dJ3_checkFromToIndex_8c36e_16 : decode cJ3_checkFromToIndex_8c36e 16 = .ok (.iload_n 1, 1) := by decide +kernel
theorem dJ3_checkFromToIndex_8c36e_17 : decode cJ3_checkFromToIndex_8c36e 17 = .ok (.iload_n 2, 1) := by decide +kernel
theorem dJ3_checkFromToIndex_8c36e_18 : decode cJ3_checkFromToIndex_8c36e 18 = .ok (.invokestatic 99, 3) := by decide +kernel
theorem dJ3_checkFromToIndex_8c36e_21 : decode cJ3_checkFromToIndex_8c36e 21 = .ok (.athrow, 1) := by decide +kernel
theorem dJ3_checkFromToIndex_8c36e_22 : decode cJ3_checkFromToIndex_8c36e 22 = .ok (.iload_n 0, 1) := by decide +kernel
theorem dJ3_checkFromToIndex_8c36e_23 : decode cJ3_checkFromToIndex_8c36e 23 = .ok (.ireturn, 1) := by decide +kernel
theorem dX0_init_0 : decode cX0_init 0 = .ok (.aload_n 0, 1) := by decide +kernel
theorem dX0_init_1 : decode cX0_init 1 = .ok (.invokespecial 1, 3) := by decide +kernel
theorem dX0_init_4 : decode cX0_init 4 = .ok (.aload_n 0, 1) := by decide +kernel
theorem dX0_init_5 : decode cX0_init 5 = .ok (.sipush 1120, 3) := by decide +kernel
theorem dX0_init_8 : decode cX0_init 8 = .ok (.newarray .int, 2) := by decide +kernel
theorem dX0_init_10 : decode cX0_init 10 = .ok (.putfield 11, 3) := by decide +kernel
theorem dX0_init_13 : decode cX0_init 13 = .ok (.aload_n 0, 1) := by decide +kernel
theorem dX0_init_14 : decode cX0_init 14 = .ok (.iconst 0, 1) := by decide +kernel
theorem dX0_init_15 : decode cX0_init 15 = .ok (.putfield 15, 3) := by decide +kernel
theorem dX0_init_18 : decode cX0_init 18 = .ok (.aload_n 0, 1) := by decide +kernel
theorem dX0_init_19 : decode cX0_init 19 = .ok (.iconst 0, 1) := by decide +kernel
theorem dX0_init_20 : decode cX0_init 20 = .ok (.putfield 19, 3) := by decide +kernel
theorem dX0_init_23 : decode cX0_init 23 = .ok (.return_, 1) := by decide +kernel
theorem dX0_keep_0 : decode cX0_keep 0 = .ok (.aload_n 1, 1) := by decide +kernel
theorem dX0_keep_1 : decode cX0_keep 1 = .ok (.aload_n 0, 1) := by decide +kernel
theorem dX0_keep_2 : decode cX0_keep 2 = .ok (.getfield 11, 3) := by decide +kernel
theorem dX0_keep_5 : decode cX0_keep 5 = .ok (.aload_n 0, 1) := by decide +kernel
theorem dX0_keep_6 : decode cX0_keep 6 = .ok (.getfield 15, 3) := by decide +kernel
theorem dX0_keep_9 : decode cX0_keep 9 = .ok (.bipush 28, 2) := by decide +kernel
theorem dX0_keep_11 : decode cX0_keep 11 = .ok (.imul, 1) := by decide +kernel
theorem dX0_keep_12 : decode cX0_keep 12 = .ok (.invokevirtual 22, 3) := by decide +kernel
theorem dX0_keep_15 : decode cX0_keep 15 = .ok (.aload_n 0, 1) := by decide +kernel
theorem dX0_keep_16 : decode cX0_keep 16 = .ok (.aload_n 0, 1) := by decide +kernel
theorem dX0_keep_17 : decode cX0_keep 17 = .ok (.getfield 15, 3) := by decide +kernel
theorem dX0_keep_20 : decode cX0_keep 20 = .ok (.bipush 39, 2) := by decide +kernel
theorem dX0_keep_22 : decode cX0_keep 22 = .ok (.if_icmp .ne 7, 3) := by decide +kernel
theorem dX0_keep_25 : decode cX0_keep 25 = .ok (.iconst 0, 1) := by decide +kernel
theorem dX0_keep_26 : decode cX0_keep 26 = .ok (.goto 9, 3) := by decide +kernel
theorem dX0_keep_29 : decode cX0_keep 29 = .ok (.aload_n 0, 1) := by decide +kernel
theorem dX0_keep_30 : decode cX0_keep 30 = .ok (.getfield 15, 3) := by decide +kernel
theorem dX0_keep_33 : decode cX0_keep 33 = .ok (.iconst 1, 1) := by decide +kernel
theorem dX0_keep_34 : decode cX0_keep 34 = .ok (.iadd, 1) := by decide +kernel
theorem dX0_keep_35 : decode cX0_keep 35 = .ok (.putfield 15, 3) := by decide +kernel
theorem dX0_keep_38 : decode cX0_keep 38 = .ok (.aload_n 0, 1) := by decide +kernel
theorem dX0_keep_39 : decode cX0_keep 39 = .ok (.bipush 40, 2) := by decide +kernel
theorem dX0_keep_41 : decode cX0_keep 41 = .ok (.aload_n 0, 1) := by decide +kernel
theorem dX0_keep_42 : decode cX0_keep 42 = .ok (.getfield 19, 3) := by decide +kernel
theorem dX0_keep_45 : decode cX0_keep 45 = .ok (.iconst 1, 1) := by decide +kernel
theorem dX0_keep_46 : decode cX0_keep 46 = .ok (.iadd, 1) := by decide +kernel
theorem dX0_keep_47 : decode cX0_keep 47 = .ok (.invokestatic 26, 3) := by decide +kernel
theorem dX0_keep_50 : decode cX0_keep 50 = .ok (.putfield 19, 3) := by decide +kernel
theorem dX0_keep_53 : decode cX0_keep 53 = .ok (.return_, 1) := by decide +kernel
theorem dX0_takeBack_0 : decode cX0_takeBack 0 = .ok (.aload_n 0, 1) := by decide +kernel
theorem dX0_takeBack_1 : decode cX0_takeBack 1 = .ok (.getfield 19, 3) := by decide +kernel
theorem dX0_takeBack_4 : decode cX0_takeBack 4 = .ok (.ifCond .gt 5, 3) := by decide +kernel
theorem dX0_takeBack_7 : decode cX0_takeBack 7 = .ok (.iconst 0, 1) := by decide +kernel
theorem dX0_takeBack_8 : decode cX0_takeBack 8 = .ok (.ireturn, 1) := by decide +kernel
theorem dX0_takeBack_9 : decode cX0_takeBack 9 = .ok (.aload_n 0, 1) := by decide +kernel
theorem dX0_takeBack_10 : decode cX0_takeBack 10 = .ok (.aload_n 0, 1) := by decide +kernel
theorem dX0_takeBack_11 : decode cX0_takeBack 11 = .ok (.getfield 15, 3) := by decide +kernel
theorem dX0_takeBack_14 : decode cX0_takeBack 14 = .ok (.ifCond .ne 8, 3) := by decide +kernel
theorem dX0_takeBack_17 : decode cX0_takeBack 17 = .ok (.bipush 39, 2) := by decide +kernel
theorem dX0_takeBack_19 : decode cX0_takeBack 19 = .ok (.goto 9, 3) := by decide +kernel
theorem dX0_takeBack_22 : decode cX0_takeBack 22 = .ok (.aload_n 0, 1) := by decide +kernel
theorem dX0_takeBack_23 : decode cX0_takeBack 23 = .ok (.getfield 15, 3) := by decide +kernel
theorem dX0_takeBack_26 : decode cX0_takeBack 26 = .ok (.iconst 1, 1) := by decide +kernel
theorem dX0_takeBack_27 : decode cX0_takeBack 27 = .ok (.isub, 1) := by decide +kernel
theorem dX0_takeBack_28 : decode cX0_takeBack 28 = .ok (.putfield 15, 3) := by decide +kernel
theorem dX0_takeBack_31 : decode cX0_takeBack 31 = .ok (.aload_n 0, 1) := by decide +kernel
theorem dX0_takeBack_32 : decode cX0_takeBack 32 = .ok (.dup, 1) := by decide +kernel
theorem dX0_takeBack_33 : decode cX0_takeBack 33 = .ok (.getfield 19, 3) := by decide +kernel
theorem dX0_takeBack_36 : decode cX0_takeBack 36 = .ok (.iconst 1, 1) := by decide +kernel
theorem dX0_takeBack_37 : decode cX0_takeBack 37 = .ok (.isub, 1) := by decide +kernel
theorem dX0_takeBack_38 : decode cX0_takeBack 38 = .ok (.putfield 19, 3) := by decide +kernel
theorem dX0_takeBack_41 : decode cX0_takeBack 41 = .ok (.aload_n 1, 1) := by decide +kernel
theorem dX0_takeBack_42 : decode cX0_takeBack 42 = .ok (.aload_n 0, 1) := by decide +kernel
theorem dX0_takeBack_43 : decode cX0_takeBack 43 = .ok (.getfield 11, 3) := by decide +kernel
theorem dX0_takeBack_46 : decode cX0_takeBack 46 = .ok (.aload_n 0, 1) := by decide +kernel
theorem dX0_takeBack_47 : decode cX0_takeBack 47 = .ok (.getfield 15, 3) := by decide +kernel
theorem dX0_takeBack_50 : decode cX0_takeBack 50 = .ok (.bipush 28, 2) := by decide +kernel
theorem dX0_takeBack_52 : decode cX0_takeBack 52 = .ok (.imul, 1) := by decide +kernel
theorem dX0_takeBack_53 : decode cX0_takeBack 53 = .ok (.invokevirtual 32, 3) := by decide +kernel
theorem dX0_takeBack_56 : decode cX0_takeBack 56 = .ok (.iconst 1, 1) := by decide +kernel
theorem dX0_takeBack_57 : decode cX0_takeBack 57 = .ok (.ireturn, 1) := by decide +kernel
theorem dX0_forget_0 : decode cX0_forget 0 = .ok (.aload_n 0, 1) := by decide +kernel
theorem dX0_forget_1 : decode cX0_forget 1 = .ok (.iconst 0, 1) := by decide +kernel
theorem dX0_forget_2 : decode cX0_forget 2 = .ok (.putfield 15, 3) := by decide +kernel
theorem dX0_forget_5 : decode cX0_forget 5 = .ok (.aload_n 0, 1) := by decide +kernel
theorem dX0_forget_6 : decode cX0_forget 6 = .ok (.iconst 0, 1) := by decide +kernel
theorem dX0_forget_7 : decode cX0_forget 7 = .ok (.putfield 19, 3) := by decide +kernel
theorem dX0_forget_10 : decode cX0_forget 10 = .ok (.return_, 1) := by decide +kernel
theorem dX1_init_0 : decode cX1_init 0 = .ok (.aload_n 0, 1) := by decide +kernel
theorem dX1_init_1 : decode cX1_init 1 = .ok (.invokespecial 3, 3) := by decide +kernel
theorem dX1_init_4 : decode cX1_init 4 = .ok (.aload_n 0, 1) := by decide +kernel
theorem dX1_init_5 : decode cX1_init 5 = .ok (.sipush 721, 3) := by decide +kernel
theorem dX1_init_8 : decode cX1_init 8 = .ok (.newarray .int, 2) := by decide +kernel
theorem dX1_init_10 : decode cX1_init 10 = .ok (.putfield 11, 3) := by decide +kernel
theorem dX1_init_13 : decode cX1_init 13 = .ok (.aload_n 0, 1) := by decide +kernel
theorem dX1_init_14 : decode cX1_init 14 = .ok (.sipush 721, 3) := by decide +kernel
theorem dX1_init_17 : decode cX1_init 17 = .ok (.newarray .int, 2) := by decide +kernel
theorem dX1_init_19 : decode cX1_init 19 = .ok (.putfield 15, 3) := by decide +kernel
theorem dX1_init_22 : decode cX1_init 22 = .ok (.aload_n 0, 1) := by decide +kernel
theorem dX1_init_23 : decode cX1_init 23 = .ok (.sipush 721, 3) := by decide +kernel
theorem dX1_init_26 : decode cX1_init 26 = .ok (.newarray .int, 2) := by decide +kernel
theorem dX1_init_28 : decode cX1_init 28 = .ok (.putfield 18, 3) := by decide +kernel
theorem dX1_init_31 : decode cX1_init 31 = .ok (.aload_n 0, 1) := by decide +kernel
theorem dX1_init_32 : decode cX1_init 32 = .ok (.sipush 721, 3) := by decide +kernel
theorem dX1_init_35 : decode cX1_init 35 = .ok (.newarray .int, 2) := by decide +kernel
theorem dX1_init_37 : decode cX1_init 37 = .ok (.putfield 21, 3) := by decide +kernel
theorem dX1_init_40 : decode cX1_init 40 = .ok (.aload_n 0, 1) := by decide +kernel
theorem dX1_init_41 : decode cX1_init 41 = .ok (.iconst 0, 1) := by decide +kernel
theorem dX1_init_42 : decode cX1_init 42 = .ok (.putfield 24, 3) := by decide +kernel
theorem dX1_init_45 : decode cX1_init 45 = .ok (.aload_n 0, 1) := by decide +kernel
theorem dX1_init_46 : decode cX1_init 46 = .ok (.iconst 0, 1) := by decide +kernel
theorem dX1_init_47 : decode cX1_init 47 = .ok (.putfield 28, 3) := by decide +kernel
theorem dX1_init_50 : decode cX1_init 50 = .ok (.aload_n 0, 1) := by decide +kernel
theorem dX1_init_51 : decode cX1_init 51 = .ok (.iconst 4, 1) := by decide +kernel
theorem dX1_init_52 : decode cX1_init 52 = .ok (.newarray .int, 2) := by decide +kernel
theorem dX1_init_54 : decode cX1_init 54 = .ok (.putfield 32, 3) := by decide +kernel
theorem dX1_init_57 : decode cX1_init 57 = .ok (.return_, 1) := by decide +kernel
theorem dX1_build_0 : decode cX1_build 0 = .ok (.aload_n 0, 1) := by decide +kernel
theorem dX1_build_1 : decode cX1_build 1 = .ok (.getfield 28, 3) := by decide +kernel
theorem dX1_build_4 : decode cX1_build 4 = .ok (.ifCond .eq 4, 3) := by decide +kernel
theorem dX1_build_7 : decode cX1_build 7 = .ok (.return_, 1) := by decide +kernel
theorem dX1_build_8 : decode cX1_build 8 = .ok (.aload_n 1, 1) := by decide +kernel
theorem dX1_build_9 : decode cX1_build 9 = .ok (.getfield 35, 3) := by decide +kernel
theorem dX1_build_12 : decode cX1_build 12 = .ok (.iconst 2, 1) := by decide +kernel
theorem dX1_build_13 : decode cX1_build 13 = .ok (.iaload, 1) := by decide +kernel
theorem dX1_build_14 : decode cX1_build 14 = .ok (.istore_n 2, 1) := by decide +kernel
theorem dX1_build_15 : decode cX1_build 15 = .ok (.aload_n 1, 1) := by decide +kernel
theorem dX1_build_16 : decode cX1_build 16 = .ok (.getfield 35, 3) := by decide +kernel
theorem dX1_build_19 : decode cX1_build 19 = .ok (.iconst 3, 1) := by decide +kernel
theorem dX1_build_20 : decode cX1_build 20 = .ok (.iaload, 1) := by decide +kernel
theorem dX1_build_21 : decode cX1_build 21 = .ok (.istore_n 3, 1) := by decide +kernel
theorem dX1_build_22 : decode cX1_build 22 = .ok (.aload_n 0, 1) := by decide +kernel
theorem dX1_build_23 : decode cX1_build 23 = .ok (.sipush 360, 3) := by decide +kernel
theorem dX1_build_26 : decode cX1_build 26 = .ok (.aload_n 1, 1) := by decide +kernel
theorem dX1_build_27 : decode cX1_build 27 = .ok (.getfield 40, 3) := by decide +kernel
theorem dX1_build_30 : decode cX1_build 30 = .ok (.iconst 2, 1) := by decide +kernel
theorem dX1_build_31 : decode cX1_build 31 = .ok (.iaload, 1) := by decide +kernel
theorem dX1_build_32 : decode cX1_build 32 = .ok (.iload_n 2, 1) := by decide +kernel
theorem dX1_build_33 : decode cX1_build 33 = .ok (.imul, 1) := by decide +kernel
theorem dX1_build_34 : decode cX1_build 34 = .ok (.aload_n 1, 1) := by decide +kernel
theorem dX1_build_35 : decode cX1_build 35 = .ok (.getfield 40, 3) := by decide +kernel
theorem dX1_build_38 : decode cX1_build 38 = .ok (.iconst 3, 1) := by decide +kernel
theorem dX1_build_39 : decode cX1_build 39 = .ok (.iaload, 1) := by decide +kernel
theorem dX1_build_40 : decode cX1_build 40 = .ok (.iload_n 3, 1) := by decide +kernel
theorem dX1_build_41 : decode cX1_build 41 = .ok (.imul, 1) := by decide +kernel
theorem dX1_build_42 : decode cX1_build 42 = .ok (.iadd, 1) := by decide +kernel
theorem dX1_build_43 : decode cX1_build 43 = .ok (.invokestatic 43, 3) := by decide +kernel
theorem dX1_build_46 : decode cX1_build 46 = .ok (.putfield 24, 3) := by decide +kernel
theorem dX1_build_49 : decode cX1_build 49 = .ok (.aload_n 0, 1) := by decide +kernel
theorem dX1_build_50 : decode cX1_build 50 = .ok (.getfield 11, 3) := by decide +kernel
theorem dX1_build_53 : decode cX1_build 53 = .ok (.iconst (-1), 1) := by decide +kernel
theorem dX1_build_54 : decode cX1_build 54 = .ok (.invokestatic 49, 3) := by decide +kernel
theorem dX1_build_57 : decode cX1_build 57 = .ok (.aload_n 0, 1) := by decide +kernel
theorem dX1_build_58 : decode cX1_build 58 = .ok (.getfield 21, 3) := by decide +kernel
theorem dX1_build_61 : decode cX1_build 61 = .ok (.iconst 0, 1) := by decide +kernel
theorem dX1_build_62 : decode cX1_build 62 = .ok (.invokestatic 49, 3) := by decide +kernel
theorem dX1_build_65 : decode cX1_build 65 = .ok (.iload_n 2, 1) := by decide +kernel
theorem dX1_build_66 : decode cX1_build 66 = .ok (.ineg, 1) := by decide +kernel
theorem dX1_build_67 : decode cX1_build 67 = .ok (.istore 4, 2) := by decide +kernel
theorem dX1_build_69 : decode cX1_build 69 = .ok (.iload 4, 2) := by decide +kernel
theorem dX1_build_71 : decode cX1_build 71 = .ok (.iload_n 2, 1) := by decide +kernel
theorem dX1_build_72 : decode cX1_build 72 = .ok (.if_icmp .gt 52, 3) := by decide +kernel
theorem dX1_build_75 : decode cX1_build 75 = .ok (.iload_n 3, 1) := by decide +kernel
theorem dX1_build_76 : decode cX1_build 76 = .ok (.ineg, 1) := by decide +kernel
theorem dX1_build_77 : decode cX1_build 77 = .ok (.istore 5, 2) := by decide +kernel
theorem dX1_build_79 : decode cX1_build 79 = .ok (.iload 5, 2) := by decide +kernel
theorem dX1_build_81 : decode cX1_build 81 = .ok (.iload_n 3, 1) := by decide +kernel
theorem dX1_build_82 : decode cX1_build 82 = .ok (.if_icmp .gt 36, 3) := by decide +kernel
theorem dX1_build_85 : decode cX1_build 85 = .ok (.aload_n 0, 1) := by decide +kernel
theorem dX1_build_86 : decode cX1_build 86 = .ok (.aload_n 1, 1) := by decide +kernel
theorem dX1_build_87 : decode cX1_build 87 = .ok (.getfield 40, 3) := by decide +kernel
theorem dX1_build_90 : decode cX1_build 90 = .ok (.iconst 2, 1) := by decide +kernel
theorem dX1_build_91 : decode cX1_build 91 = .ok (.iaload, 1) := by decide +kernel
theorem dX1_build_92 : decode cX1_build 92 = .ok (.iload 4, 2) := by decide +kernel
theorem dX1_build_94 : decode cX1_build 94 = .ok (.imul, 1) := by decide +kernel
theorem dX1_build_95 : decode cX1_build 95 = .ok (.aload_n 1, 1) := by decide +kernel
theorem dX1_build_96 : decode cX1_build 96 = .ok (.getfield 40, 3) := by decide +kernel
theorem dX1_build_99 : decode cX1_build 99 = .ok (.iconst 3, 1) := by decide +kernel
theorem dX1_build_100 : decode cX1_build 100 = .ok (.iaload, 1) := by decide +kernel
theorem dX1_build_101 : decode cX1_build 101 = .ok (.iload 5, 2) := by decide +kernel
theorem dX1_build_103 : decode cX1_build 103 = .ok (.imul, 1) := by decide +kernel
theorem dX1_build_104 : decode cX1_build 104 = .ok (.iadd, 1) := by decide +kernel
theorem dX1_build_105 : decode cX1_build 105 = .ok (.iload 4, 2) := by decide +kernel
theorem dX1_build_107 : decode cX1_build 107 = .ok (.iload 5, 2) := by decide +kernel
theorem dX1_build_109 : decode cX1_build 109 = .ok (.invokevirtual 55, 3) := by decide +kernel
theorem dX1_build_112 : decode cX1_build 112 = .ok (.iinc 5 1, 3) := by decide +kernel
theorem dX1_build_115 : decode cX1_build 115 = .ok (.goto (-36), 3) := by decide +kernel
theorem dX1_build_118 : decode cX1_build 118 = .ok (.iinc 4 1, 3) := by decide +kernel
theorem dX1_build_121 : decode cX1_build 121 = .ok (.goto (-52), 3) := by decide +kernel
theorem dX1_build_124 : decode cX1_build 124 = .ok (.aload_n 0, 1) := by decide +kernel
theorem dX1_build_125 : decode cX1_build 125 = .ok (.iconst 1, 1) := by decide +kernel
theorem dX1_build_126 : decode cX1_build 126 = .ok (.putfield 28, 3) := by decide +kernel
theorem dX1_build_129 : decode cX1_build 129 = .ok (.return_, 1) := by decide +kernel
theorem dX1_note_0 : decode cX1_note 0 = .ok (.aload_n 0, 1) := by decide +kernel
theorem dX1_note_1 : decode cX1_note 1 = .ok (.iload_n 1, 1) := by decide +kernel
theorem dX1_note_2 : decode cX1_note 2 = .ok (.invokevirtual 59, 3) := by decide +kernel
theorem dX1_note_5 : decode cX1_note 5 = .ok (.istore 4, 2) := by decide +kernel
theorem dX1_note_7 : decode cX1_note 7 = .ok (.iload 4, 2) := by decide +kernel
theorem dX1_note_9 : decode cX1_note 9 = .ok (.iconst (-1), 1) := by decide +kernel
theorem dX1_note_10 : decode cX1_note 10 = .ok (.if_icmp .ne 4, 3) := by decide +kernel
theorem dX1_note_13 : decode cX1_note 13 = .ok (.return_, 1) := by decide +kernel
theorem dX1_note_14 : decode cX1_note 14 = .ok (.aload_n 0, 1) := by decide +kernel
theorem dX1_note_15 : decode cX1_note 15 = .ok (.getfield 21, 3) := by decide +kernel
theorem dX1_note_18 : decode cX1_note 18 = .ok (.iload 4, 2) := by decide +kernel
theorem dX1_note_20 : decode cX1_note 20 = .ok (.dup2, 1) := by decide +kernel
theorem dX1_note_21 : decode cX1_note 21 = .ok (.iaload, 1) := by decide +kernel
theorem dX1_note_22 : decode cX1_note 22 = .ok (.iconst 1, 1) := by decide +kernel
theorem dX1_note_23 : decode cX1_note 23 = .ok (.iadd, 1) := by decide +kernel
theorem dX1_note_24 : decode cX1_note 24 = .ok (.iastore, 1) := by decide +kernel
theorem dX1_note_25 : decode cX1_note 25 = .ok (.iload_n 2, 1) := by decide +kernel
theorem dX1_note_26 : decode cX1_note 26 = .ok (.invokestatic 63, 3) := by decide +kernel
theorem dX1_note_29 : decode cX1_note 29 = .ok (.iload_n 3, 1) := by decide +kernel
theorem dX1_note_30 : decode cX1_note 30 = .ok (.invokestatic 63, 3) := by decide +kernel
theorem dX1_note_33 : decode cX1_note 33 = .ok (.iadd, 1) := by decide +kernel
theorem dX1_note_34 : decode cX1_note 34 = .ok (.istore 5, 2) := by decide +kernel
theorem dX1_note_36 : decode cX1_note 36 = .ok (.aload_n 0, 1) := by decide +kernel
theorem dX1_note_37 : decode cX1_note 37 = .ok (.getfield 11, 3) := by decide +kernel
theorem dX1_note_40 : decode cX1_note 40 = .ok (.iload 4, 2) := by decide +kernel
theorem dX1_note_42 : decode cX1_note 42 = .ok (.iaload, 1) := by decide +kernel
theorem dX1_note_43 : decode cX1_note 43 = .ok (.iconst (-1), 1) := by decide +kernel
theorem dX1_note_44 : decode cX1_note 44 = .ok (.if_icmp .eq 15, 3) := by decide +kernel
theorem dX1_note_47 : decode cX1_note 47 = .ok (.iload 5, 2) := by decide +kernel
theorem dX1_note_49 : decode cX1_note 49 = .ok (.aload_n 0, 1) := by decide +kernel
theorem dX1_note_50 : decode cX1_note 50 = .ok (.getfield 11, 3) := by decide +kernel
theorem dX1_note_53 : decode cX1_note 53 = .ok (.iload 4, 2) := by decide +kernel
theorem dX1_note_55 : decode cX1_note 55 = .ok (.iaload, 1) := by decide +kernel
theorem dX1_note_56 : decode cX1_note 56 = .ok (.if_icmp .ge 28, 3) := by decide +kernel
theorem dX1_note_59 : decode cX1_note 59 = .ok (.aload_n 0, 1) := by decide +kernel
theorem dX1_note_60 : decode cX1_note 60 = .ok (.getfield 11, 3) := by decide +kernel
theorem dX1_note_63 : decode cX1_note 63 = .ok (.iload 4, 2) := by decide +kernel
theorem dX1_note_65 : decode cX1_note 65 = .ok (.iload 5, 2) := by decide +kernel
theorem dX1_note_67 : decode cX1_note 67 = .ok (.iastore, 1) := by decide +kernel
theorem dX1_note_68 : decode cX1_note 68 = .ok (.aload_n 0, 1) := by decide +kernel
theorem dX1_note_69 : decode cX1_note 69 = .ok (.getfield 15, 3) := by decide +kernel
theorem dX1_note_72 : decode cX1_note 72 = .ok (.iload 4, 2) := by decide +kernel
theorem dX1_note_74 : decode cX1_note 74 = .ok (.iload_n 2, 1) := by decide +kernel
theorem dX1_note_75 : decode cX1_note 75 = .ok (.iastore, 1) := by decide +kernel
theorem dX1_note_76 : decode cX1_note 76 = .ok (.aload_n 0, 1) := by decide +kernel
theorem dX1_note_77 : decode cX1_note 77 = .ok (.getfield 18, 3) := by decide +kernel
theorem dX1_note_80 : decode cX1_note 80 = .ok (.iload 4, 2) := by decide +kernel
theorem dX1_note_82 : decode cX1_note 82 = .ok (.iload_n 3, 1) := by decide +kernel
theorem dX1_note_83 : decode cX1_note 83 = .ok (.iastore, 1) := by decide +kernel
theorem dX1_note_84 : decode cX1_note 84 = .ok (.return_, 1) := by decide +kernel
theorem dX1_placeOf_0 : decode cX1_placeOf 0 = .ok (.iload_n 1, 1) := by decide +kernel
theorem dX1_placeOf_1 : decode cX1_placeOf 1 = .ok (.aload_n 0, 1) := by decide +kernel
theorem dX1_placeOf_2 : decode cX1_placeOf 2 = .ok (.getfield 24, 3) := by decide +kernel
theorem dX1_placeOf_5 : decode cX1_placeOf 5 = .ok (.ineg, 1) := by decide +kernel
theorem dX1_placeOf_6 : decode cX1_placeOf 6 = .ok (.if_icmp .lt 20, 3) := by decide +kernel
theorem dX1_placeOf_9 : decode cX1_placeOf 9 = .ok (.iload_n 1, 1) := by decide +kernel
theorem dX1_placeOf_10 : decode cX1_placeOf 10 = .ok (.aload_n 0, 1) := by decide +kernel
theorem dX1_placeOf_11 : decode cX1_placeOf 11 = .ok (.getfield 24, 3) := by decide +kernel
theorem dX1_placeOf_14 : decode cX1_placeOf 14 = .ok (.if_icmp .gt 12, 3) := by decide +kernel
theorem dX1_placeOf_17 : decode cX1_placeOf 17 = .ok (.iload_n 1, 1) := by decide +kernel
theorem dX1_placeOf_18 : decode cX1_placeOf 18 = .ok (.aload_n 0, 1) := by decide +kernel
theorem dX1_placeOf_19 : decode cX1_placeOf 19 = .ok (.getfield 24, 3) := by decide +kernel
theorem dX1_placeOf_22 : decode cX1_placeOf 22 = .ok (.iadd, 1) := by decide +kernel
theorem dX1_placeOf_23 : decode cX1_placeOf 23 = .ok (.goto 4, 3) := by decide +kernel
theorem dX1_placeOf_26 : decode cX1_placeOf 26 = .ok (.iconst (-1), 1) := by decide +kernel
theorem dX1_placeOf_27 : decode cX1_placeOf 27 = .ok (.ireturn, 1) := by decide +kernel
theorem dX1_fewest_0 : decode cX1_fewest 0 = .ok (.aload_n 0, 1) := by decide +kernel
theorem dX1_fewest_1 : decode cX1_fewest 1 = .ok (.aload_n 1, 1) := by decide +kernel
theorem dX1_fewest_2 : decode cX1_fewest 2 = .ok (.invokevirtual 66, 3) := by decide +kernel
theorem dX1_fewest_5 : decode cX1_fewest 5 = .ok (.iconst (-1), 1) := by decide +kernel
theorem dX1_fewest_6 : decode cX1_fewest 6 = .ok (.istore_n 3, 1) := by decide +kernel
theorem dX1_fewest_7 : decode cX1_fewest 7 = .ok (.aload_n 1, 1) := by decide +kernel
theorem dX1_fewest_8 : decode cX1_fewest 8 = .ok (.getfield 35, 3) := by decide +kernel
theorem dX1_fewest_11 : decode cX1_fewest 11 = .ok (.iconst 0, 1) := by decide +kernel
theorem dX1_fewest_12 : decode cX1_fewest 12 = .ok (.iaload, 1) := by decide +kernel
theorem dX1_fewest_13 : decode cX1_fewest 13 = .ok (.istore 4, 2) := by decide +kernel
theorem dX1_fewest_15 : decode cX1_fewest 15 = .ok (.aload_n 1, 1) := by decide +kernel
theorem dX1_fewest_16 : decode cX1_fewest 16 = .ok (.getfield 35, 3) := by decide +kernel
theorem dX1_fewest_19 : decode cX1_fewest 19 = .ok (.iconst 1, 1) := by decide +kernel
theorem dX1_fewest_20 : decode cX1_fewest 20 = .ok (.iaload, 1) := by decide +kernel
theorem dX1_fewest_21 : decode cX1_fewest 21 = .ok (.istore 5, 2) := by decide +kernel
theorem dX1_fewest_23 : decode cX1_fewest 23 = .ok (.iload 4, 2) := by decide +kernel
theorem dX1_fewest_25 : decode cX1_fewest 25 = .ok (.ineg, 1) := by decide +kernel
theorem dX1_fewest_26 : decode cX1_fewest 26 = .ok (.istore 6, 2) := by decide +kernel
theorem dX1_fewest_28 : decode cX1_fewest 28 = .ok (.iload 6, 2) := by decide +kernel
theorem dX1_fewest_30 : decode cX1_fewest 30 = .ok (.iload 4, 2) := by decide +kernel
theorem dX1_fewest_32 : decode cX1_fewest 32 = .ok (.if_icmp .gt 149, 3) := by decide +kernel
theorem dX1_fewest_35 : decode cX1_fewest 35 = .ok (.iload 5, 2) := by decide +kernel
theorem dX1_fewest_37 : decode cX1_fewest 37 = .ok (.ineg, 1) := by decide +kernel
theorem dX1_fewest_38 : decode cX1_fewest 38 = .ok (.istore 7, 2) := by decide +kernel
theorem dX1_fewest_40 : decode cX1_fewest 40 = .ok (.iload 7, 2) := by decide +kernel
theorem dX1_fewest_42 : decode cX1_fewest 42 = .ok (.iload 5, 2) := by decide +kernel
theorem dX1_fewest_44 : decode cX1_fewest 44 = .ok (.if_icmp .gt 131, 3) := by decide +kernel
theorem dX1_fewest_47 : decode cX1_fewest 47 = .ok (.aload_n 0, 1) := by decide +kernel
theorem dX1_fewest_48 : decode cX1_fewest 48 = .ok (.iload_n 2, 1) := by decide +kernel
theorem dX1_fewest_49 : decode cX1_fewest 49 = .ok (.ineg, 1) := by decide +kernel
theorem dX1_fewest_50 : decode cX1_fewest 50 = .ok (.aload_n 1, 1) := by decide +kernel
theorem dX1_fewest_51 : decode cX1_fewest 51 = .ok (.getfield 40, 3) := by decide +kernel
theorem dX1_fewest_54 : decode cX1_fewest 54 = .ok (.iconst 0, 1) := by decide +kernel
theorem dX1_fewest_55 : decode cX1_fewest 55 = .ok (.iaload, 1) := by decide +kernel
theorem dX1_fewest_56 : decode cX1_fewest 56 = .ok (.iload 6, 2) := by decide +kernel
theorem dX1_fewest_58 : decode cX1_fewest 58 = .ok (.imul, 1) := by decide +kernel
theorem dX1_fewest_59 : decode cX1_fewest 59 = .ok (.isub, 1) := by decide +kernel
theorem dX1_fewest_60 : decode cX1_fewest 60 = .ok (.aload_n 1, 1) := by decide +kernel
theorem dX1_fewest_61 : decode cX1_fewest 61 = .ok (.getfield 40, 3) := by decide +kernel
theorem dX1_fewest_64 : decode cX1_fewest 64 = .ok (.iconst 1, 1) := by decide +kernel
theorem dX1_fewest_65 : decode cX1_fewest 65 = .ok (.iaload, 1) := by decide +kernel
theorem dX1_fewest_66 : decode cX1_fewest 66 = .ok (.iload 7, 2) := by decide +kernel
theorem dX1_fewest_68 : decode cX1_fewest 68 = .ok (.imul, 1) := by decide +kernel
theorem dX1_fewest_69 : decode cX1_fewest 69 = .ok (.isub, 1) := by decide +kernel
theorem dX1_fewest_70 : decode cX1_fewest 70 = .ok (.invokevirtual 59, 3) := by decide +kernel
theorem dX1_fewest_73 : decode cX1_fewest 73 = .ok (.istore 8, 2) := by decide +kernel
theorem dX1_fewest_75 : decode cX1_fewest 75 = .ok (.iload 8, 2) := by decide +kernel
theorem dX1_fewest_77 : decode cX1_fewest 77 = .ok (.iconst (-1), 1) := by decide +kernel
theorem dX1_fewest_78 : decode cX1_fewest 78 = .ok (.if_icmp .eq 91, 3) := by decide +kernel
theorem dX1_fewest_81 : decode cX1_fewest 81 = .ok (.aload_n 0, 1) := by decide +kernel
theorem dX1_fewest_82 : decode cX1_fewest 82 = .ok (.getfield 11, 3) := by decide +kernel
theorem dX1_fewest_85 : decode cX1_fewest 85 = .ok (.iload 8, 2) := by decide +kernel
theorem dX1_fewest_87 : decode cX1_fewest 87 = .ok (.iaload, 1) := by decide +kernel
theorem dX1_fewest_88 : decode cX1_fewest 88 = .ok (.iconst (-1), 1) := by decide +kernel
theorem dX1_fewest_89 : decode cX1_fewest 89 = .ok (.if_icmp .eq 80, 3) := by decide +kernel
theorem dX1_fewest_92 : decode cX1_fewest 92 = .ok (.iload 6, 2) := by decide +kernel
theorem dX1_fewest_94 : decode cX1_fewest 94 = .ok (.invokestatic 63, 3) := by decide +kernel
theorem dX1_fewest_97 : decode cX1_fewest 97 = .ok (.iload 7, 2) := by decide +kernel
theorem dX1_fewest_99 : decode cX1_fewest 99 = .ok (.invokestatic 63, 3) := by decide +kernel
theorem dX1_fewest_102 : decode cX1_fewest 102 = .ok (.iadd, 1) := by decide +kernel
theorem dX1_fewest_103 : decode cX1_fewest 103 = .ok (.aload_n 0, 1) := by decide +kernel
theorem dX1_fewest_104 : decode cX1_fewest 104 = .ok (.getfield 11, 3) := by decide +kernel
theorem dX1_fewest_107 : decode cX1_fewest 107 = .ok (.iload 8, 2) := by decide +kernel
theorem dX1_fewest_109 : decode cX1_fewest 109 = .ok (.iaload, 1) := by decide +kernel
theorem dX1_fewest_110 : decode cX1_fewest 110 = .ok (.iadd, 1) := by decide +kernel
theorem dX1_fewest_111 : decode cX1_fewest 111 = .ok (.istore 9, 2) := by decide +kernel
theorem dX1_fewest_113 : decode cX1_fewest 113 = .ok (.iload_n 3, 1) := by decide +kernel
theorem dX1_fewest_114 : decode cX1_fewest 114 = .ok (.iconst (-1), 1) := by decide +kernel
theorem dX1_fewest_115 : decode cX1_fewest 115 = .ok (.if_icmp .eq 9, 3) := by decide +kernel
theorem dX1_fewest_118 : decode cX1_fewest 118 = .ok (.iload 9, 2) := by decide +kernel
theorem dX1_fewest_120 : decode cX1_fewest 120 = .ok (.iload_n 3, 1) := by decide +kernel
theorem dX1_fewest_121 : decode cX1_fewest 121 = .ok (.if_icmp .ge 48, 3) := by decide +kernel
theorem dX1_fewest_124 : decode cX1_fewest 124 = .ok (.iload 9, 2) := by decide +kernel
theorem dX1_fewest_126 : decode cX1_fewest 126 = .ok (.istore_n 3, 1) := by decide +kernel
theorem dX1_fewest_127 : decode cX1_fewest 127 = .ok (.aload_n 0, 1) := by decide +kernel
theorem dX1_fewest_128 : decode cX1_fewest 128 = .ok (.getfield 32, 3) := by decide +kernel
theorem dX1_fewest_131 : decode cX1_fewest 131 = .ok (.iconst 0, 1) := by decide +kernel
theorem dX1_fewest_132 : decode cX1_fewest 132 = .ok (.iload 6, 2) := by decide +kernel
theorem dX1_fewest_134 : decode cX1_fewest 134 = .ok (.iastore, 1) := by decide +kernel
theorem dX1_fewest_135 : decode cX1_fewest 135 = .ok (.aload_n 0, 1) := by decide +kernel
theorem dX1_fewest_136 : decode cX1_fewest 136 = .ok (.getfield 32, 3) := by decide +kernel
theorem dX1_fewest_139 : decode cX1_fewest 139 = .ok (.iconst 1, 1) := by decide +kernel
theorem dX1_fewest_140 : decode cX1_fewest 140 = .ok (.iload 7, 2) := by decide +kernel
theorem dX1_fewest_142 : decode cX1_fewest 142 = .ok (.iastore, 1) := by decide +kernel
theorem dX1_fewest_143 : decode cX1_fewest 143 = .ok (.aload_n 0, 1) := by decide +kernel
theorem dX1_fewest_144 : decode cX1_fewest 144 = .ok (.getfield 32, 3) := by decide +kernel
theorem dX1_fewest_147 : decode cX1_fewest 147 = .ok (.iconst 2, 1) := by decide +kernel
theorem dX1_fewest_148 : decode cX1_fewest 148 = .ok (.aload_n 0, 1) := by decide +kernel
theorem dX1_fewest_149 : decode cX1_fewest 149 = .ok (.getfield 15, 3) := by decide +kernel
theorem dX1_fewest_152 : decode cX1_fewest 152 = .ok (.iload 8, 2) := by decide +kernel
theorem dX1_fewest_154 : decode cX1_fewest 154 = .ok (.iaload, 1) := by decide +kernel
theorem dX1_fewest_155 : decode cX1_fewest 155 = .ok (.iastore, 1) := by decide +kernel
theorem dX1_fewest_156 : decode cX1_fewest 156 = .ok (.aload_n 0, 1) := by decide +kernel
theorem dX1_fewest_157 : decode cX1_fewest 157 = .ok (.getfield 32, 3) := by decide +kernel
theorem dX1_fewest_160 : decode cX1_fewest 160 = .ok (.iconst 3, 1) := by decide +kernel
theorem dX1_fewest_161 : decode cX1_fewest 161 = .ok (.aload_n 0, 1) := by decide +kernel
theorem dX1_fewest_162 : decode cX1_fewest 162 = .ok (.getfield 18, 3) := by decide +kernel
theorem dX1_fewest_165 : decode cX1_fewest 165 = .ok (.iload 8, 2) := by decide +kernel
theorem dX1_fewest_167 : decode cX1_fewest 167 = .ok (.iaload, 1) := by decide +kernel
theorem dX1_fewest_168 : decode cX1_fewest 168 = .ok (.iastore, 1) := by decide +kernel
theorem dX1_fewest_169 : decode cX1_fewest 169 = .ok (.iinc 7 1, 3) := by decide +kernel
theorem dX1_fewest_172 : decode cX1_fewest 172 = .ok (.goto (-132), 3) := by decide +kernel
theorem dX1_fewest_175 : decode cX1_fewest 175 = .ok (.iinc 6 1, 3) := by decide +kernel
theorem dX1_fewest_178 : decode cX1_fewest 178 = .ok (.goto (-150), 3) := by decide +kernel
theorem dX1_fewest_181 : decode cX1_fewest 181 = .ok (.iload_n 3, 1) := by decide +kernel
theorem dX1_fewest_182 : decode cX1_fewest 182 = .ok (.ireturn, 1) := by decide +kernel
theorem dX1_rows_0 : decode cX1_rows 0 = .ok (.aload_n 0, 1) := by decide +kernel
theorem dX1_rows_1 : decode cX1_rows 1 = .ok (.aload_n 1, 1) := by decide +kernel
theorem dX1_rows_2 : decode cX1_rows 2 = .ok (.invokevirtual 66, 3) := by decide +kernel
theorem dX1_rows_5 : decode cX1_rows 5 = .ok (.iconst 0, 1) := by decide +kernel
theorem dX1_rows_6 : decode cX1_rows 6 = .ok (.istore_n 3, 1) := by decide +kernel
theorem dX1_rows_7 : decode cX1_rows 7 = .ok (.aload_n 1, 1) := by decide +kernel
theorem dX1_rows_8 : decode cX1_rows 8 = .ok (.getfield 35, 3) := by decide +kernel
theorem dX1_rows_11 : decode cX1_rows 11 = .ok (.iconst 0, 1) := by decide +kernel
theorem dX1_rows_12 : decode cX1_rows 12 = .ok (.iaload, 1) := by decide +kernel
theorem dX1_rows_13 : decode cX1_rows 13 = .ok (.istore 4, 2) := by decide +kernel
theorem dX1_rows_15 : decode cX1_rows 15 = .ok (.aload_n 1, 1) := by decide +kernel
theorem dX1_rows_16 : decode cX1_rows 16 = .ok (.getfield 35, 3) := by decide +kernel
theorem dX1_rows_19 : decode cX1_rows 19 = .ok (.iconst 1, 1) := by decide +kernel
theorem dX1_rows_20 : decode cX1_rows 20 = .ok (.iaload, 1) := by decide +kernel
theorem dX1_rows_21 : decode cX1_rows 21 = .ok (.istore 5, 2) := by decide +kernel
theorem dX1_rows_23 : decode cX1_rows 23 = .ok (.iload 4, 2) := by decide +kernel
theorem dX1_rows_25 : decode cX1_rows 25 = .ok (.ineg, 1) := by decide +kernel
theorem dX1_rows_26 : decode cX1_rows 26 = .ok (.istore 6, 2) := by decide +kernel
theorem dX1_rows_28 : decode cX1_rows 28 = .ok (.iload 6, 2) := by decide +kernel
theorem dX1_rows_30 : decode cX1_rows 30 = .ok (.iload 4, 2) := by decide +kernel
theorem dX1_rows_32 : decode cX1_rows 32 = .ok (.if_icmp .gt 71, 3) := by decide +kernel
theorem dX1_rows_35 : decode cX1_rows 35 = .ok (.iload 5, 2) := by decide +kernel
theorem dX1_rows_37 : decode cX1_rows 37 = .ok (.ineg, 1) := by decide +kernel
theorem dX1_rows_38 : decode cX1_rows 38 = .ok (.istore 7, 2) := by decide +kernel
theorem dX1_rows_40 : decode cX1_rows 40 = .ok (.iload 7, 2) := by decide +kernel
theorem dX1_rows_42 : decode cX1_rows 42 = .ok (.iload 5, 2) := by decide +kernel
theorem dX1_rows_44 : decode cX1_rows 44 = .ok (.if_icmp .gt 53, 3) := by decide +kernel
theorem dX1_rows_47 : decode cX1_rows 47 = .ok (.aload_n 0, 1) := by decide +kernel
theorem dX1_rows_48 : decode cX1_rows 48 = .ok (.iload_n 2, 1) := by decide +kernel
theorem dX1_rows_49 : decode cX1_rows 49 = .ok (.ineg, 1) := by decide +kernel
theorem dX1_rows_50 : decode cX1_rows 50 = .ok (.aload_n 1, 1) := by decide +kernel
theorem dX1_rows_51 : decode cX1_rows 51 = .ok (.getfield 40, 3) := by decide +kernel
theorem dX1_rows_54 : decode cX1_rows 54 = .ok (.iconst 0, 1) := by decide +kernel
theorem dX1_rows_55 : decode cX1_rows 55 = .ok (.iaload, 1) := by decide +kernel
theorem dX1_rows_56 : decode cX1_rows 56 = .ok (.iload 6, 2) := by decide +kernel
theorem dX1_rows_58 : decode cX1_rows 58 = .ok (.imul, 1) := by decide +kernel
theorem dX1_rows_59 : decode cX1_rows 59 = .ok (.isub, 1) := by decide +kernel
theorem dX1_rows_60 : decode cX1_rows 60 = .ok (.aload_n 1, 1) := by decide +kernel
theorem dX1_rows_61 : decode cX1_rows 61 = .ok (.getfield 40, 3) := by decide +kernel
theorem dX1_rows_64 : decode cX1_rows 64 = .ok (.iconst 1, 1) := by decide +kernel
theorem dX1_rows_65 : decode cX1_rows 65 = .ok (.iaload, 1) := by decide +kernel
theorem dX1_rows_66 : decode cX1_rows 66 = .ok (.iload 7, 2) := by decide +kernel
theorem dX1_rows_68 : decode cX1_rows 68 = .ok (.imul, 1) := by decide +kernel
theorem dX1_rows_69 : decode cX1_rows 69 = .ok (.isub, 1) := by decide +kernel
theorem dX1_rows_70 : decode cX1_rows 70 = .ok (.invokevirtual 59, 3) := by decide +kernel
theorem dX1_rows_73 : decode cX1_rows 73 = .ok (.istore 8, 2) := by decide +kernel
theorem dX1_rows_75 : decode cX1_rows 75 = .ok (.iload 8, 2) := by decide +kernel
theorem dX1_rows_77 : decode cX1_rows 77 = .ok (.iconst (-1), 1) := by decide +kernel
theorem dX1_rows_78 : decode cX1_rows 78 = .ok (.if_icmp .eq 13, 3) := by decide +kernel
theorem dX1_rows_81 : decode cX1_rows 81 = .ok (.iload_n 3, 1) := by decide +kernel
theorem dX1_rows_82 : decode cX1_rows 82 = .ok (.aload_n 0, 1) := by decide +kernel
theorem dX1_rows_83 : decode cX1_rows 83 = .ok (.getfield 21, 3) := by decide +kernel
theorem dX1_rows_86 : decode cX1_rows 86 = .ok (.iload 8, 2) := by decide +kernel
theorem dX1_rows_88 : decode cX1_rows 88 = .ok (.iaload, 1) := by decide +kernel
theorem dX1_rows_89 : decode cX1_rows 89 = .ok (.iadd, 1) := by decide +kernel
theorem dX1_rows_90 : decode cX1_rows 90 = .ok (.istore_n 3, 1) := by decide +kernel
theorem dX1_rows_91 : decode cX1_rows 91 = .ok (.iinc 7 1, 3) := by decide +kernel
theorem dX1_rows_94 : decode cX1_rows 94 = .ok (.goto (-54), 3) := by decide +kernel
theorem dX1_rows_97 : decode cX1_rows 97 = .ok (.iinc 6 1, 3) := by decide +kernel
theorem dX1_rows_100 : decode cX1_rows 100 = .ok (.goto (-72), 3) := by decide +kernel
theorem dX1_rows_103 : decode cX1_rows 103 = .ok (.iload_n 3, 1) := by decide +kernel
theorem dX1_rows_104 : decode cX1_rows 104 = .ok (.ireturn, 1) := by decide +kernel
theorem dX2_init_0 : decode cX2_init 0 = .ok (.aload_n 0, 1) := by decide +kernel
theorem dX2_init_1 : decode cX2_init 1 = .ok (.invokespecial 1, 3) := by decide +kernel
theorem dX2_init_4 : decode cX2_init 4 = .ok (.aload_n 0, 1) := by decide +kernel
theorem dX2_init_5 : decode cX2_init 5 = .ok (.lconst 0, 1) := by decide +kernel
theorem dX2_init_6 : decode cX2_init 6 = .ok (.putfield 7, 3) := by decide +kernel
theorem dX2_init_9 : decode cX2_init 9 = .ok (.return_, 1) := by decide +kernel
theorem dX2_draw_0 : decode cX2_draw 0 = .ok (.aload_n 0, 1) := by decide +kernel
theorem dX2_draw_1 : decode cX2_draw 1 = .ok (.aload_n 0, 1) := by decide +kernel
theorem dX2_draw_2 : decode cX2_draw 2 = .ok (.getfield 7, 3) := by decide +kernel
theorem dX2_draw_5 : decode cX2_draw 5 = .ok (.ldc2_w 13, 3) := by decide +kernel
theorem dX2_draw_8 : decode cX2_draw 8 = .ok (.lmul, 1) := by decide +kernel
theorem dX2_draw_9 : decode cX2_draw 9 = .ok (.ldc2_w 15, 3) := by decide +kernel
theorem dX2_draw_12 : decode cX2_draw 12 = .ok (.ladd, 1) := by decide +kernel
theorem dX2_draw_13 : decode cX2_draw 13 = .ok (.putfield 7, 3) := by decide +kernel
theorem dX2_draw_16 : decode cX2_draw 16 = .ok (.iload_n 1, 1) := by decide +kernel
theorem dX2_draw_17 : decode cX2_draw 17 = .ok (.ifCond .le 17, 3) := by decide +kernel
theorem dX2_draw_20 : decode cX2_draw 20 = .ok (.aload_n 0, 1) := by decide +kernel
theorem dX2_draw_21 : decode cX2_draw 21 = .ok (.getfield 7, 3) := by decide +kernel
theorem dX2_draw_24 : decode cX2_draw 24 = .ok (.bipush 33, 2) := by decide +kernel
theorem dX2_draw_26 : decode cX2_draw 26 = .ok (.lushr, 1) := by decide +kernel
theorem dX2_draw_27 : decode cX2_draw 27 = .ok (.iload_n 1, 1) := by decide +kernel
theorem dX2_draw_28 : decode cX2_draw 28 = .ok (.i2l, 1) := by decide +kernel
theorem dX2_draw_29 : decode cX2_draw 29 = .ok (.lrem, 1) := by decide +kernel
theorem dX2_draw_30 : decode cX2_draw 30 = .ok (.l2i, 1) := by decide +kernel
theorem dX2_draw_31 : decode cX2_draw 31 = .ok (.goto 4, 3) := by decide +kernel
theorem dX2_draw_34 : decode cX2_draw 34 = .ok (.iconst 0, 1) := by decide +kernel
theorem dX2_draw_35 : decode cX2_draw 35 = .ok (.ireturn, 1) := by decide +kernel
theorem dX3_init_0 : decode cX3_init 0 = .ok (.aload_n 0, 1) := by decide +kernel
theorem dX3_init_1 : decode cX3_init 1 = .ok (.invokespecial 3, 3) := by decide +kernel
theorem dX3_init_4 : decode cX3_init 4 = .ok (.aload_n 0, 1) := by decide +kernel
theorem dX3_init_5 : decode cX3_init 5 = .ok (.bipush 24, 2) := by decide +kernel
theorem dX3_init_7 : decode cX3_init 7 = .ok (.newarray .int, 2) := by decide +kernel
theorem dX3_init_9 : decode cX3_init 9 = .ok (.putfield 9, 3) := by decide +kernel
theorem dX3_init_12 : decode cX3_init 12 = .ok (.aload_n 0, 1) := by decide +kernel
theorem dX3_init_13 : decode cX3_init 13 = .ok (.iconst 4, 1) := by decide +kernel
theorem dX3_init_14 : decode cX3_init 14 = .ok (.newarray .int, 2) := by decide +kernel
theorem dX3_init_16 : decode cX3_init 16 = .ok (.putfield 15, 3) := by decide +kernel
theorem dX3_init_19 : decode cX3_init 19 = .ok (.aload_n 0, 1) := by decide +kernel
theorem dX3_init_20 : decode cX3_init 20 = .ok (.iconst 4, 1) := by decide +kernel
theorem dX3_init_21 : decode cX3_init 21 = .ok (.newarray .int, 2) := by decide +kernel
theorem dX3_init_23 : decode cX3_init 23 = .ok (.putfield 18, 3) := by decide +kernel
theorem dX3_init_26 : decode cX3_init 26 = .ok (.aload_n 0, 1) := by decide +kernel
theorem dX3_init_27 : decode cX3_init 27 = .ok (.iconst 4, 1) := by decide +kernel
theorem dX3_init_28 : decode cX3_init 28 = .ok (.newarray .int, 2) := by decide +kernel
theorem dX3_init_30 : decode cX3_init 30 = .ok (.putfield 21, 3) := by decide +kernel
theorem dX3_init_33 : decode cX3_init 33 = .ok (.aload_n 0, 1) := by decide +kernel
theorem dX3_init_34 : decode cX3_init 34 = .ok (.iconst 0, 1) := by decide +kernel
theorem dX3_init_35 : decode cX3_init 35 = .ok (.putfield 24, 3) := by decide +kernel
theorem dX3_init_38 : decode cX3_init 38 = .ok (.aload_n 0, 1) := by decide +kernel
theorem dX3_init_39 : decode cX3_init 39 = .ok (.iconst 0, 1) := by decide +kernel
theorem dX3_init_40 : decode cX3_init 40 = .ok (.putfield 28, 3) := by decide +kernel
theorem dX3_init_43 : decode cX3_init 43 = .ok (.aload_n 0, 1) := by decide +kernel
theorem dX3_init_44 : decode cX3_init 44 = .ok (.iconst 0, 1) := by decide +kernel
theorem dX3_init_45 : decode cX3_init 45 = .ok (.putfield 31, 3) := by decide +kernel
theorem dX3_init_48 : decode cX3_init 48 = .ok (.return_, 1) := by decide +kernel
theorem dX3_clear_0 : decode cX3_clear 0 = .ok (.aload_n 0, 1) := by decide +kernel
theorem dX3_clear_1 : decode cX3_clear 1 = .ok (.iconst 0, 1) := by decide +kernel
theorem dX3_clear_2 : decode cX3_clear 2 = .ok (.putfield 24, 3) := by decide +kernel
theorem dX3_clear_5 : decode cX3_clear 5 = .ok (.aload_n 0, 1) := by decide +kernel
theorem dX3_clear_6 : decode cX3_clear 6 = .ok (.iconst 1, 1) := by decide +kernel
theorem dX3_clear_7 : decode cX3_clear 7 = .ok (.putfield 28, 3) := by decide +kernel
theorem dX3_clear_10 : decode cX3_clear 10 = .ok (.aload_n 0, 1) := by decide +kernel
theorem dX3_clear_11 : decode cX3_clear 11 = .ok (.iconst 0, 1) := by decide +kernel
theorem dX3_clear_12 : decode cX3_clear 12 = .ok (.putfield 31, 3) := by decide +kernel
theorem dX3_clear_15 : decode cX3_clear 15 = .ok (.aload_n 0, 1) := by decide +kernel
theorem dX3_clear_16 : decode cX3_clear 16 = .ok (.getfield 15, 3) := by decide +kernel
theorem dX3_clear_19 : decode cX3_clear 19 = .ok (.iconst 0, 1) := by decide +kernel
theorem dX3_clear_20 : decode cX3_clear 20 = .ok (.invokestatic 34, 3) := by decide +kernel
theorem dX3_clear_23 : decode cX3_clear 23 = .ok (.aload_n 0, 1) := by decide +kernel
theorem dX3_clear_24 : decode cX3_clear 24 = .ok (.getfield 18, 3) := by decide +kernel
theorem dX3_clear_27 : decode cX3_clear 27 = .ok (.iconst 1, 1) := by decide +kernel
theorem dX3_clear_28 : decode cX3_clear 28 = .ok (.invokestatic 34, 3) := by decide +kernel
theorem dX3_clear_31 : decode cX3_clear 31 = .ok (.aload_n 0, 1) := by decide +kernel
theorem dX3_clear_32 : decode cX3_clear 32 = .ok (.getfield 21, 3) := by decide +kernel
theorem dX3_clear_35 : decode cX3_clear 35 = .ok (.iconst 0, 1) := by decide +kernel
theorem dX3_clear_36 : decode cX3_clear 36 = .ok (.invokestatic 34, 3) := by decide +kernel
theorem dX3_clear_39 : decode cX3_clear 39 = .ok (.return_, 1) := by decide +kernel
theorem dX3_has_0 : decode cX3_has 0 = .ok (.iload_n 1, 1) := by decide +kernel
theorem dX3_has_1 : decode cX3_has 1 = .ok (.ifCond .lt 21, 3) := by decide +kernel
theorem dX3_has_4 : decode cX3_has 4 = .ok (.iload_n 1, 1) := by decide +kernel
theorem dX3_has_5 : decode cX3_has 5 = .ok (.aload_n 0, 1) := by decide +kernel
theorem dX3_has_6 : decode cX3_has 6 = .ok (.getfield 24, 3) := by decide +kernel
theorem dX3_has_9 : decode cX3_has 9 = .ok (.if_icmp .ge 13, 3) := by decide +kernel
theorem dX3_has_12 : decode cX3_has 12 = .ok (.iload_n 1, 1) := by decide +kernel
theorem dX3_has_13 : decode cX3_has 13 = .ok (.bipush 24, 2) := by decide +kernel
theorem dX3_has_15 : decode cX3_has 15 = .ok (.if_icmp .ge 7, 3) := by decide +kernel
theorem dX3_has_18 : decode cX3_has 18 = .ok (.iconst 1, 1) := by decide +kernel
theorem dX3_has_19 : decode cX3_has 19 = .ok (.goto 4, 3) := by decide +kernel
theorem dX3_has_22 : decode cX3_has 22 = .ok (.iconst 0, 1) := by decide +kernel
theorem dX3_has_23 : decode cX3_has 23 = .ok (.ireturn, 1) := by decide +kernel
theorem dX3_around_0 : decode cX3_around 0 = .ok (.iload_n 1, 1) := by decide +kernel
theorem dX3_around_1 : decode cX3_around 1 = .ok (.aload_n 0, 1) := by decide +kernel
theorem dX3_around_2 : decode cX3_around 2 = .ok (.getfield 24, 3) := by decide +kernel
theorem dX3_around_5 : decode cX3_around 5 = .ok (.if_icmp .lt 12, 3) := by decide +kernel
theorem dX3_around_8 : decode cX3_around 8 = .ok (.iload_n 1, 1) := by decide +kernel
theorem dX3_around_9 : decode cX3_around 9 = .ok (.aload_n 0, 1) := by decide +kernel
theorem dX3_around_10 : decode cX3_around 10 = .ok (.getfield 24, 3) := by decide +kernel
theorem dX3_around_13 : decode cX3_around 13 = .ok (.isub, 1) := by decide +kernel
theorem dX3_around_14 : decode cX3_around 14 = .ok (.goto 4, 3) := by decide +kernel
theorem dX3_around_17 : decode cX3_around 17 = .ok (.iload_n 1, 1) := by decide +kernel
theorem dX3_around_18 : decode cX3_around 18 = .ok (.ireturn, 1) := by decide +kernel
theorem dX3_heightOf_0 : decode cX3_heightOf 0 = .ok (.aload_n 0, 1) := by decide +kernel
theorem dX3_heightOf_1 : decode cX3_heightOf 1 = .ok (.iload_n 1, 1) := by decide +kernel
theorem dX3_heightOf_2 : decode cX3_heightOf 2 = .ok (.invokevirtual 40, 3) := by decide +kernel
theorem dX3_heightOf_5 : decode cX3_heightOf 5 = .ok (.ifCond .eq 12, 3) := by decide +kernel
theorem dX3_heightOf_8 : decode cX3_heightOf 8 = .ok (.aload_n 0, 1) := by decide +kernel
theorem dX3_heightOf_9 : decode cX3_heightOf 9 = .ok (.getfield 9, 3) := by decide +kernel
theorem dX3_heightOf_12 : decode cX3_heightOf 12 = .ok (.iload_n 1, 1) := by decide +kernel
theorem dX3_heightOf_13 : decode cX3_heightOf 13 = .ok (.iaload, 1) := by decide +kernel
theorem dX3_heightOf_14 : decode cX3_heightOf 14 = .ok (.goto 4, 3) := by decide +kernel
theorem dX3_heightOf_17 : decode cX3_heightOf 17 = .ok (.iconst 0, 1) := by decide +kernel
theorem dX3_heightOf_18 : decode cX3_heightOf 18 = .ok (.ireturn, 1) := by decide +kernel
theorem dX3_shortOf_0 : decode cX3_shortOf 0 = .ok (.iload_n 1, 1) := by decide +kernel
theorem dX3_shortOf_1 : decode cX3_shortOf 1 = .ok (.invokestatic 44, 3) := by decide +kernel
theorem dX3_shortOf_4 : decode cX3_shortOf 4 = .ok (.ifCond .eq 12, 3) := by decide +kernel
theorem dX3_shortOf_7 : decode cX3_shortOf 7 = .ok (.aload_n 0, 1) := by decide +kernel
theorem dX3_shortOf_8 : decode cX3_shortOf 8 = .ok (.getfield 15, 3) := by decide +kernel
theorem dX3_shortOf_11 : decode cX3_shortOf 11 = .ok (.iload_n 1, 1) := by decide +kernel
theorem dX3_shortOf_12 : decode cX3_shortOf 12 = .ok (.iaload, 1) := by decide +kernel
theorem dX3_shortOf_13 : decode cX3_shortOf 13 = .ok (.goto 4, 3) := by decide +kernel
theorem dX3_shortOf_16 : decode cX3_shortOf 16 = .ok (.iconst 0, 1) := by decide +kernel
theorem dX3_shortOf_17 : decode cX3_shortOf 17 = .ok (.ireturn, 1) := by decide +kernel
theorem dX3_pointBeneath_0 : decode cX3_pointBeneath 0 = .ok (.iload_n 2, 1) := by decide +kernel
theorem dX3_pointBeneath_1 : decode cX3_pointBeneath 1 = .ok (.iconst 2, 1) := by decide +kernel
theorem dX3_pointBeneath_2 : decode cX3_pointBeneath 2 = .ok (.irem, 1) := by decide +kernel
theorem dX3_pointBeneath_3 : decode cX3_pointBeneath 3 = .ok (.ifCond .ne 7, 3) := by decide +kernel
theorem dX3_pointBeneath_6 : decode cX3_pointBeneath 6 = .ok (.iload_n 1, 1) := by decide +kernel
theorem dX3_pointBeneath_7 : decode cX3_pointBeneath 7 = .ok (.goto 13, 3) := by decide +kernel
theorem dX3_pointBeneath_10 : decode cX3_pointBeneath 10 = .ok (.aload_n 0, 1) := by decide +kernel
theorem dX3_pointBeneath_11 : decode cX3_pointBeneath 11 = .ok (.iload_n 1, 1) := by decide +kernel
theorem dX3_pointBeneath_12 : decode cX3_pointBeneath 12 = .ok (.aload_n 0, 1) := by decide +kernel
theorem dX3_pointBeneath_13 : decode cX3_pointBeneath 13 = .ok (.getfield 28, 3) := by decide +kernel
theorem dX3_pointBeneath_16 : decode cX3_pointBeneath 16 = .ok (.iadd, 1) := by decide +kernel
theorem dX3_pointBeneath_17 : decode cX3_pointBeneath 17 = .ok (.invokevirtual 47, 3) := by decide +kernel
theorem dX3_pointBeneath_20 : decode cX3_pointBeneath 20 = .ok (.istore_n 3, 1) := by decide +kernel
theorem dX3_pointBeneath_21 : decode cX3_pointBeneath 21 = .ok (.iload_n 2, 1) := by decide +kernel
theorem dX3_pointBeneath_22 : decode cX3_pointBeneath 22 = .ok (.iconst 2, 1) := by decide +kernel
theorem dX3_pointBeneath_23 : decode cX3_pointBeneath 23 = .ok (.if_icmp .ge 7, 3) := by decide +kernel
theorem dX3_pointBeneath_26 : decode cX3_pointBeneath 26 = .ok (.iload_n 3, 1) := by decide +kernel
theorem dX3_pointBeneath_27 : decode cX3_pointBeneath 27 = .ok (.goto 15, 3) := by decide +kernel
theorem dX3_pointBeneath_30 : decode cX3_pointBeneath 30 = .ok (.aload_n 0, 1) := by decide +kernel
theorem dX3_pointBeneath_31 : decode cX3_pointBeneath 31 = .ok (.iload_n 3, 1) := by decide +kernel
theorem dX3_pointBeneath_32 : decode cX3_pointBeneath 32 = .ok (.aload_n 0, 1) := by decide +kernel
theorem dX3_pointBeneath_33 : decode cX3_pointBeneath 33 = .ok (.getfield 24, 3) := by decide +kernel
theorem dX3_pointBeneath_36 : decode cX3_pointBeneath 36 = .ok (.iconst 2, 1) := by decide +kernel
theorem dX3_pointBeneath_37 : decode cX3_pointBeneath 37 = .ok (.idiv, 1) := by decide +kernel
theorem dX3_pointBeneath_38 : decode cX3_pointBeneath 38 = .ok (.iadd, 1) := by decide +kernel
theorem dX3_pointBeneath_39 : decode cX3_pointBeneath 39 = .ok (.invokevirtual 47, 3) := by decide +kernel
theorem dX3_pointBeneath_42 : decode cX3_pointBeneath 42 = .ok (.ireturn, 1) := by decide +kernel
theorem dX3_reach_0 : decode cX3_reach 0 = .ok (.aload_n 0, 1) := by decide +kernel
theorem dX3_reach_1 : decode cX3_reach 1 = .ok (.aload_n 0, 1) := by decide +kernel
theorem dX3_reach_2 : decode cX3_reach 2 = .ok (.iload_n 1, 1) := by decide +kernel
theorem dX3_reach_3 : decode cX3_reach 3 = .ok (.iload_n 2, 1) := by decide +kernel
theorem dX3_reach_4 : decode cX3_reach 4 = .ok (.invokevirtual 51, 3) := by decide +kernel
theorem dX3_reach_7 : decode cX3_reach 7 = .ok (.invokevirtual 55, 3) := by decide +kernel
theorem dX3_reach_10 : decode cX3_reach 10 = .ok (.aload_n 0, 1) := by decide +kernel
theorem dX3_reach_11 : decode cX3_reach 11 = .ok (.iload_n 2, 1) := by decide +kernel
theorem dX3_reach_12 : decode cX3_reach 12 = .ok (.invokevirtual 58, 3) := by decide +kernel
theorem dX3_reach_15 : decode cX3_reach 15 = .ok (.isub, 1) := by decide +kernel
theorem dX3_reach_16 : decode cX3_reach 16 = .ok (.ireturn, 1) := by decide +kernel
theorem dX3_reachOfAll_0 : decode cX3_reachOfAll 0 = .ok (.aload_n 0, 1) := by decide +kernel
theorem dX3_reachOfAll_1 : decode cX3_reachOfAll 1 = .ok (.iload_n 1, 1) := by decide +kernel
theorem dX3_reachOfAll_2 : decode cX3_reachOfAll 2 = .ok (.iconst 0, 1) := by decide +kernel
theorem dX3_reachOfAll_3 : decode cX3_reachOfAll 3 = .ok (.invokevirtual 61, 3) := by decide +kernel
theorem dX3_reachOfAll_6 : decode cX3_reachOfAll 6 = .ok (.aload_n 0, 1) := by decide +kernel
theorem dX3_reachOfAll_7 : decode cX3_reachOfAll 7 = .ok (.iload_n 1, 1) := by decide +kernel
theorem dX3_reachOfAll_8 : decode cX3_reachOfAll 8 = .ok (.iconst 1, 1) := by decide +kernel
theorem dX3_reachOfAll_9 : decode cX3_reachOfAll 9 = .ok (.invokevirtual 61, 3) := by decide +kernel
theorem dX3_reachOfAll_12 : decode cX3_reachOfAll 12 = .ok (.iadd, 1) := by decide +kernel
theorem dX3_reachOfAll_13 : decode cX3_reachOfAll 13 = .ok (.aload_n 0, 1) := by decide +kernel
theorem dX3_reachOfAll_14 : decode cX3_reachOfAll 14 = .ok (.iload_n 1, 1) := by decide +kernel
theorem dX3_reachOfAll_15 : decode cX3_reachOfAll 15 = .ok (.iconst 2, 1) := by decide +kernel
theorem dX3_reachOfAll_16 : decode cX3_reachOfAll 16 = .ok (.invokevirtual 61, 3) := by decide +kernel
theorem dX3_reachOfAll_19 : decode cX3_reachOfAll 19 = .ok (.iadd, 1) := by decide +kernel
theorem dX3_reachOfAll_20 : decode cX3_reachOfAll 20 = .ok (.aload_n 0, 1) := by decide +kernel
theorem dX3_reachOfAll_21 : decode cX3_reachOfAll 21 = .ok (.iload_n 1, 1) := by decide +kernel
theorem dX3_reachOfAll_22 : decode cX3_reachOfAll 22 = .ok (.iconst 3, 1) := by decide +kernel
theorem dX3_reachOfAll_23 : decode cX3_reachOfAll 23 = .ok (.invokevirtual 61, 3) := by decide +kernel
theorem dX3_reachOfAll_26 : decode cX3_reachOfAll 26 = .ok (.iadd, 1) := by decide +kernel
theorem dX3_reachOfAll_27 : decode cX3_reachOfAll 27 = .ok (.ireturn, 1) := by decide +kernel
theorem dX3_apart_0 : decode cX3_apart 0 = .ok (.aload_n 0, 1) := by decide +kernel
theorem dX3_apart_1 : decode cX3_apart 1 = .ok (.iload_n 1, 1) := by decide +kernel
theorem dX3_apart_2 : decode cX3_apart 2 = .ok (.iload_n 2, 1) := by decide +kernel
theorem dX3_apart_3 : decode cX3_apart 3 = .ok (.invokevirtual 61, 3) := by decide +kernel
theorem dX3_apart_6 : decode cX3_apart 6 = .ok (.aload_n 0, 1) := by decide +kernel
theorem dX3_apart_7 : decode cX3_apart 7 = .ok (.iload_n 1, 1) := by decide +kernel
theorem dX3_apart_8 : decode cX3_apart 8 = .ok (.iload_n 2, 1) := by decide +kernel
theorem dX3_apart_9 : decode cX3_apart 9 = .ok (.iconst 2, 1) := by decide +kernel
theorem dX3_apart_10 : decode cX3_apart 10 = .ok (.iadd, 1) := by decide +kernel
theorem dX3_apart_11 : decode cX3_apart 11 = .ok (.invokevirtual 61, 3) := by decide +kernel
theorem dX3_apart_14 : decode cX3_apart 14 = .ok (.isub, 1) := by decide +kernel
theorem dX3_apart_15 : decode cX3_apart 15 = .ok (.ireturn, 1) := by decide +kernel
theorem dX3_tiltAt_0 : decode cX3_tiltAt 0 = .ok (.aload_n 0, 1) := by decide +kernel
theorem dX3_tiltAt_1 : decode cX3_tiltAt 1 = .ok (.iload_n 1, 1) := by decide +kernel
theorem dX3_tiltAt_2 : decode cX3_tiltAt 2 = .ok (.iconst 0, 1) := by decide +kernel
theorem dX3_tiltAt_3 : decode cX3_tiltAt 3 = .ok (.invokevirtual 64, 3) := by decide +kernel
theorem dX3_tiltAt_6 : decode cX3_tiltAt 6 = .ok (.invokestatic 67, 3) := by decide +kernel
theorem dX3_tiltAt_9 : decode cX3_tiltAt 9 = .ok (.aload_n 0, 1) := by decide +kernel
theorem dX3_tiltAt_10 : decode cX3_tiltAt 10 = .ok (.iload_n 1, 1) := by decide +kernel
theorem dX3_tiltAt_11 : decode cX3_tiltAt 11 = .ok (.iconst 1, 1) := by decide +kernel
theorem dX3_tiltAt_12 : decode cX3_tiltAt 12 = .ok (.invokevirtual 64, 3) := by decide +kernel
theorem dX3_tiltAt_15 : decode cX3_tiltAt 15 = .ok (.invokestatic 67, 3) := by decide +kernel
theorem dX3_tiltAt_18 : decode cX3_tiltAt 18 = .ok (.invokestatic 72, 3) := by decide +kernel
theorem dX3_tiltAt_21 : decode cX3_tiltAt 21 = .ok (.ireturn, 1) := by decide +kernel
theorem dX3_gapAt_0 : decode cX3_gapAt 0 = .ok (.aload_n 0, 1) := by decide +kernel
theorem dX3_gapAt_1 : decode cX3_gapAt 1 = .ok (.aload_n 0, 1) := by decide +kernel
theorem dX3_gapAt_2 : decode cX3_gapAt 2 = .ok (.getfield 9, 3) := by decide +kernel
theorem dX3_gapAt_5 : decode cX3_gapAt 5 = .ok (.aload_n 0, 1) := by decide +kernel
theorem dX3_gapAt_6 : decode cX3_gapAt 6 = .ok (.getfield 28, 3) := by decide +kernel
theorem dX3_gapAt_9 : decode cX3_gapAt 9 = .ok (.iload_n 1, 1) := by decide +kernel
theorem dX3_gapAt_10 : decode cX3_gapAt 10 = .ok (.invokevirtual 75, 3) := by decide +kernel
theorem dX3_gapAt_13 : decode cX3_gapAt 13 = .ok (.aload_n 0, 1) := by decide +kernel
theorem dX3_gapAt_14 : decode cX3_gapAt 14 = .ok (.invokevirtual 79, 3) := by decide +kernel
theorem dX3_gapAt_17 : decode cX3_gapAt 17 = .ok (.isub, 1) := by decide +kernel
theorem dX3_gapAt_18 : decode cX3_gapAt 18 = .ok (.ireturn, 1) := by decide +kernel
theorem dX3_lean_0 : decode cX3_lean 0 = .ok (.aload_n 0, 1) := by decide +kernel
theorem dX3_lean_1 : decode cX3_lean 1 = .ok (.iconst 0, 1) := by decide +kernel
theorem dX3_lean_2 : decode cX3_lean 2 = .ok (.iconst 1, 1) := by decide +kernel
theorem dX3_lean_3 : decode cX3_lean 3 = .ok (.iconst 2, 1) := by decide +kernel
theorem dX3_lean_4 : decode cX3_lean 4 = .ok (.iconst 3, 1) := by decide +kernel
theorem dX3_lean_5 : decode cX3_lean 5 = .ok (.invokevirtual 83, 3) := by decide +kernel
theorem dX3_lean_8 : decode cX3_lean 8 = .ok (.ireturn, 1) := by decide +kernel
theorem dX3_leanOf_0 : decode cX3_leanOf 0 = .ok (.aload_n 0, 1) := by decide +kernel
theorem dX3_leanOf_1 : decode cX3_leanOf 1 = .ok (.iload_n 1, 1) := by decide +kernel
theorem dX3_leanOf_2 : decode cX3_leanOf 2 = .ok (.invokevirtual 58, 3) := by decide +kernel
theorem dX3_leanOf_5 : decode cX3_leanOf 5 = .ok (.aload_n 0, 1) := by decide +kernel
theorem dX3_leanOf_6 : decode cX3_leanOf 6 = .ok (.iload_n 3, 1) := by decide +kernel
theorem dX3_leanOf_7 : decode cX3_leanOf 7 = .ok (.invokevirtual 58, 3) := by decide +kernel
theorem dX3_leanOf_10 : decode cX3_leanOf 10 = .ok (.iadd, 1) := by decide +kernel
theorem dX3_leanOf_11 : decode cX3_leanOf 11 = .ok (.aload_n 0, 1) := by decide +kernel
theorem dX3_leanOf_12 : decode cX3_leanOf 12 = .ok (.iload_n 2, 1) := by decide +kernel
theorem dX3_leanOf_13 : decode cX3_leanOf 13 = .ok (.invokevirtual 58, 3) := by decide +kernel
theorem dX3_leanOf_16 : decode cX3_leanOf 16 = .ok (.isub, 1) := by decide +kernel
theorem dX3_leanOf_17 : decode cX3_leanOf 17 = .ok (.aload_n 0, 1) := by decide +kernel
theorem dX3_leanOf_18 : decode cX3_leanOf 18 = .ok (.iload 4, 2) := by decide +kernel
theorem dX3_leanOf_20 : decode cX3_leanOf 20 = .ok (.invokevirtual 58, 3) := by decide +kernel
theorem dX3_leanOf_23 : decode cX3_leanOf 23 = .ok (.isub, 1) := by decide +kernel
theorem dX3_leanOf_24 : decode cX3_leanOf 24 = .ok (.ireturn, 1) := by decide +kernel
theorem dX3_groundGap_0 : decode cX3_groundGap 0 = .ok (.aload_n 0, 1) := by decide +kernel
theorem dX3_groundGap_1 : decode cX3_groundGap 1 = .ok (.getfield 24, 3) := by decide +kernel
theorem dX3_groundGap_4 : decode cX3_groundGap 4 = .ok (.iconst 2, 1) := by decide +kernel
theorem dX3_groundGap_5 : decode cX3_groundGap 5 = .ok (.idiv, 1) := by decide +kernel
theorem dX3_groundGap_6 : decode cX3_groundGap 6 = .ok (.istore 4, 2) := by decide +kernel
theorem dX3_groundGap_8 : decode cX3_groundGap 8 = .ok (.aload_n 0, 1) := by decide +kernel
theorem dX3_groundGap_9 : decode cX3_groundGap 9 = .ok (.iload_n 3, 1) := by decide +kernel
theorem dX3_groundGap_10 : decode cX3_groundGap 10 = .ok (.iload_n 2, 1) := by decide +kernel
theorem dX3_groundGap_11 : decode cX3_groundGap 11 = .ok (.iadd, 1) := by decide +kernel
theorem dX3_groundGap_12 : decode cX3_groundGap 12 = .ok (.invokevirtual 47, 3) := by decide +kernel
theorem dX3_groundGap_15 : decode cX3_groundGap 15 = .ok (.istore 5, 2) := by decide +kernel
theorem dX3_groundGap_17 : decode cX3_groundGap 17 = .ok (.aload_n 0, 1) := by decide +kernel
theorem dX3_groundGap_18 : decode cX3_groundGap 18 = .ok (.iload_n 3, 1) := by decide +kernel
theorem dX3_groundGap_19 : decode cX3_groundGap 19 = .ok (.iload 4, 2) := by decide +kernel
theorem dX3_groundGap_21 : decode cX3_groundGap 21 = .ok (.iadd, 1) := by decide +kernel
theorem dX3_groundGap_22 : decode cX3_groundGap 22 = .ok (.invokevirtual 47, 3) := by decide +kernel
theorem dX3_groundGap_25 : decode cX3_groundGap 25 = .ok (.istore 6, 2) := by decide +kernel
theorem dX3_groundGap_27 : decode cX3_groundGap 27 = .ok (.aload_n 0, 1) := by decide +kernel
theorem dX3_groundGap_28 : decode cX3_groundGap 28 = .ok (.iload 5, 2) := by decide +kernel
theorem dX3_groundGap_30 : decode cX3_groundGap 30 = .ok (.iload 4, 2) := by decide +kernel
theorem dX3_groundGap_32 : decode cX3_groundGap 32 = .ok (.iadd, 1) := by decide +kernel
theorem dX3_groundGap_33 : decode cX3_groundGap 33 = .ok (.invokevirtual 47, 3) := by decide +kernel
theorem dX3_groundGap_36 : decode cX3_groundGap 36 = .ok (.istore 7, 2) := by decide +kernel
theorem dX3_groundGap_38 : decode cX3_groundGap 38 = .ok (.aload_n 1, 1) := by decide +kernel
theorem dX3_groundGap_39 : decode cX3_groundGap 39 = .ok (.arraylength, 1) := by decide +kernel
theorem dX3_groundGap_40 : decode cX3_groundGap 40 = .ok (.aload_n 0, 1) := by decide +kernel
theorem dX3_groundGap_41 : decode cX3_groundGap 41 = .ok (.getfield 24, 3) := by decide +kernel
theorem dX3_groundGap_44 : decode cX3_groundGap 44 = .ok (.invokestatic 87, 3) := by decide +kernel
theorem dX3_groundGap_47 : decode cX3_groundGap 47 = .ok (.istore 8, 2) := by decide +kernel
theorem dX3_groundGap_49 : decode cX3_groundGap 49 = .ok (.iload_n 3, 1) := by decide +kernel
theorem dX3_groundGap_50 : decode cX3_groundGap 50 = .ok (.ifCond .lt 49, 3) := by decide +kernel
theorem dX3_groundGap_53 : decode cX3_groundGap 53 = .ok (.iload_n 3, 1) := by decide +kernel
theorem dX3_groundGap_54 : decode cX3_groundGap 54 = .ok (.iload 8, 2) := by decide +kernel
theorem dX3_groundGap_56 : decode cX3_groundGap 56 = .ok (.if_icmp .ge 43, 3) := by decide +kernel
theorem dX3_groundGap_59 : decode cX3_groundGap 59 = .ok (.iload 5, 2) := by decide +kernel
theorem dX3_groundGap_61 : decode cX3_groundGap 61 = .ok (.ifCond .lt 38, 3) := by decide +kernel
theorem dX3_groundGap_64 : decode cX3_groundGap 64 = .ok (.iload 5, 2) := by decide +kernel
theorem dX3_groundGap_66 : decode cX3_groundGap 66 = .ok (.iload 8, 2) := by decide +kernel
theorem dX3_groundGap_68 : decode cX3_groundGap 68 = .ok (.if_icmp .ge 31, 3) := by decide +kernel
theorem dX3_groundGap_71 : decode cX3_groundGap 71 = .ok (.iload 6, 2) := by decide +kernel
theorem dX3_groundGap_73 : decode cX3_groundGap 73 = .ok (.ifCond .lt 26, 3) := by decide +kernel
theorem dX3_groundGap_76 : decode cX3_groundGap 76 = .ok (.iload 6, 2) := by decide +kernel
theorem dX3_groundGap_78 : decode cX3_groundGap 78 = .ok (.iload 8, 2) := by decide +kernel
theorem dX3_groundGap_80 : decode cX3_groundGap 80 = .ok (.if_icmp .ge 19, 3) := by decide +kernel
theorem dX3_groundGap_83 : decode cX3_groundGap 83 = .ok (.iload 7, 2) := by decide +kernel
theorem dX3_groundGap_85 : decode cX3_groundGap 85 = .ok (.ifCond .lt 14, 3) := by decide +kernel
theorem dX3_groundGap_88 : decode cX3_groundGap 88 = .ok (.iload 7, 2) := by decide +kernel
theorem dX3_groundGap_90 : decode cX3_groundGap 90 = .ok (.iload 8, 2) := by decide +kernel
theorem dX3_groundGap_92 : decode cX3_groundGap 92 = .ok (.if_icmp .ge 7, 3) := by decide +kernel
theorem dX3_groundGap_95 : decode cX3_groundGap 95 = .ok (.iconst 1, 1) := by decide +kernel
theorem dX3_groundGap_96 : decode cX3_groundGap 96 = .ok (.goto 4, 3) := by decide +kernel
theorem dX3_groundGap_99 : decode cX3_groundGap 99 = .ok (.iconst 0, 1) := by decide +kernel
theorem dX3_groundGap_100 : decode cX3_groundGap 100 = .ok (.istore 9, 2) := by decide +kernel
theorem dX3_groundGap_102 : decode cX3_groundGap 102 = .ok (.iload 9, 2) := by decide +kernel
theorem dX3_groundGap_104 : decode cX3_groundGap 104 = .ok (.ifCond .eq 24, 3) := by decide +kernel
theorem dX3_groundGap_107 : decode cX3_groundGap 107 = .ok (.aload_n 1, 1) := by decide +kernel
theorem dX3_groundGap_108 : decode cX3_groundGap 108 = .ok (.iload_n 3, 1) := by decide +kernel
theorem dX3_groundGap_109 : decode cX3_groundGap 109 = .ok (.iaload, 1) := by decide +kernel
theorem dX3_groundGap_110 : decode cX3_groundGap 110 = .ok (.aload_n 1, 1) := by decide +kernel
theorem dX3_groundGap_111 : decode cX3_groundGap 111 = .ok (.iload 6, 2) := by decide +kernel
theorem dX3_groundGap_113 : decode cX3_groundGap 113 = .ok (.iaload, 1) := by decide +kernel
theorem dX3_groundGap_114 : decode cX3_groundGap 114 = .ok (.iadd, 1) := by decide +kernel
theorem dX3_groundGap_115 : decode cX3_groundGap 115 = .ok (.aload_n 1, 1) := by decide +kernel
theorem dX3_groundGap_116 : decode cX3_groundGap 116 = .ok (.iload 5, 2) := by decide +kernel
theorem dX3_groundGap_118 : decode cX3_groundGap 118 = .ok (.iaload, 1) := by decide +kernel
theorem dX3_groundGap_119 : decode cX3_groundGap 119 = .ok (.isub, 1) := by decide +kernel
theorem dX3_groundGap_120 : decode cX3_groundGap 120 = .ok (.aload_n 1, 1) := by decide +kernel
theorem dX3_groundGap_121 : decode cX3_groundGap 121 = .ok (.iload 7, 2) := by decide +kernel
theorem dX3_groundGap_123 : decode cX3_groundGap 123 = .ok (.iaload, 1) := by decide +kernel
theorem dX3_groundGap_124 : decode cX3_groundGap 124 = .ok (.isub, 1) := by decide +kernel
theorem dX3_groundGap_125 : decode cX3_groundGap 125 = .ok (.goto 4, 3) := by decide +kernel
theorem dX3_groundGap_128 : decode cX3_groundGap 128 = .ok (.iconst 0, 1) := by decide +kernel
theorem dX3_groundGap_129 : decode cX3_groundGap 129 = .ok (.ireturn, 1) := by decide +kernel
theorem dX3_slope_0 : decode cX3_slope 0 = .ok (.iconst 0, 1) := by decide +kernel
theorem dX3_slope_1 : decode cX3_slope 1 = .ok (.istore_n 3, 1) := by decide +kernel
theorem dX3_slope_2 : decode cX3_slope 2 = .ok (.iload_n 3, 1) := by decide +kernel
theorem dX3_slope_3 : decode cX3_slope 3 = .ok (.iconst 4, 1) := by decide +kernel
theorem dX3_slope_4 : decode cX3_slope 4 = .ok (.if_icmp .ge 31, 3) := by decide +kernel
theorem dX3_slope_7 : decode cX3_slope 7 = .ok (.aload_n 0, 1) := by decide +kernel
theorem dX3_slope_8 : decode cX3_slope 8 = .ok (.iload_n 1, 1) := by decide +kernel
theorem dX3_slope_9 : decode cX3_slope 9 = .ok (.iload_n 3, 1) := by decide +kernel
theorem dX3_slope_10 : decode cX3_slope 10 = .ok (.invokevirtual 51, 3) := by decide +kernel
theorem dX3_slope_13 : decode cX3_slope 13 = .ok (.iload_n 2, 1) := by decide +kernel
theorem dX3_slope_14 : decode cX3_slope 14 = .ok (.if_icmp .ne 15, 3) := by decide +kernel
theorem dX3_slope_17 : decode cX3_slope 17 = .ok (.iload_n 3, 1) := by decide +kernel
theorem dX3_slope_18 : decode cX3_slope 18 = .ok (.iconst 2, 1) := by decide +kernel
theorem dX3_slope_19 : decode cX3_slope 19 = .ok (.irem, 1) := by decide +kernel
theorem dX3_slope_20 : decode cX3_slope 20 = .ok (.ifCond .ne 7, 3) := by decide +kernel
theorem dX3_slope_23 : decode cX3_slope 23 = .ok (.iconst 1, 1) := by decide +kernel
theorem dX3_slope_24 : decode cX3_slope 24 = .ok (.goto 4, 3) := by decide +kernel
theorem dX3_slope_27 : decode cX3_slope 27 = .ok (.iconst (-1), 1) := by decide +kernel
theorem dX3_slope_28 : decode cX3_slope 28 = .ok (.ireturn, 1) := by decide +kernel
theorem dX3_slope_29 : decode cX3_slope 29 = .ok (.iinc 3 1, 3) := by decide +kernel
theorem dX3_slope_32 : decode cX3_slope 32 = .ok (.goto (-30), 3) := by decide +kernel
theorem dX3_slope_35 : decode cX3_slope 35 = .ok (.iconst 0, 1) := by decide +kernel
theorem dX3_slope_36 : decode cX3_slope 36 = .ok (.ireturn, 1) := by decide +kernel
theorem dX3_laySlopes_0 : decode cX3_laySlopes 0 = .ok (.iconst 0, 1) := by decide +kernel
theorem dX3_laySlopes_1 : decode cX3_laySlopes 1 = .ok (.istore_n 3, 1) := by decide +kernel
theorem dX3_laySlopes_2 : decode cX3_laySlopes 2 = .ok (.iload_n 3, 1) := by decide +kernel
theorem dX3_laySlopes_3 : decode cX3_laySlopes 3 = .ok (.aload_n 0, 1) := by decide +kernel
theorem dX3_laySlopes_4 : decode cX3_laySlopes 4 = .ok (.getfield 24, 3) := by decide +kernel
theorem dX3_laySlopes_7 : decode cX3_laySlopes 7 = .ok (.if_icmp .ge 24, 3) := by decide +kernel
theorem dX3_laySlopes_10 : decode cX3_laySlopes 10 = .ok (.iload_n 3, 1) := by decide +kernel
theorem dX3_laySlopes_11 : decode cX3_laySlopes 11 = .ok (.aload_n 2, 1) := by decide +kernel
theorem dX3_laySlopes_12 : decode cX3_laySlopes 12 = .ok (.arraylength, 1) := by decide +kernel
theorem dX3_laySlopes_13 : decode cX3_laySlopes 13 = .ok (.if_icmp .ge 18, 3) := by decide +kernel
theorem dX3_laySlopes_16 : decode cX3_laySlopes 16 = .ok (.aload_n 2, 1) := by decide +kernel
theorem dX3_laySlopes_17 : decode cX3_laySlopes 17 = .ok (.iload_n 3, 1) := by decide +kernel
theorem dX3_laySlopes_18 : decode cX3_laySlopes 18 = .ok (.aload_n 0, 1) := by decide +kernel
theorem dX3_laySlopes_19 : decode cX3_laySlopes 19 = .ok (.iload_n 1, 1) := by decide +kernel
theorem dX3_laySlopes_20 : decode cX3_laySlopes 20 = .ok (.iload_n 3, 1) := by decide +kernel
theorem dX3_laySlopes_21 : decode cX3_laySlopes 21 = .ok (.invokevirtual 90, 3) := by decide +kernel
theorem dX3_laySlopes_24 : decode cX3_laySlopes 24 = .ok (.iastore, 1) := by decide +kernel
theorem dX3_laySlopes_25 : decode cX3_laySlopes 25 = .ok (.iinc 3 1, 3) := by decide +kernel
theorem dX3_laySlopes_28 : decode cX3_laySlopes 28 = .ok (.goto (-26), 3) := by decide +kernel
theorem dX3_laySlopes_31 : decode cX3_laySlopes 31 = .ok (.return_, 1) := by decide +kernel
theorem dX3_store_0 : decode cX3_store 0 = .ok (.iload_n 2, 1) := by decide +kernel
theorem dX3_store_1 : decode cX3_store 1 = .ok (.ifCond .lt 38, 3) := by decide +kernel
theorem dX3_store_4 : decode cX3_store 4 = .ok (.iload_n 2, 1) := by decide +kernel
theorem dX3_store_5 : decode cX3_store 5 = .ok (.aload_n 1, 1) := by decide +kernel
theorem dX3_store_6 : decode cX3_store 6 = .ok (.arraylength, 1) := by decide +kernel
theorem dX3_store_7 : decode cX3_store 7 = .ok (.bipush 28, 2) := by decide +kernel
theorem dX3_store_9 : decode cX3_store 9 = .ok (.isub, 1) := by decide +kernel
theorem dX3_store_10 : decode cX3_store 10 = .ok (.if_icmp .gt 29, 3) := by decide +kernel
theorem dX3_store_13 : decode cX3_store 13 = .ok (.aload_n 0, 1) := by decide +kernel
theorem dX3_store_14 : decode cX3_store 14 = .ok (.getfield 9, 3) := by decide +kernel
theorem dX3_store_17 : decode cX3_store 17 = .ok (.iconst 0, 1) := by decide +kernel
theorem dX3_store_18 : decode cX3_store 18 = .ok (.aload_n 1, 1) := by decide +kernel
theorem dX3_store_19 : decode cX3_store 19 = .ok (.iload_n 2, 1) := by decide +kernel
theorem dX3_store_20 : decode cX3_store 20 = .ok (.bipush 24, 2) := by decide +kernel
theorem dX3_store_22 : decode cX3_store 22 = .ok (.invokestatic 93, 3) := by decide +kernel
theorem dX3_store_25 : decode cX3_store 25 = .ok (.aload_n 0, 1) := by decide +kernel
theorem dX3_store_26 : decode cX3_store 26 = .ok (.getfield 15, 3) := by decide +kernel
theorem dX3_store_29 : decode cX3_store 29 = .ok (.iconst 0, 1) := by decide +kernel
theorem dX3_store_30 : decode cX3_store 30 = .ok (.aload_n 1, 1) := by decide +kernel
theorem dX3_store_31 : decode cX3_store 31 = .ok (.iload_n 2, 1) := by decide +kernel
theorem dX3_store_32 : decode cX3_store 32 = .ok (.bipush 24, 2) := by decide +kernel
theorem dX3_store_34 : decode cX3_store 34 = .ok (.iadd, 1) := by decide +kernel
theorem dX3_store_35 : decode cX3_store 35 = .ok (.iconst 4, 1) := by decide +kernel
theorem dX3_store_36 : decode cX3_store 36 = .ok (.invokestatic 93, 3) := by decide +kernel
theorem dX3_store_39 : decode cX3_store 39 = .ok (.return_, 1) := by decide +kernel
theorem dX3_restore_0 : decode cX3_restore 0 = .ok (.iload_n 2, 1) := by decide +kernel
theorem dX3_restore_1 : decode cX3_restore 1 = .ok (.ifCond .lt 38, 3) := by decide +kernel
theorem dX3_restore_4 : decode cX3_restore 4 = .ok (.iload_n 2, 1) := by decide +kernel
theorem dX3_restore_5 : decode cX3_restore 5 = .ok (.aload_n 1, 1) := by decide +kernel
theorem dX3_restore_6 : decode cX3_restore 6 = .ok (.arraylength, 1) := by decide +kernel
theorem dX3_restore_7 : decode cX3_restore 7 = .ok (.bipush 28, 2) := by decide +kernel
theorem dX3_restore_9 : decode cX3_restore 9 = .ok (.isub, 1) := by decide +kernel
theorem dX3_restore_10 : decode cX3_restore 10 = .ok (.if_icmp .gt 29, 3) := by decide +kernel
theorem dX3_restore_13 : decode cX3_restore 13 = .ok (.aload_n 1, 1) := by decide +kernel
theorem dX3_restore_14 : decode cX3_restore 14 = .ok (.iload_n 2, 1) := by decide +kernel
theorem dX3_restore_15 : decode cX3_restore 15 = .ok (.aload_n 0, 1) := by decide +kernel
theorem dX3_restore_16 : decode cX3_restore 16 = .ok (.getfield 9, 3) := by decide +kernel
theorem dX3_restore_19 : decode cX3_restore 19 = .ok (.iconst 0, 1) := by decide +kernel
theorem dX3_restore_20 : decode cX3_restore 20 = .ok (.bipush 24, 2) := by decide +kernel
theorem dX3_restore_22 : decode cX3_restore 22 = .ok (.invokestatic 93, 3) := by decide +kernel
theorem dX3_restore_25 : decode cX3_restore 25 = .ok (.aload_n 1, 1) := by decide +kernel
theorem dX3_restore_26 : decode cX3_restore 26 = .ok (.iload_n 2, 1) := by decide +kernel
theorem dX3_restore_27 : decode cX3_restore 27 = .ok (.bipush 24, 2) := by decide +kernel
theorem dX3_restore_29 : decode cX3_restore 29 = .ok (.iadd, 1) := by decide +kernel
theorem dX3_restore_30 : decode cX3_restore 30 = .ok (.aload_n 0, 1) := by decide +kernel
theorem dX3_restore_31 : decode cX3_restore 31 = .ok (.getfield 15, 3) := by decide +kernel
theorem dX3_restore_34 : decode cX3_restore 34 = .ok (.iconst 0, 1) := by decide +kernel
theorem dX3_restore_35 : decode cX3_restore 35 = .ok (.iconst 4, 1) := by decide +kernel
theorem dX3_restore_36 : decode cX3_restore 36 = .ok (.invokestatic 93, 3) := by decide +kernel
theorem dX3_restore_39 : decode cX3_restore 39 = .ok (.return_, 1) := by decide +kernel
theorem dX4_init_0 : decode cX4_init 0 = .ok (.aload_n 0, 1) := by decide +kernel
theorem dX4_init_1 : decode cX4_init 1 = .ok (.invokespecial 3, 3) := by decide +kernel
theorem dX4_init_4 : decode cX4_init 4 = .ok (.aload_n 0, 1) := by decide +kernel
theorem dX4_init_5 : decode cX4_init 5 = .ok (.iconst 5, 1) := by decide +kernel
theorem dX4_init_6 : decode cX4_init 6 = .ok (.newarray .int, 2) := by decide +kernel
theorem dX4_init_8 : decode cX4_init 8 = .ok (.putfield 9, 3) := by decide +kernel
theorem dX4_init_11 : decode cX4_init 11 = .ok (.aload_n 0, 1) := by decide +kernel
theorem dX4_init_12 : decode cX4_init 12 = .ok (.iconst 0, 1) := by decide +kernel
theorem dX4_init_13 : decode cX4_init 13 = .ok (.putfield 15, 3) := by decide +kernel
theorem dX4_init_16 : decode cX4_init 16 = .ok (.return_, 1) := by decide +kernel
theorem dX4_read_0 : decode cX4_read 0 = .ok (.aload_n 2, 1) := by decide +kernel
theorem dX4_read_1 : decode cX4_read 1 = .ok (.invokevirtual 19, 3) := by decide +kernel
theorem dX4_read_4 : decode cX4_read 4 = .ok (.aload_n 0, 1) := by decide +kernel
theorem dX4_read_5 : decode cX4_read 5 = .ok (.iconst 0, 1) := by decide +kernel
theorem dX4_read_6 : decode cX4_read 6 = .ok (.putfield 15, 3) := by decide +kernel
theorem dX4_read_9 : decode cX4_read 9 = .ok (.aload_n 1, 1) := by decide +kernel
theorem dX4_read_10 : decode cX4_read 10 = .ok (.iconst 0, 1) := by decide +kernel
theorem dX4_read_11 : decode cX4_read 11 = .ok (.putfield 24, 3) := by decide +kernel
theorem dX4_read_14 : decode cX4_read 14 = .ok (.iconst 1, 1) := by decide +kernel
theorem dX4_read_15 : decode cX4_read 15 = .ok (.istore_n 3, 1) := by decide +kernel
theorem dX4_read_16 : decode cX4_read 16 = .ok (.iconst 0, 1) := by decide +kernel
theorem dX4_read_17 : decode cX4_read 17 = .ok (.istore 4, 2) := by decide +kernel
theorem dX4_read_19 : decode cX4_read 19 = .ok (.iload_n 3, 1) := by decide +kernel
theorem dX4_read_20 : decode cX4_read 20 = .ok (.ifCond .eq 38, 3) := by decide +kernel
theorem dX4_read_23 : decode cX4_read 23 = .ok (.iload 4, 2) := by decide +kernel
theorem dX4_read_25 : decode cX4_read 25 = .ok (.sipush 160, 3) := by decide +kernel
theorem dX4_read_28 : decode cX4_read 28 = .ok (.if_icmp .gt 30, 3) := by decide +kernel
theorem dX4_read_31 : decode cX4_read 31 = .ok (.aload_n 0, 1) := by decide +kernel
theorem dX4_read_32 : decode cX4_read 32 = .ok (.aload_n 1, 1) := by decide +kernel
theorem dX4_read_33 : decode cX4_read 33 = .ok (.aload_n 2, 1) := by decide +kernel
theorem dX4_read_34 : decode cX4_read 34 = .ok (.invokevirtual 30, 3) := by decide +kernel
theorem dX4_read_37 : decode cX4_read 37 = .ok (.ifCond .ne 8, 3) := by decide +kernel
theorem dX4_read_40 : decode cX4_read 40 = .ok (.aload_n 1, 1) := by decide +kernel
theorem dX4_read_41 : decode cX4_read 41 = .ok (.getfield 24, 3) := by decide +kernel
theorem dX4_read_44 : decode cX4_read 44 = .ok (.ireturn, 1) := by decide +kernel
theorem dX4_read_45 : decode cX4_read 45 = .ok (.aload_n 1, 1) := by decide +kernel
theorem dX4_read_46 : decode cX4_read 46 = .ok (.bipush 59, 2) := by decide +kernel
theorem dX4_read_48 : decode cX4_read 48 = .ok (.invokevirtual 34, 3) := by decide +kernel
theorem dX4_read_51 : decode cX4_read 51 = .ok (.istore_n 3, 1) := by decide +kernel
theorem dX4_read_52 : decode cX4_read 52 = .ok (.iinc 4 1, 3) := by decide +kernel
theorem dX4_read_55 : decode cX4_read 55 = .ok (.goto (-36), 3) := by decide +kernel
theorem dX4_read_58 : decode cX4_read 58 = .ok (.aload_n 1, 1) := by decide +kernel
theorem dX4_read_59 : decode cX4_read 59 = .ok (.invokevirtual 38, 3) := by decide +kernel
theorem dX4_read_62 : decode cX4_read 62 = .ok (.iconst (-1), 1) := by decide +kernel
theorem dX4_read_63 : decode cX4_read 63 = .ok (.if_icmp .eq 8, 3) := by decide +kernel
theorem dX4_read_66 : decode cX4_read 66 = .ok (.aload_n 1, 1) := by decide +kernel
theorem dX4_read_67 : decode cX4_read 67 = .ok (.getfield 24, 3) := by decide +kernel
theorem dX4_read_70 : decode cX4_read 70 = .ok (.ireturn, 1) := by decide +kernel
theorem dX4_read_71 : decode cX4_read 71 = .ok (.aload_n 2, 1) := by decide +kernel
theorem dX4_read_72 : decode cX4_read 72 = .ok (.getfield 42, 3) := by decide +kernel
theorem dX4_read_75 : decode cX4_read 75 = .ok (.ifCond .eq 16, 3) := by decide +kernel
theorem dX4_read_78 : decode cX4_read 78 = .ok (.aload_n 2, 1) := by decide +kernel
theorem dX4_read_79 : decode cX4_read 79 = .ok (.getfield 45, 3) := by decide +kernel
theorem dX4_read_82 : decode cX4_read 82 = .ok (.aload_n 2, 1) := by decide +kernel
theorem dX4_read_83 : decode cX4_read 83 = .ok (.getfield 42, 3) := by decide +kernel
theorem dX4_read_86 : decode cX4_read 86 = .ok (.iconst 2, 1) := by decide +kernel
theorem dX4_read_87 : decode cX4_read 87 = .ok (.idiv, 1) := by decide +kernel
theorem dX4_read_88 : decode cX4_read 88 = .ok (.if_icmp .lt 10, 3) := by decide +kernel
theorem dX4_read_91 : decode cX4_read 91 = .ok (.aload_n 1, 1) := by decide +kernel
theorem dX4_read_92 : decode cX4_read 92 = .ok (.getfield 48, 3) := by decide +kernel
theorem dX4_read_95 : decode cX4_read 95 = .ok (.goto 4, 3) := by decide +kernel
theorem dX4_read_98 : decode cX4_read 98 = .ok (.iconst (-1), 1) := by decide +kernel
theorem dX4_read_99 : decode cX4_read 99 = .ok (.ireturn, 1) := by decide +kernel
theorem dX4_clause_0 : decode cX4_clause 0 = .ok (.aload_n 1, 1) := by decide +kernel
theorem dX4_clause_1 : decode cX4_clause 1 = .ok (.invokevirtual 38, 3) := by decide +kernel
theorem dX4_clause_4 : decode cX4_clause 4 = .ok (.istore_n 3, 1) := by decide +kernel
theorem dX4_clause_5 : decode cX4_clause 5 = .ok (.iload_n 3, 1) := by decide +kernel
theorem dX4_clause_6 : decode cX4_clause 6 = .ok (.bipush 103, 2) := by decide +kernel
theorem dX4_clause_8 : decode cX4_clause 8 = .ok (.if_icmp .ne 27, 3) := by decide +kernel
theorem dX4_clause_11 : decode cX4_clause 11 = .ok (.aload_n 2, 1) := by decide +kernel
theorem dX4_clause_12 : decode cX4_clause 12 = .ok (.getfield 42, 3) := by decide +kernel
theorem dX4_clause_15 : decode cX4_clause 15 = .ok (.ifCond .ne 20, 3) := by decide +kernel
theorem dX4_clause_18 : decode cX4_clause 18 = .ok (.aload_n 1, 1) := by decide +kernel
theorem dX4_clause_19 : decode cX4_clause 19 = .ok (.dup, 1) := by decide +kernel
theorem dX4_clause_20 : decode cX4_clause 20 = .ok (.getfield 24, 3) := by decide +kernel
theorem dX4_clause_23 : decode cX4_clause 23 = .ok (.iconst 1, 1) := by decide +kernel
theorem dX4_clause_24 : decode cX4_clause 24 = .ok (.iadd, 1) := by decide +kernel
theorem dX4_clause_25 : decode cX4_clause 25 = .ok (.putfield 24, 3) := by decide +kernel
theorem dX4_clause_28 : decode cX4_clause 28 = .ok (.aload_n 0, 1) := by decide +kernel
theorem dX4_clause_29 : decode cX4_clause 29 = .ok (.aload_n 1, 1) := by decide +kernel
theorem dX4_clause_30 : decode cX4_clause 30 = .ok (.aload_n 2, 1) := by decide +kernel
theorem dX4_clause_31 : decode cX4_clause 31 = .ok (.invokevirtual 51, 3) := by decide +kernel
theorem dX4_clause_34 : decode cX4_clause 34 = .ok (.ireturn, 1) := by decide +kernel
theorem dX4_clause_35 : decode cX4_clause 35 = .ok (.iload_n 3, 1) := by decide +kernel
theorem dX4_clause_36 : decode cX4_clause 36 = .ok (.bipush 116, 2) := by decide +kernel
theorem dX4_clause_38 : decode cX4_clause 38 = .ok (.if_icmp .ne 32, 3) := by decide +kernel
theorem dX4_clause_41 : decode cX4_clause 41 = .ok (.aload_n 0, 1) := by decide +kernel
theorem dX4_clause_42 : decode cX4_clause 42 = .ok (.getfield 15, 3) := by decide +kernel
theorem dX4_clause_45 : decode cX4_clause 45 = .ok (.ifCond .ne 25, 3) := by decide +kernel
theorem dX4_clause_48 : decode cX4_clause 48 = .ok (.aload_n 1, 1) := by decide +kernel
theorem dX4_clause_49 : decode cX4_clause 49 = .ok (.dup, 1) := by decide +kernel
theorem dX4_clause_50 : decode cX4_clause 50 = .ok (.getfield 24, 3) := by decide +kernel
theorem dX4_clause_53 : decode cX4_clause 53 = .ok (.iconst 1, 1) := by decide +kernel
theorem dX4_clause_54 : decode cX4_clause 54 = .ok (.iadd, 1) := by decide +kernel
theorem dX4_clause_55 : decode cX4_clause 55 = .ok (.putfield 24, 3) := by decide +kernel
theorem dX4_clause_58 : decode cX4_clause 58 = .ok (.aload_n 0, 1) := by decide +kernel
theorem dX4_clause_59 : decode cX4_clause 59 = .ok (.iconst 1, 1) := by decide +kernel
theorem dX4_clause_60 : decode cX4_clause 60 = .ok (.putfield 15, 3) := by decide +kernel
theorem dX4_clause_63 : decode cX4_clause 63 = .ok (.aload_n 0, 1) := by decide +kernel
theorem dX4_clause_64 : decode cX4_clause 64 = .ok (.aload_n 1, 1) := by decide +kernel
theorem dX4_clause_65 : decode cX4_clause 65 = .ok (.aload_n 2, 1) := by decide +kernel
theorem dX4_clause_66 : decode cX4_clause 66 = .ok (.invokevirtual 54, 3) := by decide +kernel
theorem dX4_clause_69 : decode cX4_clause 69 = .ok (.ireturn, 1) := by decide +kernel
theorem dX4_clause_70 : decode cX4_clause 70 = .ok (.iload_n 3, 1) := by decide +kernel
theorem dX4_clause_71 : decode cX4_clause 71 = .ok (.bipush 99, 2) := by decide +kernel
theorem dX4_clause_73 : decode cX4_clause 73 = .ok (.if_icmp .ne 35, 3) := by decide +kernel
theorem dX4_clause_76 : decode cX4_clause 76 = .ok (.aload_n 2, 1) := by decide +kernel
theorem dX4_clause_77 : decode cX4_clause 77 = .ok (.getfield 57, 3) := by decide +kernel
theorem dX4_clause_80 : decode cX4_clause 80 = .ok (.ifCond .lt 28, 3) := by decide +kernel
theorem dX4_clause_83 : decode cX4_clause 83 = .ok (.aload_n 2, 1) := by decide +kernel
theorem dX4_clause_84 : decode cX4_clause 84 = .ok (.getfield 57, 3) := by decide +kernel
theorem dX4_clause_87 : decode cX4_clause 87 = .ok (.iconst 4, 1) := by decide +kernel
theorem dX4_clause_88 : decode cX4_clause 88 = .ok (.if_icmp .ge 20, 3) := by decide +kernel
theorem dX4_clause_91 : decode cX4_clause 91 = .ok (.aload_n 1, 1) := by decide +kernel
theorem dX4_clause_92 : decode cX4_clause 92 = .ok (.dup, 1) := by decide +kernel
theorem dX4_clause_93 : decode cX4_clause 93 = .ok (.getfield 24, 3) := by decide +kernel
theorem dX4_clause_96 : decode cX4_clause 96 = .ok (.iconst 1, 1) := by decide +kernel
theorem dX4_clause_97 : decode cX4_clause 97 = .ok (.iadd, 1) := by decide +kernel
theorem dX4_clause_98 : decode cX4_clause 98 = .ok (.putfield 24, 3) := by decide +kernel
theorem dX4_clause_101 : decode cX4_clause 101 = .ok (.aload_n 0, 1) := by decide +kernel
theorem dX4_clause_102 : decode cX4_clause 102 = .ok (.aload_n 1, 1) := by decide +kernel
theorem dX4_clause_103 : decode cX4_clause 103 = .ok (.aload_n 2, 1) := by decide +kernel
theorem dX4_clause_104 : decode cX4_clause 104 = .ok (.invokevirtual 60, 3) := by decide +kernel
theorem dX4_clause_107 : decode cX4_clause 107 = .ok (.ireturn, 1) := by decide +kernel
theorem dX4_clause_108 : decode cX4_clause 108 = .ok (.iconst 0, 1) := by decide +kernel
theorem dX4_clause_109 : decode cX4_clause 109 = .ok (.ireturn, 1) := by decide +kernel
theorem dX4_ground_0 : decode cX4_ground 0 = .ok (.iconst 0, 1) := by decide +kernel
theorem dX4_ground_1 : decode cX4_ground 1 = .ok (.istore_n 3, 1) := by decide +kernel
theorem dX4_ground_2 : decode cX4_ground 2 = .ok (.iload_n 3, 1) := by decide +kernel
theorem dX4_ground_3 : decode cX4_ground 3 = .ok (.bipush 24, 2) := by decide +kernel
theorem dX4_ground_5 : decode cX4_ground 5 = .ok (.if_icmp .ge 107, 3) := by decide +kernel
theorem dX4_ground_8 : decode cX4_ground 8 = .ok (.aload_n 1, 1) := by decide +kernel
theorem dX4_ground_9 : decode cX4_ground 9 = .ok (.invokevirtual 38, 3) := by decide +kernel
theorem dX4_ground_12 : decode cX4_ground 12 = .ok (.pop, 1) := by decide +kernel
theorem dX4_ground_13 : decode cX4_ground 13 = .ok (.aload_n 1, 1) := by decide +kernel
theorem dX4_ground_14 : decode cX4_ground 14 = .ok (.iconst 2, 1) := by decide +kernel
theorem dX4_ground_15 : decode cX4_ground 15 = .ok (.invokevirtual 63, 3) := by decide +kernel
theorem dX4_ground_18 : decode cX4_ground 18 = .ok (.istore 4, 2) := by decide +kernel
theorem dX4_ground_20 : decode cX4_ground 20 = .ok (.iload 4, 2) := by decide +kernel
theorem dX4_ground_22 : decode cX4_ground 22 = .ok (.iconst (-1), 1) := by decide +kernel
theorem dX4_ground_23 : decode cX4_ground 23 = .ok (.if_icmp .ne 5, 3) := by decide +kernel
theorem dX4_ground_26 : decode cX4_ground 26 = .ok (.iconst 0, 1) := by decide +kernel
theorem dX4_ground_27 : decode cX4_ground 27 = .ok (.ireturn, 1) := by decide +kernel
theorem dX4_ground_28 : decode cX4_ground 28 = .ok (.aload_n 2, 1) := by decide +kernel
theorem dX4_ground_29 : decode cX4_ground 29 = .ok (.getfield 67, 3) := by decide +kernel
theorem dX4_ground_32 : decode cX4_ground 32 = .ok (.iload_n 3, 1) := by decide +kernel
theorem dX4_ground_33 : decode cX4_ground 33 = .ok (.iload 4, 2) := by decide +kernel
theorem dX4_ground_35 : decode cX4_ground 35 = .ok (.iastore, 1) := by decide +kernel
theorem dX4_ground_36 : decode cX4_ground 36 = .ok (.aload_n 2, 1) := by decide +kernel
theorem dX4_ground_37 : decode cX4_ground 37 = .ok (.iload_n 3, 1) := by decide +kernel
theorem dX4_ground_38 : decode cX4_ground 38 = .ok (.iconst 1, 1) := by decide +kernel
theorem dX4_ground_39 : decode cX4_ground 39 = .ok (.iadd, 1) := by decide +kernel
theorem dX4_ground_40 : decode cX4_ground 40 = .ok (.putfield 42, 3) := by decide +kernel
theorem dX4_ground_43 : decode cX4_ground 43 = .ok (.aload_n 1, 1) := by decide +kernel
theorem dX4_ground_44 : decode cX4_ground 44 = .ok (.invokevirtual 38, 3) := by decide +kernel
theorem dX4_ground_47 : decode cX4_ground 47 = .ok (.bipush 44, 2) := by decide +kernel
theorem dX4_ground_49 : decode cX4_ground 49 = .ok (.if_icmp .eq 7, 3) := by decide +kernel
theorem dX4_ground_52 : decode cX4_ground 52 = .ok (.iconst 1, 1) := by decide +kernel
theorem dX4_ground_53 : decode cX4_ground 53 = .ok (.goto 4, 3) := by decide +kernel
theorem dX4_ground_56 : decode cX4_ground 56 = .ok (.iconst 0, 1) := by decide +kernel
theorem dX4_ground_57 : decode cX4_ground 57 = .ok (.istore 5, 2) := by decide +kernel
theorem dX4_ground_59 : decode cX4_ground 59 = .ok (.iload 5, 2) := by decide +kernel
theorem dX4_ground_61 : decode cX4_ground 61 = .ok (.ifCond .eq 26, 3) := by decide +kernel
theorem dX4_ground_64 : decode cX4_ground 64 = .ok (.aload_n 2, 1) := by decide +kernel
theorem dX4_ground_65 : decode cX4_ground 65 = .ok (.getfield 42, 3) := by decide +kernel
theorem dX4_ground_68 : decode cX4_ground 68 = .ok (.iconst 4, 1) := by decide +kernel
theorem dX4_ground_69 : decode cX4_ground 69 = .ok (.if_icmp .lt 16, 3) := by decide +kernel
theorem dX4_ground_72 : decode cX4_ground 72 = .ok (.aload_n 2, 1) := by decide +kernel
theorem dX4_ground_73 : decode cX4_ground 73 = .ok (.getfield 42, 3) := by decide +kernel
theorem dX4_ground_76 : decode cX4_ground 76 = .ok (.iconst 2, 1) := by decide +kernel
theorem dX4_ground_77 : decode cX4_ground 77 = .ok (.irem, 1) := by decide +kernel
theorem dX4_ground_78 : decode cX4_ground 78 = .ok (.ifCond .ne 7, 3) := by decide +kernel
theorem dX4_ground_81 : decode cX4_ground 81 = .ok (.iconst 1, 1) := by decide +kernel
theorem dX4_ground_82 : decode cX4_ground 82 = .ok (.goto 4, 3) := by decide +kernel
theorem dX4_ground_85 : decode cX4_ground 85 = .ok (.iconst 0, 1) := by decide +kernel
theorem dX4_ground_86 : decode cX4_ground 86 = .ok (.ireturn, 1) := by decide +kernel
theorem dX4_ground_87 : decode cX4_ground 87 = .ok (.aload_n 2, 1) := by decide +kernel
theorem dX4_ground_88 : decode cX4_ground 88 = .ok (.getfield 42, 3) := by decide +kernel
theorem dX4_ground_91 : decode cX4_ground 91 = .ok (.bipush 24, 2) := by decide +kernel
theorem dX4_ground_93 : decode cX4_ground 93 = .ok (.if_icmp .ge 13, 3) := by decide +kernel
theorem dX4_ground_96 : decode cX4_ground 96 = .ok (.aload_n 1, 1) := by decide +kernel
theorem dX4_ground_97 : decode cX4_ground 97 = .ok (.dup, 1) := by decide +kernel
theorem dX4_ground_98 : decode cX4_ground 98 = .ok (.getfield 24, 3) := by decide +kernel
theorem dX4_ground_101 : decode cX4_ground 101 = .ok (.iconst 1, 1) := by decide +kernel
theorem dX4_ground_102 : decode cX4_ground 102 = .ok (.iadd, 1) := by decide +kernel
theorem dX4_ground_103 : decode cX4_ground 103 = .ok (.putfield 24, 3) := by decide +kernel
theorem dX4_ground_106 : decode cX4_ground 106 = .ok (.iinc 3 1, 3) := by decide +kernel
theorem dX4_ground_109 : decode cX4_ground 109 = .ok (.goto (-107), 3) := by decide +kernel
theorem dX4_ground_112 : decode cX4_ground 112 = .ok (.iconst 0, 1) := by decide +kernel
theorem dX4_ground_113 : decode cX4_ground 113 = .ok (.ireturn, 1) := by decide +kernel
theorem dX4_table_0 : decode cX4_table 0 = .ok (.aload_n 0, 1) := by decide +kernel
theorem dX4_table_1 : decode cX4_table 1 = .ok (.getfield 9, 3) := by decide +kernel
theorem dX4_table_4 : decode cX4_table 4 = .ok (.iconst 0, 1) := by decide +kernel
theorem dX4_table_5 : decode cX4_table 5 = .ok (.invokestatic 70, 3) := by decide +kernel
theorem dX4_table_8 : decode cX4_table 8 = .ok (.aload_n 0, 1) := by decide +kernel
theorem dX4_table_9 : decode cX4_table 9 = .ok (.getfield 9, 3) := by decide +kernel
theorem dX4_table_12 : decode cX4_table 12 = .ok (.iconst 0, 1) := by decide +kernel
theorem dX4_table_13 : decode cX4_table 13 = .ok (.iconst 1, 1) := by decide +kernel
theorem dX4_table_14 : decode cX4_table 14 = .ok (.iastore, 1) := by decide +kernel
theorem dX4_table_15 : decode cX4_table 15 = .ok (.aload_n 0, 1) := by decide +kernel
theorem dX4_table_16 : decode cX4_table 16 = .ok (.aload_n 1, 1) := by decide +kernel
theorem dX4_table_17 : decode cX4_table 17 = .ok (.ldc 76, 2) := by decide +kernel
theorem dX4_table_19 : decode cX4_table 19 = .ok (.getstatic 78, 3) := by decide +kernel
theorem dX4_table_22 : decode cX4_table 22 = .ok (.getstatic 81, 3) := by decide +kernel
theorem dX4_table_25 : decode cX4_table 25 = .ok (.invokevirtual 84, 3) := by decide +kernel
theorem dX4_table_28 : decode cX4_table 28 = .ok (.ifCond .ne 5, 3) := by decide +kernel
theorem dX4_table_31 : decode cX4_table 31 = .ok (.iconst 0, 1) := by decide +kernel
theorem dX4_table_32 : decode cX4_table 32 = .ok (.ireturn, 1) := by decide +kernel
theorem dX4_table_33 : decode cX4_table 33 = .ok (.aload_n 2, 1) := by decide +kernel
theorem dX4_table_34 : decode cX4_table 34 = .ok (.aload_n 0, 1) := by decide +kernel
theorem dX4_table_35 : decode cX4_table 35 = .ok (.getfield 9, 3) := by decide +kernel
theorem dX4_table_38 : decode cX4_table 38 = .ok (.iconst 0, 1) := by decide +kernel
theorem dX4_table_39 : decode cX4_table 39 = .ok (.iaload, 1) := by decide +kernel
theorem dX4_table_40 : decode cX4_table 40 = .ok (.putfield 45, 3) := by decide +kernel
theorem dX4_table_43 : decode cX4_table 43 = .ok (.aload_n 0, 1) := by decide +kernel
theorem dX4_table_44 : decode cX4_table 44 = .ok (.getfield 9, 3) := by decide +kernel
theorem dX4_table_47 : decode cX4_table 47 = .ok (.iconst 1, 1) := by decide +kernel
theorem dX4_table_48 : decode cX4_table 48 = .ok (.aload_n 2, 1) := by decide +kernel
theorem dX4_table_49 : decode cX4_table 49 = .ok (.getfield 88, 3) := by decide +kernel
theorem dX4_table_52 : decode cX4_table 52 = .ok (.iconst 0, 1) := by decide +kernel
theorem dX4_table_53 : decode cX4_table 53 = .ok (.iconst 4, 1) := by decide +kernel
theorem dX4_table_54 : decode cX4_table 54 = .ok (.invokestatic 91, 3) := by decide +kernel
theorem dX4_table_57 : decode cX4_table 57 = .ok (.iconst 1, 1) := by decide +kernel
theorem dX4_table_58 : decode cX4_table 58 = .ok (.ireturn, 1) := by decide +kernel
theorem dX4_cardSort_0 : decode cX4_cardSort 0 = .ok (.aload_n 2, 1) := by decide +kernel
theorem dX4_cardSort_1 : decode cX4_cardSort 1 = .ok (.getfield 57, 3) := by decide +kernel
theorem dX4_cardSort_4 : decode cX4_cardSort 4 = .ok (.istore_n 3, 1) := by decide +kernel
theorem dX4_cardSort_5 : decode cX4_cardSort 5 = .ok (.aload_n 0, 1) := by decide +kernel
theorem dX4_cardSort_6 : decode cX4_cardSort 6 = .ok (.getfield 9, 3) := by decide +kernel
theorem dX4_cardSort_9 : decode cX4_cardSort 9 = .ok (.iconst 0, 1) := by decide +kernel
theorem dX4_cardSort_10 : decode cX4_cardSort 10 = .ok (.iconst 1, 1) := by decide +kernel
theorem dX4_cardSort_11 : decode cX4_cardSort 11 = .ok (.iastore, 1) := by decide +kernel
theorem dX4_cardSort_12 : decode cX4_cardSort 12 = .ok (.aload_n 0, 1) := by decide +kernel
theorem dX4_cardSort_13 : decode cX4_cardSort 13 = .ok (.getfield 9, 3) := by decide +kernel
theorem dX4_cardSort_16 : decode cX4_cardSort 16 = .ok (.iconst 1, 1) := by decide +kernel
theorem dX4_cardSort_17 : decode cX4_cardSort 17 = .ok (.iconst 1, 1) := by decide +kernel
theorem dX4_cardSort_18 : decode cX4_cardSort 18 = .ok (.iastore, 1) := by decide +kernel
theorem dX4_cardSort_19 : decode cX4_cardSort 19 = .ok (.iload_n 3, 1) := by decide +kernel
theorem dX4_cardSort_20 : decode cX4_cardSort 20 = .ok (.ifCond .lt 24, 3) := by decide +kernel
theorem dX4_cardSort_23 : decode cX4_cardSort 23 = .ok (.iload_n 3, 1) := by decide +kernel
theorem dX4_cardSort_24 : decode cX4_cardSort 24 = .ok (.iconst 4, 1) := by decide +kernel
theorem dX4_cardSort_25 : decode cX4_cardSort 25 = .ok (.if_icmp .ge 19, 3) := by decide +kernel
theorem dX4_cardSort_28 : decode cX4_cardSort 28 = .ok (.aload_n 0, 1) := by decide +kernel
theorem dX4_cardSort_29 : decode cX4_cardSort 29 = .ok (.aload_n 1, 1) := by decide +kernel
theorem dX4_cardSort_30 : decode cX4_cardSort 30 = .ok (.ldc 97, 2) := by decide +kernel
theorem dX4_cardSort_32 : decode cX4_cardSort 32 = .ok (.getstatic 99, 3) := by decide +kernel
theorem dX4_cardSort_35 : decode cX4_cardSort 35 = .ok (.getstatic 102, 3) := by decide +kernel
theorem dX4_cardSort_38 : decode cX4_cardSort 38 = .ok (.invokevirtual 84, 3) := by decide +kernel
theorem dX4_cardSort_41 : decode cX4_cardSort 41 = .ok (.ifCond .ne 5, 3) := by decide +kernel
theorem dX4_cardSort_44 : decode cX4_cardSort 44 = .ok (.iconst 0, 1) := by decide +kernel
theorem dX4_cardSort_45 : decode cX4_cardSort 45 = .ok (.ireturn, 1) := by decide +kernel
theorem dX4_cardSort_46 : decode cX4_cardSort 46 = .ok (.aload_n 2, 1) := by decide +kernel
theorem dX4_cardSort_47 : decode cX4_cardSort 47 = .ok (.getfield 105, 3) := by decide +kernel
theorem dX4_cardSort_50 : decode cX4_cardSort 50 = .ok (.iload_n 3, 1) := by decide +kernel
theorem dX4_cardSort_51 : decode cX4_cardSort 51 = .ok (.aload_n 0, 1) := by decide +kernel
theorem dX4_cardSort_52 : decode cX4_cardSort 52 = .ok (.getfield 9, 3) := by decide +kernel
theorem dX4_cardSort_55 : decode cX4_cardSort 55 = .ok (.iconst 0, 1) := by decide +kernel
theorem dX4_cardSort_56 : decode cX4_cardSort 56 = .ok (.iaload, 1) := by decide +kernel
theorem dX4_cardSort_57 : decode cX4_cardSort 57 = .ok (.iastore, 1) := by decide +kernel
theorem dX4_cardSort_58 : decode cX4_cardSort 58 = .ok (.aload_n 2, 1) := by decide +kernel
theorem dX4_cardSort_59 : decode cX4_cardSort 59 = .ok (.getfield 108, 3) := by decide +kernel
theorem dX4_cardSort_62 : decode cX4_cardSort 62 = .ok (.iload_n 3, 1) := by decide +kernel
theorem dX4_cardSort_63 : decode cX4_cardSort 63 = .ok (.aload_n 0, 1) := by decide +kernel
theorem dX4_cardSort_64 : decode cX4_cardSort 64 = .ok (.getfield 9, 3) := by decide +kernel
theorem dX4_cardSort_67 : decode cX4_cardSort 67 = .ok (.iconst 1, 1) := by decide +kernel
theorem dX4_cardSort_68 : decode cX4_cardSort 68 = .ok (.iaload, 1) := by decide +kernel
theorem dX4_cardSort_69 : decode cX4_cardSort 69 = .ok (.iastore, 1) := by decide +kernel
theorem dX4_cardSort_70 : decode cX4_cardSort 70 = .ok (.aload_n 2, 1) := by decide +kernel
theorem dX4_cardSort_71 : decode cX4_cardSort 71 = .ok (.iload_n 3, 1) := by decide +kernel
theorem dX4_cardSort_72 : decode cX4_cardSort 72 = .ok (.iconst 1, 1) := by decide +kernel
theorem dX4_cardSort_73 : decode cX4_cardSort 73 = .ok (.iadd, 1) := by decide +kernel
theorem dX4_cardSort_74 : decode cX4_cardSort 74 = .ok (.putfield 57, 3) := by decide +kernel
theorem dX4_cardSort_77 : decode cX4_cardSort 77 = .ok (.iconst 1, 1) := by decide +kernel
theorem dX4_cardSort_78 : decode cX4_cardSort 78 = .ok (.ireturn, 1) := by decide +kernel
theorem dX4_readItems_0 : decode cX4_readItems 0 = .ok (.iconst 0, 1) := by decide +kernel
theorem dX4_readItems_1 : decode cX4_readItems 1 = .ok (.istore 5, 2) := by decide +kernel
theorem dX4_readItems_3 : decode cX4_readItems 3 = .ok (.iconst 0, 1) := by decide +kernel
theorem dX4_readItems_4 : decode cX4_readItems 4 = .ok (.istore 6, 2) := by decide +kernel
theorem dX4_readItems_6 : decode cX4_readItems 6 = .ok (.iload 6, 2) := by decide +kernel
theorem dX4_readItems_8 : decode cX4_readItems 8 = .ok (.aload_n 2, 1) := by decide +kernel
theorem dX4_readItems_9 : decode cX4_readItems 9 = .ok (.invokevirtual 111, 3) := by decide +kernel
theorem dX4_readItems_12 : decode cX4_readItems 12 = .ok (.if_icmp .gt 157, 3) := by decide +kernel
theorem dX4_readItems_15 : decode cX4_readItems 15 = .ok (.aload_n 1, 1) := by decide +kernel
theorem dX4_readItems_16 : decode cX4_readItems 16 = .ok (.invokevirtual 38, 3) := by decide +kernel
theorem dX4_readItems_19 : decode cX4_readItems 19 = .ok (.istore 7, 2) := by decide +kernel
theorem dX4_readItems_21 : decode cX4_readItems 21 = .ok (.iload 7, 2) := by decide +kernel
theorem dX4_readItems_23 : decode cX4_readItems 23 = .ok (.iconst (-1), 1) := by decide +kernel
theorem dX4_readItems_24 : decode cX4_readItems 24 = .ok (.if_icmp .ne 7, 3) := by decide +kernel
theorem dX4_readItems_27 : decode cX4_readItems 27 = .ok (.iconst (-1), 1) := by decide +kernel
theorem dX4_readItems_28 : decode cX4_readItems 28 = .ok (.goto 10, 3) := by decide +kernel
theorem dX4_readItems_31 : decode cX4_readItems 31 = .ok (.aload_n 2, 1) := by decide +kernel
theorem dX4_readItems_32 : decode cX4_readItems 32 = .ok (.iload 7, 2) := by decide +kernel
theorem dX4_readItems_34 : decode cX4_readItems 34 = .ok (.i2c, 1) := by decide +kernel
theorem dX4_readItems_35 : decode cX4_readItems 35 = .ok (.invokevirtual 115, 3) := by decide +kernel
theorem dX4_readItems_38 : decode cX4_readItems 38 = .ok (.istore 8, 2) := by decide +kernel
theorem dX4_readItems_40 : decode cX4_readItems 40 = .ok (.iload 8, 2) := by decide +kernel
theorem dX4_readItems_42 : decode cX4_readItems 42 = .ok (.ifCond .lt 28, 3) := by decide +kernel
theorem dX4_readItems_45 : decode cX4_readItems 45 = .ok (.iload 8, 2) := by decide +kernel
theorem dX4_readItems_47 : decode cX4_readItems 47 = .ok (.aload_n 3, 1) := by decide +kernel
theorem dX4_readItems_48 : decode cX4_readItems 48 = .ok (.arraylength, 1) := by decide +kernel
theorem dX4_readItems_49 : decode cX4_readItems 49 = .ok (.if_icmp .ge 21, 3) := by decide +kernel
theorem dX4_readItems_52 : decode cX4_readItems 52 = .ok (.iload 8, 2) := by decide +kernel
theorem dX4_readItems_54 : decode cX4_readItems 54 = .ok (.aload 4, 2) := by decide +kernel
theorem dX4_readItems_56 : decode cX4_readItems 56 = .ok (.arraylength, 1) := by decide +kernel
theorem dX4_readItems_57 : decode cX4_readItems 57 = .ok (.if_icmp .ge 13, 3) := by decide +kernel
theorem dX4_readItems_60 : decode cX4_readItems 60 = .ok (.iload 8, 2) := by decide +kernel
theorem dX4_readItems_62 : decode cX4_readItems 62 = .ok (.aload_n 0, 1) := by decide +kernel
theorem dX4_readItems_63 : decode cX4_readItems 63 = .ok (.getfield 9, 3) := by decide +kernel
theorem dX4_readItems_66 : decode cX4_readItems 66 = .ok (.arraylength, 1) := by decide +kernel
theorem dX4_readItems_67 : decode cX4_readItems 67 = .ok (.if_icmp .lt 5, 3) := by decide +kernel
theorem dX4_readItems_70 : decode cX4_readItems 70 = .ok (.iconst 1, 1) := by decide +kernel
theorem dX4_readItems_71 : decode cX4_readItems 71 = .ok (.ireturn, 1) := by decide +kernel
theorem dX4_readItems_72 : decode cX4_readItems 72 = .ok (.iload 5, 2) := by decide +kernel
theorem dX4_readItems_74 : decode cX4_readItems 74 = .ok (.iload 8, 2) := by decide +kernel
theorem dX4_readItems_76 : decode cX4_readItems 76 = .ok (.ishr, 1) := by decide +kernel
theorem dX4_readItems_77 : decode cX4_readItems 77 = .ok (.iconst 1, 1) := by decide +kernel
theorem dX4_readItems_78 : decode cX4_readItems 78 = .ok (.iand, 1) := by decide +kernel
theorem dX4_readItems_79 : decode cX4_readItems 79 = .ok (.ifCond .eq 5, 3) := by decide +kernel
theorem dX4_readItems_82 : decode cX4_readItems 82 = .ok (.iconst 0, 1) := by decide +kernel
theorem dX4_readItems_83 : decode cX4_readItems 83 = .ok (.ireturn, 1) := by decide +kernel
theorem dX4_readItems_84 : decode cX4_readItems 84 = .ok (.iload 5, 2) := by decide +kernel
theorem dX4_readItems_86 : decode cX4_readItems 86 = .ok (.iconst 1, 1) := by decide +kernel
theorem dX4_readItems_87 : decode cX4_readItems 87 = .ok (.iload 8, 2) := by decide +kernel
theorem dX4_readItems_89 : decode cX4_readItems 89 = .ok (.ishl, 1) := by decide +kernel
theorem dX4_readItems_90 : decode cX4_readItems 90 = .ok (.ior, 1) := by decide +kernel
theorem dX4_readItems_91 : decode cX4_readItems 91 = .ok (.istore 5, 2) := by decide +kernel
theorem dX4_readItems_93 : decode cX4_readItems 93 = .ok (.aload_n 1, 1) := by decide +kernel
theorem dX4_readItems_94 : decode cX4_readItems 94 = .ok (.dup, 1) := by decide +kernel
theorem dX4_readItems_95 : decode cX4_readItems 95 = .ok (.getfield 24, 3) := by decide +kernel
theorem dX4_readItems_98 : decode cX4_readItems 98 = .ok (.iconst 1, 1) := by decide +kernel
theorem dX4_readItems_99 : decode cX4_readItems 99 = .ok (.iadd, 1) := by decide +kernel
theorem dX4_readItems_100 : decode cX4_readItems 100 = .ok (.putfield 24, 3) := by decide +kernel
theorem dX4_readItems_103 : decode cX4_readItems 103 = .ok (.aload_n 1, 1) := by decide +kernel
theorem dX4_readItems_104 : decode cX4_readItems 104 = .ok (.invokevirtual 38, 3) := by decide +kernel
theorem dX4_readItems_107 : decode cX4_readItems 107 = .ok (.pop, 1) := by decide +kernel
theorem dX4_readItems_108 : decode cX4_readItems 108 = .ok (.aload_n 1, 1) := by decide +kernel
theorem dX4_readItems_109 : decode cX4_readItems 109 = .ok (.iconst 2, 1) := by decide +kernel
theorem dX4_readItems_110 : decode cX4_readItems 110 = .ok (.invokevirtual 63, 3) := by decide +kernel
theorem dX4_readItems_113 : decode cX4_readItems 113 = .ok (.istore 9, 2) := by decide +kernel
theorem dX4_readItems_115 : decode cX4_readItems 115 = .ok (.iload 9, 2) := by decide +kernel
theorem dX4_readItems_117 : decode cX4_readItems 117 = .ok (.iconst (-1), 1) := by decide +kernel
theorem dX4_readItems_118 : decode cX4_readItems 118 = .ok (.if_icmp .ne 5, 3) := by decide +kernel
theorem dX4_readItems_121 : decode cX4_readItems 121 = .ok (.iconst 0, 1) := by decide +kernel
theorem dX4_readItems_122 : decode cX4_readItems 122 = .ok (.ireturn, 1) := by decide +kernel
theorem dX4_readItems_123 : decode cX4_readItems 123 = .ok (.iload 9, 2) := by decide +kernel
theorem dX4_readItems_125 : decode cX4_readItems 125 = .ok (.aload_n 3, 1) := by decide +kernel
theorem dX4_readItems_126 : decode cX4_readItems 126 = .ok (.iload 8, 2) := by decide +kernel
theorem dX4_readItems_128 : decode cX4_readItems 128 = .ok (.iaload, 1) := by decide +kernel
theorem dX4_readItems_129 : decode cX4_readItems 129 = .ok (.if_icmp .lt 13, 3) := by decide +kernel
theorem dX4_readItems_132 : decode cX4_readItems 132 = .ok (.iload 9, 2) := by decide +kernel
theorem dX4_readItems_134 : decode cX4_readItems 134 = .ok (.aload 4, 2) := by decide +kernel
theorem dX4_readItems_136 : decode cX4_readItems 136 = .ok (.iload 8, 2) := by decide +kernel
theorem dX4_readItems_138 : decode cX4_readItems 138 = .ok (.iaload, 1) := by decide +kernel
theorem dX4_readItems_139 : decode cX4_readItems 139 = .ok (.if_icmp .le 15, 3) := by decide +kernel
theorem dX4_readItems_142 : decode cX4_readItems 142 = .ok (.aload_n 1, 1) := by decide +kernel
theorem dX4_readItems_143 : decode cX4_readItems 143 = .ok (.dup, 1) := by decide +kernel
theorem dX4_readItems_144 : decode cX4_readItems 144 = .ok (.getfield 24, 3) := by decide +kernel
theorem dX4_readItems_147 : decode cX4_readItems 147 = .ok (.iconst 1, 1) := by decide +kernel
theorem dX4_readItems_148 : decode cX4_readItems 148 = .ok (.isub, 1) := by decide +kernel
theorem dX4_readItems_149 : decode cX4_readItems 149 = .ok (.putfield 24, 3) := by decide +kernel
theorem dX4_readItems_152 : decode cX4_readItems 152 = .ok (.iconst 0, 1) := by decide +kernel
theorem dX4_readItems_153 : decode cX4_readItems 153 = .ok (.ireturn, 1) := by decide +kernel
theorem dX4_readItems_154 : decode cX4_readItems 154 = .ok (.aload_n 0, 1) := by decide +kernel
theorem dX4_readItems_155 : decode cX4_readItems 155 = .ok (.getfield 9, 3) := by decide +kernel
theorem dX4_readItems_158 : decode cX4_readItems 158 = .ok (.iload 8, 2) := by decide +kernel
theorem dX4_readItems_160 : decode cX4_readItems 160 = .ok (.iload 9, 2) := by decide +kernel
theorem dX4_readItems_162 : decode cX4_readItems 162 = .ok (.iastore, 1) := by decide +kernel
theorem dX4_readItems_163 : decode cX4_readItems 163 = .ok (.iinc 6 1, 3) := by decide +kernel
theorem dX4_readItems_166 : decode cX4_readItems 166 = .ok (.goto (-160), 3) := by decide +kernel
theorem dX4_readItems_169 : decode cX4_readItems 169 = .ok (.iconst 1, 1) := by decide +kernel
theorem dX4_readItems_170 : decode cX4_readItems 170 = .ok (.ireturn, 1) := by decide +kernel
theorem dX5_init_0 : decode cX5_init 0 = .ok (.aload_n 0, 1) := by decide +kernel
theorem dX5_init_1 : decode cX5_init 1 = .ok (.invokespecial 3, 3) := by decide +kernel
theorem dX5_init_4 : decode cX5_init 4 = .ok (.aload_n 0, 1) := by decide +kernel
theorem dX5_init_5 : decode cX5_init 5 = .ok (.bipush 20, 2) := by decide +kernel
theorem dX5_init_7 : decode cX5_init 7 = .ok (.newarray .int, 2) := by decide +kernel
theorem dX5_init_9 : decode cX5_init 9 = .ok (.putfield 11, 3) := by decide +kernel
theorem dX5_init_12 : decode cX5_init 12 = .ok (.aload_n 0, 1) := by decide +kernel
theorem dX5_init_13 : decode cX5_init 13 = .ok (.bipush 20, 2) := by decide +kernel
theorem dX5_init_15 : decode cX5_init 15 = .ok (.newarray .int, 2) := by decide +kernel
theorem dX5_init_17 : decode cX5_init 17 = .ok (.putfield 15, 3) := by decide +kernel
theorem dX5_init_20 : decode cX5_init 20 = .ok (.aload_n 0, 1) := by decide +kernel
theorem dX5_init_21 : decode cX5_init 21 = .ok (.iconst 0, 1) := by decide +kernel
theorem dX5_init_22 : decode cX5_init 22 = .ok (.putfield 18, 3) := by decide +kernel
theorem dX5_init_25 : decode cX5_init 25 = .ok (.aload_n 0, 1) := by decide +kernel
theorem dX5_init_26 : decode cX5_init 26 = .ok (.iconst 0, 1) := by decide +kernel
theorem dX5_init_27 : decode cX5_init 27 = .ok (.putfield 22, 3) := by decide +kernel
theorem dX5_init_30 : decode cX5_init 30 = .ok (.aload_n 0, 1) := by decide +kernel
theorem dX5_init_31 : decode cX5_init 31 = .ok (.bipush 99, 2) := by decide +kernel
theorem dX5_init_33 : decode cX5_init 33 = .ok (.putfield 25, 3) := by decide +kernel
theorem dX5_init_36 : decode cX5_init 36 = .ok (.return_, 1) := by decide +kernel
theorem dX5_add_0 : decode cX5_add 0 = .ok (.aload_n 0, 1) := by decide +kernel
theorem dX5_add_1 : decode cX5_add 1 = .ok (.getfield 18, 3) := by decide +kernel
theorem dX5_add_4 : decode cX5_add 4 = .ok (.ifCond .lt 12, 3) := by decide +kernel
theorem dX5_add_7 : decode cX5_add 7 = .ok (.aload_n 0, 1) := by decide +kernel
theorem dX5_add_8 : decode cX5_add 8 = .ok (.getfield 18, 3) := by decide +kernel
theorem dX5_add_11 : decode cX5_add 11 = .ok (.bipush 20, 2) := by decide +kernel
theorem dX5_add_13 : decode cX5_add 13 = .ok (.if_icmp .lt 5, 3) := by decide +kernel
theorem dX5_add_16 : decode cX5_add 16 = .ok (.iconst (-1), 1) := by decide +kernel
theorem dX5_add_17 : decode cX5_add 17 = .ok (.ireturn, 1) := by decide +kernel
theorem dX5_add_18 : decode cX5_add 18 = .ok (.aload_n 0, 1) := by decide +kernel
theorem dX5_add_19 : decode cX5_add 19 = .ok (.getfield 11, 3) := by decide +kernel
theorem dX5_add_22 : decode cX5_add 22 = .ok (.aload_n 0, 1) := by decide +kernel
theorem dX5_add_23 : decode cX5_add 23 = .ok (.getfield 18, 3) := by decide +kernel
theorem dX5_add_26 : decode cX5_add 26 = .ok (.iload_n 1, 1) := by decide +kernel
theorem dX5_add_27 : decode cX5_add 27 = .ok (.iastore, 1) := by decide +kernel
theorem dX5_add_28 : decode cX5_add 28 = .ok (.aload_n 0, 1) := by decide +kernel
theorem dX5_add_29 : decode cX5_add 29 = .ok (.getfield 15, 3) := by decide +kernel
theorem dX5_add_32 : decode cX5_add 32 = .ok (.aload_n 0, 1) := by decide +kernel
theorem dX5_add_33 : decode cX5_add 33 = .ok (.getfield 18, 3) := by decide +kernel
theorem dX5_add_36 : decode cX5_add 36 = .ok (.iload_n 2, 1) := by decide +kernel
theorem dX5_add_37 : decode cX5_add 37 = .ok (.iastore, 1) := by decide +kernel
theorem dX5_add_38 : decode cX5_add 38 = .ok (.aload_n 0, 1) := by decide +kernel
theorem dX5_add_39 : decode cX5_add 39 = .ok (.dup, 1) := by decide +kernel
theorem dX5_add_40 : decode cX5_add 40 = .ok (.getfield 18, 3) := by decide +kernel
theorem dX5_add_43 : decode cX5_add 43 = .ok (.iconst 1, 1) := by decide +kernel
theorem dX5_add_44 : decode cX5_add 44 = .ok (.iadd, 1) := by decide +kernel
theorem dX5_add_45 : decode cX5_add 45 = .ok (.putfield 18, 3) := by decide +kernel
theorem dX5_add_48 : decode cX5_add 48 = .ok (.aload_n 0, 1) := by decide +kernel
theorem dX5_add_49 : decode cX5_add 49 = .ok (.getfield 18, 3) := by decide +kernel
theorem dX5_add_52 : decode cX5_add 52 = .ok (.ireturn, 1) := by decide +kernel
theorem dX5_turningOf_0 : decode cX5_turningOf 0 = .ok (.iload_n 1, 1) := by decide +kernel
theorem dX5_turningOf_1 : decode cX5_turningOf 1 = .ok (.ifCond .lt 26, 3) := by decide +kernel
theorem dX5_turningOf_4 : decode cX5_turningOf 4 = .ok (.iload_n 1, 1) := by decide +kernel
theorem dX5_turningOf_5 : decode cX5_turningOf 5 = .ok (.aload_n 0, 1) := by decide +kernel
theorem dX5_turningOf_6 : decode cX5_turningOf 6 = .ok (.getfield 18, 3) := by decide +kernel
theorem dX5_turningOf_9 : decode cX5_turningOf 9 = .ok (.if_icmp .ge 18, 3) := by decide +kernel
theorem dX5_turningOf_12 : decode cX5_turningOf 12 = .ok (.iload_n 1, 1) := by decide +kernel
theorem dX5_turningOf_13 : decode cX5_turningOf 13 = .ok (.bipush 20, 2) := by decide +kernel
theorem dX5_turningOf_15 : decode cX5_turningOf 15 = .ok (.if_icmp .ge 12, 3) := by decide +kernel
theorem dX5_turningOf_18 : decode cX5_turningOf 18 = .ok (.aload_n 0, 1) := by decide +kernel
theorem dX5_turningOf_19 : decode cX5_turningOf 19 = .ok (.getfield 11, 3) := by decide +kernel
theorem dX5_turningOf_22 : decode cX5_turningOf 22 = .ok (.iload_n 1, 1) := by decide +kernel
theorem dX5_turningOf_23 : decode cX5_turningOf 23 = .ok (.iaload, 1) := by decide +kernel
theorem dX5_turningOf_24 : decode cX5_turningOf 24 = .ok (.goto 4, 3) := by decide +kernel
theorem dX5_turningOf_27 : decode cX5_turningOf 27 = .ok (.iconst 0, 1) := by decide +kernel
theorem dX5_turningOf_28 : decode cX5_turningOf 28 = .ok (.ireturn, 1) := by decide +kernel
theorem dX5_signOf_0 : decode cX5_signOf 0 = .ok (.iload_n 1, 1) := by decide +kernel
theorem dX5_signOf_1 : decode cX5_signOf 1 = .ok (.ifCond .lt 26, 3) := by decide +kernel
theorem dX5_signOf_4 : decode cX5_signOf 4 = .ok (.iload_n 1, 1) := by decide +kernel
theorem dX5_signOf_5 : decode cX5_signOf 5 = .ok (.aload_n 0, 1) := by decide +kernel
theorem dX5_signOf_6 : decode cX5_signOf 6 = .ok (.getfield 18, 3) := by decide +kernel
theorem dX5_signOf_9 : decode cX5_signOf 9 = .ok (.if_icmp .ge 18, 3) := by decide +kernel
theorem dX5_signOf_12 : decode cX5_signOf 12 = .ok (.iload_n 1, 1) := by decide +kernel
theorem dX5_signOf_13 : decode cX5_signOf 13 = .ok (.bipush 20, 2) := by decide +kernel
theorem dX5_signOf_15 : decode cX5_signOf 15 = .ok (.if_icmp .ge 12, 3) := by decide +kernel
theorem dX5_signOf_18 : decode cX5_signOf 18 = .ok (.aload_n 0, 1) := by decide +kernel
theorem dX5_signOf_19 : decode cX5_signOf 19 = .ok (.getfield 15, 3) := by decide +kernel
theorem dX5_signOf_22 : decode cX5_signOf 22 = .ok (.iload_n 1, 1) := by decide +kernel
theorem dX5_signOf_23 : decode cX5_signOf 23 = .ok (.iaload, 1) := by decide +kernel
theorem dX5_signOf_24 : decode cX5_signOf 24 = .ok (.goto 4, 3) := by decide +kernel
theorem dX5_signOf_27 : decode cX5_signOf 27 = .ok (.iconst 0, 1) := by decide +kernel
theorem dX5_signOf_28 : decode cX5_signOf 28 = .ok (.ireturn, 1) := by decide +kernel
theorem dX5_startRange_0 : decode cX5_startRange 0 = .ok (.aload_n 0, 1) := by decide +kernel
theorem dX5_startRange_1 : decode cX5_startRange 1 = .ok (.iconst 0, 1) := by decide +kernel
theorem dX5_startRange_2 : decode cX5_startRange 2 = .ok (.putfield 22, 3) := by decide +kernel
theorem dX5_startRange_5 : decode cX5_startRange 5 = .ok (.aload_n 0, 1) := by decide +kernel
theorem dX5_startRange_6 : decode cX5_startRange 6 = .ok (.bipush 99, 2) := by decide +kernel
theorem dX5_startRange_8 : decode cX5_startRange 8 = .ok (.putfield 25, 3) := by decide +kernel
theorem dX5_startRange_11 : decode cX5_startRange 11 = .ok (.return_, 1) := by decide +kernel
theorem dX5_narrow_0 : decode cX5_narrow 0 = .ok (.iload_n 2, 1) := by decide +kernel
theorem dX5_narrow_1 : decode cX5_narrow 1 = .ok (.ifCond .ne 17, 3) := by decide +kernel
theorem dX5_narrow_4 : decode cX5_narrow 4 = .ok (.iload_n 1, 1) := by decide +kernel
