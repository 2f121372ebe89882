theorem dJ0_length_8abf5_0 : decode cJ0_length_8abf5 0 = .ok (.aload_n 0, 1) := by decide +kernel
theorem dJ0_length_8abf5_1 : decode cJ0_length_8abf5 1 = .ok (.getfield 9, 3) := by decide +kernel
theorem dJ0_length_8abf5_4 : decode cJ0_length_8abf5 4 = .ok (.arraylength, 1) := by decide +kernel
theorem dJ0_length_8abf5_5 : decode cJ0_length_8abf5 5 = .ok (.aload_n 0, 1) := by decide +kernel
theorem dJ0_length_8abf5_6 : decode cJ0_length_8abf5 6 = .ok (.invokevirtual 335, 3) := by decide +kernel
theorem dJ0_length_8abf5_9 : decode cJ0_length_8abf5 9 = .ok (.ishr, 1) := by decide +kernel
theorem dJ0_length_8abf5_10 : decode cJ0_length_8abf5 10 = .ok (.ireturn, 1) := by decide +kernel
theorem dJ0_charAt_5068e_0 : decode cJ0_charAt_5068e 0 = .ok (.aload_n 0, 1) := by decide +kernel
theorem dJ0_charAt_5068e_1 : decode cJ0_charAt_5068e 1 = .ok (.invokevirtual 492, 3) := by decide +kernel
theorem dJ0_charAt_5068e_4 : decode cJ0_charAt_5068e 4 = .ok (.ifCond .eq 12, 3) := by decide +kernel
theorem dJ0_charAt_5068e_7 : decode cJ0_charAt_5068e 7 = .ok (.aload_n 0, 1) := by decide +kernel
theorem dJ0_charAt_5068e_8 : decode cJ0_charAt_5068e 8 = .ok (.getfield 9, 3) := by decide +kernel
theorem dJ0_charAt_5068e_11 : decode cJ0_charAt_5068e 11 = .ok (.iload_n 1, 1) := by decide +kernel
theorem dJ0_charAt_5068e_12 : decode cJ0_charAt_5068e 12 = .ok (.invokestatic 495, 3) := by decide +kernel
theorem dJ0_charAt_5068e_15 : decode cJ0_charAt_5068e 15 = .ok (.ireturn, 1) := by decide +kernel
theorem dJ0_charAt_5068e_16 : decode cJ0_charAt_5068e 16 = .ok (.aload_n 0, 1) := by decide +kernel
theorem dJ0_charAt_5068e_17 : decode cJ0_charAt_5068e 17 = .ok (.getfield 9, 3) := by decide +kernel
theorem dJ0_charAt_5068e_20 : decode cJ0_charAt_5068e 20 = .ok (.iload_n 1, 1) := by decide +kernel
theorem dJ0_charAt_5068e_21 : decode cJ0_charAt_5068e 21 = .ok (.invokestatic 498, 3) := by decide +kernel
theorem dJ0_charAt_5068e_24 : decode cJ0_charAt_5068e 24 = .ok (.ireturn, 1) := by decide +kernel
theorem dJ0_indexOf_0f7a4_0 : decode cJ0_indexOf_0f7a4 0 = .ok (.aload_n 0, 1) := by decide +kernel
theorem dJ0_indexOf_0f7a4_1 : decode cJ0_indexOf_0f7a4 1 = .ok (.iload_n 1, 1) := by decide +kernel
theorem dJ0_indexOf_0f7a4_2 : decode cJ0_indexOf_0f7a4 2 = .ok (.iconst 0, 1) := by decide +kernel
theorem dJ0_indexOf_0f7a4_3 : decode cJ0_indexOf_0f7a4 3 = .ok (.invokevirtual 633, 3) := by decide +kernel
theorem dJ0_indexOf_0f7a4_6 : decode cJ0_indexOf_0f7a4 6 = .ok (.ireturn, 1) := by decide +kernel
theorem dJ0_indexOf_7cf53_0 : decode cJ0_indexOf_7cf53 0 = .ok (.aload_n 0, 1) := by decide +kernel
theorem dJ0_indexOf_7cf53_1 : decode cJ0_indexOf_7cf53 1 = .ok (.invokevirtual 492, 3) := by decide +kernel
theorem dJ0_indexOf_7cf53_4 : decode cJ0_indexOf_7cf53 4 = .ok (.ifCond .eq 19, 3) := by decide +kernel
theorem dJ0_indexOf_7cf53_7 : decode cJ0_indexOf_7cf53 7 = .ok (.aload_n 0, 1) := by decide +kernel
theorem dJ0_indexOf_7cf53_8 : decode cJ0_indexOf_7cf53 8 = .ok (.getfield 9, 3) := by decide +kernel
theorem dJ0_indexOf_7cf53_11 : decode cJ0_indexOf_7cf53 11 = .ok (.iload_n 1, 1) := by decide +kernel
theorem dJ0_indexOf_7cf53_12 : decode cJ0_indexOf_7cf53 12 = .ok (.iload_n 2, 1) := by decide +kernel
theorem dJ0_indexOf_7cf53_13 : decode cJ0_indexOf_7cf53 13 = .ok (.aload_n 0, 1) := by decide +kernel
theorem dJ0_indexOf_7cf53_14 : decode cJ0_indexOf_7cf53 14 = .ok (.invokevirtual 505, 3) := by decide +kernel
theorem dJ0_indexOf_7cf53_17 : decode cJ0_indexOf_7cf53 17 = .ok (.invokestatic 637, 3) := by decide +kernel
theorem dJ0_indexOf_7cf53_20 : decode cJ0_indexOf_7cf53 20 = .ok (.goto 16, 3) := by decide +kernel
theorem dJ0_indexOf_7cf53_23 : decode cJ0_indexOf_7cf53 23 = .ok (.aload_n 0, 1) := by decide +kernel
theorem dJ0_indexOf_7cf53_24 : decode cJ0_indexOf_7cf53 24 = .ok (.getfield 9, 3) := by decide +kernel
theorem dJ0_indexOf_7cf53_27 : decode cJ0_indexOf_7cf53 27 = .ok (.iload_n 1, 1) := by decide +kernel
theorem dJ0_indexOf_7cf53_28 : decode cJ0_indexOf_7cf53 28 = .ok (.iload_n 2, 1) := by decide +kernel
theorem dJ0_indexOf_7cf53_29 : decode cJ0_indexOf_7cf53 29 = .ok (.aload_n 0, 1) := by decide +kernel
theorem dJ0_indexOf_7cf53_30 : decode cJ0_indexOf_7cf53 30 = .ok (.invokevirtual 505, 3) := by decide +kernel
theorem dJ0_indexOf_7cf53_33 : decode cJ0_indexOf_7cf53 33 = .ok (.invokestatic 640, 3) := by decide +kernel
theorem dJ0_indexOf_7cf53_36 : decode cJ0_indexOf_7cf53 36 = .ok (.ireturn, 1) := by decide +kernel
theorem dJ0_coder_7d493_0 : decode cJ0_coder_7d493 0 = .ok (.getstatic 38, 3) := by decide +kernel
theorem dJ0_coder_7d493_3 : decode cJ0_coder_7d493 3 = .ok (.ifCond .eq 10, 3) := by decide +kernel
theorem dJ0_coder_7d493_6 : decode cJ0_coder_7d493 6 = .ok (.aload_n 0, 1) := by decide +kernel
theorem dJ0_coder_7d493_7 : decode cJ0_coder_7d493 7 = .ok (.getfield 15, 3) := by decide +kernel
theorem dJ0_coder_7d493_10 : decode cJ0_coder_7d493 10 = .ok (.goto 4, 3) := by decide +kernel
theorem dJ0_coder_7d493_13 : decode cJ0_coder_7d493 13 = .ok (.iconst 1, 1) := by decide +kernel
theorem dJ0_coder_7d493_14 : decode cJ0_coder_7d493 14 = .ok (.ireturn, 1) := by decide +kernel
theorem dJ0_isLatin1_aae02_0 : decode cJ0_isLatin1_aae02 0 = .ok (.getstatic 38, 3) := by decide +kernel
theorem dJ0_isLatin1_aae02_3 : decode cJ0_isLatin1_aae02 3 = .ok (.ifCond .eq 14, 3) := by decide +kernel
theorem dJ0_isLatin1_aae02_6 : decode cJ0_isLatin1_aae02 6 = .ok (.aload_n 0, 1) := by decide +kernel
theorem dJ0_isLatin1_aae02_7 : decode cJ0_isLatin1_aae02 7 = .ok (.getfield 15, 3) := by decide +kernel
theorem dJ0_isLatin1_aae02_10 : decode cJ0_isLatin1_aae02 10 = .ok (.ifCond .ne 7, 3) := by decide +kernel
theorem dJ0_isLatin1_aae02_13 : decode cJ0_isLatin1_aae02 13 = .ok (.iconst 1, 1) := by decide +kernel
theorem dJ0_isLatin1_aae02_14 : decode cJ0_isLatin1_aae02 14 = .ok (.goto 4, 3) := by decide +kernel
theorem dJ0_isLatin1_aae02_17 : decode cJ0_isLatin1_aae02 17 = .ok (.iconst 0, 1) := by decide +kernel
theorem dJ0_isLatin1_aae02_18 : decode cJ0_isLatin1_aae02 18 = .ok (.ireturn, 1) := by decide +kernel
theorem dJ0_checkIndex_df160_0 : decode cJ0_checkIndex_df160 0 = .ok (.iload_n 0, 1) := by decide +kernel
theorem dJ0_checkIndex_df160_1 : decode cJ0_checkIndex_df160 1 = .ok (.iload_n 1, 1) := by decide +kernel
theorem dJ0_checkIndex_df160_2 : decode cJ0_checkIndex_df160 2 = .ok (.getstatic 1053, 3) := by decide +kernel
theorem dJ0_checkIndex_df160_5 : decode cJ0_checkIndex_df160 5 = .ok (.invokestatic 1059, 3) := by decide +kernel
theorem dJ0_checkIndex_df160_8 : decode cJ0_checkIndex_df160 8 = .ok (.pop, 1) := by decide +kernel
theorem dJ0_checkIndex_df160_9 : decode cJ0_checkIndex_df160 9 = .ok (.return_, 1) := by decide +kernel
theorem dJ0_checkBoundsBeginEnd_23922_0 : decode cJ0_checkBoundsBeginEnd_23922 0 = .ok (.iload_n 0, 1) := by decide +kernel
theorem dJ0_checkBoundsBeginEnd_23922_1 : decode cJ0_checkBoundsBeginEnd_23922 1 = .ok (.iload_n 1, 1) := by decide +kernel
theorem dJ0_checkBoundsBeginEnd_23922_2 : decode cJ0_checkBoundsBeginEnd_23922 2 = .ok (.iload_n 2, 1) := by decide +kernel
theorem dJ0_checkBoundsBeginEnd_23922_3 : decode cJ0_checkBoundsBeginEnd_23922 3 = .ok (.getstatic 1053, 3) := by decide +kernel
theorem dJ0_checkBoundsBeginEnd_23922_6 : decode cJ0_checkBoundsBeginEnd_23922 6 = .ok (.invokestatic 1062, 3) := by decide +kernel
theorem dJ0_checkBoundsBeginEnd_23922_9 : decode cJ0_checkBoundsBeginEnd_23922 9 = .ok (.pop, 1) := by decide +kernel
theorem dJ0_checkBoundsBeginEnd_23922_10 : decode cJ0_checkBoundsBeginEnd_23922 10 = .ok (.return_, 1) := by decide +kernel
theorem dJ1_charAt_3b067_0 : decode cJ1_charAt_3b067 0 = .ok (.iload_n 1, 1) := by decide +kernel
theorem dJ1_charAt_3b067_1 : decode cJ1_charAt_3b067 1 = .ok (.aload_n 0, 1) := by decide +kernel
theorem dJ1_charAt_3b067_2 : decode cJ1_charAt_3b067 2 = .ok (.arraylength, 1) := by decide +kernel
theorem dJ1_charAt_3b067_3 : decode cJ1_charAt_3b067 3 = .ok (.invokestatic 9, 3) := by decide +kernel
theorem dJ1_charAt_3b067_6 : decode cJ1_charAt_3b067 6 = .ok (.aload_n 0, 1) := by decide +kernel
theorem dJ1_charAt_3b067_7 : decode cJ1_charAt_3b067 7 = .ok (.iload_n 1, 1) := by decide +kernel
theorem dJ1_charAt_3b067_8 : decode cJ1_charAt_3b067 8 = .ok (.baload, 1) := by decide +kernel
theorem dJ1_charAt_3b067_9 : decode cJ1_charAt_3b067 9 = .ok (.sipush 255, 3) := by decide +kernel
theorem dJ1_charAt_3b067_12 : decode cJ1_charAt_3b067 12 = .ok (.iand, 1) := by decide +kernel
theorem dJ1_charAt_3b067_13 : decode cJ1_charAt_3b067 13 = .ok (.i2c, 1) := by decide +kernel
theorem dJ1_charAt_3b067_14 : decode cJ1_charAt_3b067 14 = .ok (.ireturn, 1) := by decide +kernel
theorem dJ1_canEncode_9a6ad_0 : decode cJ1_canEncode_9a6ad 0 = .ok (.iload_n 0, 1) := by decide +kernel
theorem dJ1_canEncode_9a6ad_1 : decode cJ1_canEncode_9a6ad 1 = .ok (.ifCond .lt 14, 3) := by decide +kernel
theorem dJ1_canEncode_9a6ad_4 : decode cJ1_canEncode_9a6ad 4 = .ok (.iload_n 0, 1) := by decide +kernel
theorem dJ1_canEncode_9a6ad_5 : decode cJ1_canEncode_9a6ad 5 = .ok (.sipush 255, 3) := by decide +kernel
theorem dJ1_canEncode_9a6ad_8 : decode cJ1_canEncode_9a6ad 8 = .ok (.if_icmp .gt 7, 3) := by decide +kernel
theorem dJ1_canEncode_9a6ad_11 : decode cJ1_canEncode_9a6ad 11 = .ok (.iconst 1, 1) := by decide +kernel
theorem dJ1_canEncode_9a6ad_12 : decode cJ1_canEncode_9a6ad 12 = .ok (.goto 4, 3) := by decide +kernel
theorem dJ1_canEncode_9a6ad_15 : decode cJ1_canEncode_9a6ad 15 = .ok (.iconst 0, 1) := by decide +kernel
theorem dJ1_canEncode_9a6ad_16 : decode cJ1_canEncode_9a6ad 16 = .ok (.ireturn, 1) := by decide +kernel
theorem dJ1_indexOf_4cfef_0 : decode cJ1_indexOf_4cfef 0 = .ok (.iload_n 1, 1) := by decide +kernel
theorem dJ1_indexOf_4cfef_1 : decode cJ1_indexOf_4cfef 1 = .ok (.invokestatic 88, 3) := by decide +kernel
theorem dJ1_indexOf_4cfef_4 : decode cJ1_indexOf_4cfef 4 = .ok (.ifCond .ne 5, 3) := by decide +kernel
theorem dJ1_indexOf_4cfef_7 : decode cJ1_indexOf_4cfef 7 = .ok (.iconst (-1), 1) := by decide +kernel
theorem dJ1_indexOf_4cfef_8 : decode cJ1_indexOf_4cfef 8 = .ok (.ireturn, 1) := by decide +kernel
theorem dJ1_indexOf_4cfef_9 : decode cJ1_indexOf_4cfef 9 = .ok (.iload_n 2, 1) := by decide +kernel
theorem dJ1_indexOf_4cfef_10 : decode cJ1_indexOf_4cfef 10 = .ok (.iconst 0, 1) := by decide +kernel
theorem dJ1_indexOf_4cfef_11 : decode cJ1_indexOf_4cfef 11 = .ok (.invokestatic 92, 3) := by decide +kernel
theorem dJ1_indexOf_4cfef_14 : decode cJ1_indexOf_4cfef 14 = .ok (.istore_n 2, 1) := by decide +kernel
theorem dJ1_indexOf_4cfef_15 : decode cJ1_indexOf_4cfef 15 = .ok (.iload_n 3, 1) := by decide +kernel
theorem dJ1_indexOf_4cfef_16 : decode cJ1_indexOf_4cfef 16 = .ok (.aload_n 0, 1) := by decide +kernel
theorem dJ1_indexOf_4cfef_17 : decode cJ1_indexOf_4cfef 17 = .ok (.arraylength, 1) := by decide +kernel
theorem dJ1_indexOf_4cfef_18 : decode cJ1_indexOf_4cfef 18 = .ok (.invokestatic 38, 3) := by decide +kernel
theorem dJ1_indexOf_4cfef_21 : decode cJ1_indexOf_4cfef 21 = .ok (.istore_n 3, 1) := by decide +kernel
theorem dJ1_indexOf_4cfef_22 : decode cJ1_indexOf_4cfef 22 = .ok (.iload_n 2, 1) := by decide +kernel
theorem dJ1_indexOf_4cfef_23 : decode cJ1_indexOf_4cfef 23 = .ok (.iload_n 3, 1) := by decide +kernel
theorem dJ1_indexOf_4cfef_24 : decode cJ1_indexOf_4cfef 24 = .ok (.if_icmp .lt 5, 3) := by decide +kernel
theorem dJ1_indexOf_4cfef_27 : decode cJ1_indexOf_4cfef 27 = .ok (.iconst (-1), 1) := by decide +kernel
theorem dJ1_indexOf_4cfef_28 : decode cJ1_indexOf_4cfef 28 = .ok (.ireturn, 1) := by decide +kernel
theorem dJ1_indexOf_4cfef_29 : decode cJ1_indexOf_4cfef 29 = .ok (.aload_n 0, 1) := by decide +kernel
theorem dJ1_indexOf_4cfef_30 : decode cJ1_indexOf_4cfef 30 = .ok (.iload_n 1, 1) := by decide +kernel
theorem dJ1_indexOf_4cfef_31 : decode cJ1_indexOf_4cfef 31 = .ok (.iload_n 2, 1) := by decide +kernel
theorem dJ1_indexOf_4cfef_32 : decode cJ1_indexOf_4cfef 32 = .ok (.iload_n 3, 1) := by decide +kernel
theorem dJ1_indexOf_4cfef_33 : decode cJ1_indexOf_4cfef 33 = .ok (.invokestatic 95, 3) := by decide +kernel
theorem dJ1_indexOf_4cfef_36 : decode cJ1_indexOf_4cfef 36 = .ok (.ireturn, 1) := by decide +kernel
theorem dJ1_indexOfChar_4cfef_0 : decode cJ1_indexOfChar_4cfef 0 = .ok (.iload_n 1, 1) := by decide +kernel
theorem dJ1_indexOfChar_4cfef_1 : decode cJ1_indexOfChar_4cfef 1 = .ok (.i2b, 1) := by decide +kernel
theorem dJ1_indexOfChar_4cfef_2 : decode cJ1_indexOfChar_4cfef 2 = .ok (.istore 4, 2) := by decide +kernel
theorem dJ1_indexOfChar_4cfef_4 : decode cJ1_indexOfChar_4cfef 4 = .ok (.iload_n 2, 1) := by decide +kernel
theorem dJ1_indexOfChar_4cfef_5 : decode cJ1_indexOfChar_4cfef 5 = .ok (.istore 5, 2) := by decide +kernel
theorem dJ1_indexOfChar_4cfef_7 : decode cJ1_indexOfChar_4cfef 7 = .ok (.iload 5, 2) := by decide +kernel
theorem dJ1_indexOfChar_4cfef_9 : decode cJ1_indexOfChar_4cfef 9 = .ok (.iload_n 3, 1) := by decide +kernel
theorem dJ1_indexOfChar_4cfef_10 : decode cJ1_indexOfChar_4cfef 10 = .ok (.if_icmp .ge 21, 3) := by decide +kernel
theorem dJ1_indexOfChar_4cfef_13 : decode cJ1_indexOfChar_4cfef 13 = .ok (.aload_n 0, 1) := by decide +kernel
theorem dJ1_indexOfChar_4cfef_14 : decode cJ1_indexOfChar_4cfef 14 = .ok (.iload 5, 2) := by decide +kernel
theorem dJ1_indexOfChar_4cfef_16 : decode cJ1_indexOfChar_4cfef 16 = .ok (.baload, 1) := by decide +kernel
theorem dJ1_indexOfChar_4cfef_17 : decode cJ1_indexOfChar_4cfef 17 = .ok (.iload 4, 2) := by decide +kernel
theorem dJ1_indexOfChar_4cfef_19 : decode cJ1_indexOfChar_4cfef 19 = .ok (.if_icmp .ne 6, 3) := by decide +kernel
theorem dJ1_indexOfChar_4cfef_22 : decode cJ1_indexOfChar_4cfef 22 = .ok (.iload 5, 2) := by decide +kernel
theorem dJ1_indexOfChar_4cfef_24 : decode cJ1_indexOfChar_4cfef 24 = .ok (.ireturn, 1) := by decide +kernel
theorem dJ1_indexOfChar_4cfef_25 : decode cJ1_indexOfChar_4cfef 25 = .ok (.iinc 5 1, 3) := by decide +kernel
theorem dJ1_indexOfChar_4cfef_28 : decode cJ1_indexOfChar_4cfef 28 = .ok (.goto (-21), 3) := by decide +kernel
theorem dJ1_indexOfChar_4cfef_31 : decode cJ1_indexOfChar_4cfef 31 = .ok (.iconst (-1), 1) := by decide +kernel
theorem dJ1_indexOfChar_4cfef_32 : decode cJ1_indexOfChar_4cfef 32 = .ok (.ireturn, 1) := by decide +kernel
theorem dJ3_checkIndex_8e157_0 : decode cJ3_checkIndex_8e157 0 = .ok (.iload_n 0, 1) := by decide +kernel
theorem dJ3_checkIndex_8e157_1 : decode cJ3_checkIndex_8e157 1 = .ok (.ifCond .lt 8, 3) := by decide +kernel
theorem dJ3_checkIndex_8e157_4 : decode cJ3_checkIndex_8e157 4 = .ok (.iload_n 0, 1) := by decide +kernel
theorem dJ3_checkIndex_8e157_5 : decode cJ3_checkIndex_8e157 5 = .ok (.iload_n 1, 1) := by decide +kernel
theorem dJ3_checkIndex_8e157_6 : decode cJ3_checkIndex_8e157 6 = .ok (.if_icmp .lt 10, 3) := by decide +kernel
theorem dJ3_checkIndex_8e157_9 : decode cJ3_checkIndex_8e157 9 = .ok (.aload_n 2, 1) := by decide +kernel
theorem dJ3_checkIndex_8e157_10 : decode cJ3_checkIndex_8e157 10 = .ok (.iload_n 0, 1) := by decide +kernel
theorem dJ3_checkIndex_8e157_11 : decode cJ3_checkIndex_8e157 11 = .ok (.iload_n 1, 1) := by decide +kernel
theorem dJ3_checkIndex_8e157_12 : decode cJ3_checkIndex_8e157 12 = .ok (.invokestatic 95, 3) := by decide +kernel
theorem dJ3_checkIndex_8e157_15 : decode cJ3_checkIndex_8e157 15 = .ok (.athrow, 1) := by decide +kernel
theorem dJ3_checkIndex_8e157_16 : decode cJ3_checkIndex_8e157 16 = .ok (.iload_n 0, 1) := by decide +kernel
theorem dJ3_checkIndex_8e157_17 : decode cJ3_checkIndex_8e157 17 = .ok (.ireturn, 1) := by decide +kernel
theorem dJ3_checkFromToIndex_8c36e_0 : decode cJ3_checkFromToIndex_8c36e 0 = .ok (.iload_n 0, 1) := by decide +kernel
theorem dJ3_checkFromToIndex_8c36e_1 : decode cJ3_checkFromToIndex_8c36e 1 = .ok (.ifCond .lt 13, 3) := by decide +kernel
theorem dJ3_checkFromToIndex_8c36e_4 : decode cJ3_checkFromToIndex_8c36e 4 = .ok (.iload_n 0, 1) := by decide +kernel
theorem dJ3_checkFromToIndex_8c36e_5 : decode cJ3_checkFromToIndex_8c36e 5 = .ok (.iload_n 1, 1) := by decide +kernel
theorem dJ3_checkFromToIndex_8c36e_6 : decode cJ3_checkFromToIndex_8c36e 6 = .ok (.if_icmp .gt 8, 3) := by decide +kernel
theorem dJ3_checkFromToIndex_8c36e_9 : decode cJ3_checkFromToIndex_8c36e 9 = .ok (.iload_n 1, 1) := by decide +kernel
theorem dJ3_checkFromToIndex_8c36e_10 : decode cJ3_checkFromToIndex_8c36e 10 = .ok (.iload_n 2, 1) := by decide +kernel
theorem dJ3_checkFromToIndex_8c36e_11 : decode cJ3_checkFromToIndex_8c36e 11 = .ok (.if_icmp .le 11, 3) := by decide +kernel
theorem dJ3_checkFromToIndex_8c36e_14 : decode cJ3_checkFromToIndex_8c36e 14 = .ok (.aload_n 3, 1) := by decide +kernel
theorem dJ3_checkFromToIndex_8c36e_15 : decode cJ3_checkFromToIndex_8c36e 15 = .ok (.iload_n 0, 1) := by decide +kernel
theorem dJ3_checkFromToIndex_8c36e_16 : decode cJ3_checkFromToIndex_8c36e 16 = .ok (.iload_n 1, 1) := by decide +kernel
theorem dJ3_checkFromToIndex_8c36e_17 : decode cJ3_checkFromToIndex_8c36e 17 = .ok (.iload_n 2, 1) := by decide +kernel
theorem dJ3_checkFromToIndex_8c36e_18 : decode cJ3_checkFromToIndex_8c36e 18 = .ok (.invokestatic 99, 3) := by decide +kernel
theorem dJ3_checkFromToIndex_8c36e_21 : decode cJ3_checkFromToIndex_8c36e 21 = .ok (.athrow, 1) := by decide +kernel
theorem dJ3_checkFromToIndex_8c36e_22 : decode cJ3_checkFromToIndex_8c36e 22 = .ok (.iload_n 0, 1) := by decide +kernel
theorem dJ3_checkFromToIndex_8c36e_23 : decode cJ3_checkFromToIndex_8c36e 23 = .ok (.ireturn, 1) := by decide +kernel
theorem dX5_init_0 : decode cX5_init 0 = .ok (.aload_n 0, 1) := by decide +kernel
theorem dX5_init_1 : decode cX5_init 1 = .ok (.invokespecial 3, 3) := by decide +kernel
theorem dX5_init_4 : decode cX5_init 4 = .ok (.aload_n 0, 1) := by decide +kernel
theorem dX5_init_5 : decode cX5_init 5 = .ok (.bipush 100, 2) := by decide +kernel
theorem dX5_init_7 : decode cX5_init 7 = .ok (.newarray .int, 2) := by decide +kernel
theorem dX5_init_9 : decode cX5_init 9 = .ok (.putfield 9, 3) := by decide +kernel
theorem dX5_init_12 : decode cX5_init 12 = .ok (.aload_n 0, 1) := by decide +kernel
theorem dX5_init_13 : decode cX5_init 13 = .ok (.bipush 100, 2) := by decide +kernel
theorem dX5_init_15 : decode cX5_init 15 = .ok (.newarray .int, 2) := by decide +kernel
theorem dX5_init_17 : decode cX5_init 17 = .ok (.putfield 15, 3) := by decide +kernel
theorem dX5_init_20 : decode cX5_init 20 = .ok (.aload_n 0, 1) := by decide +kernel
theorem dX5_init_21 : decode cX5_init 21 = .ok (.bipush 10, 2) := by decide +kernel
theorem dX5_init_23 : decode cX5_init 23 = .ok (.newarray .int, 2) := by decide +kernel
theorem dX5_init_25 : decode cX5_init 25 = .ok (.putfield 18, 3) := by decide +kernel
theorem dX5_init_28 : decode cX5_init 28 = .ok (.aload_n 0, 1) := by decide +kernel
theorem dX5_init_29 : decode cX5_init 29 = .ok (.bipush 10, 2) := by decide +kernel
theorem dX5_init_31 : decode cX5_init 31 = .ok (.newarray .int, 2) := by decide +kernel
theorem dX5_init_33 : decode cX5_init 33 = .ok (.putfield 21, 3) := by decide +kernel
theorem dX5_init_36 : decode cX5_init 36 = .ok (.aload_n 0, 1) := by decide +kernel
theorem dX5_init_37 : decode cX5_init 37 = .ok (.bipush 10, 2) := by decide +kernel
theorem dX5_init_39 : decode cX5_init 39 = .ok (.newarray .int, 2) := by decide +kernel
theorem dX5_init_41 : decode cX5_init 41 = .ok (.putfield 24, 3) := by decide +kernel
theorem dX5_init_44 : decode cX5_init 44 = .ok (.return_, 1) := by decide +kernel
theorem dX5_reads_0 : decode cX5_reads 0 = .ok (.aload_n 0, 1) := by decide +kernel
theorem dX5_reads_1 : decode cX5_reads 1 = .ok (.iconst 0, 1) := by decide +kernel
theorem dX5_reads_2 : decode cX5_reads 2 = .ok (.putfield 27, 3) := by decide +kernel
theorem dX5_reads_5 : decode cX5_reads 5 = .ok (.aload_n 0, 1) := by decide +kernel
theorem dX5_reads_6 : decode cX5_reads 6 = .ok (.iconst 0, 1) := by decide +kernel
theorem dX5_reads_7 : decode cX5_reads 7 = .ok (.putfield 31, 3) := by decide +kernel
theorem dX5_reads_10 : decode cX5_reads 10 = .ok (.aload_n 0, 1) := by decide +kernel
theorem dX5_reads_11 : decode cX5_reads 11 = .ok (.iconst 0, 1) := by decide +kernel
theorem dX5_reads_12 : decode cX5_reads 12 = .ok (.putfield 34, 3) := by decide +kernel
theorem dX5_reads_15 : decode cX5_reads 15 = .ok (.aload_n 0, 1) := by decide +kernel
theorem dX5_reads_16 : decode cX5_reads 16 = .ok (.invokevirtual 37, 3) := by decide +kernel
theorem dX5_reads_19 : decode cX5_reads 19 = .ok (.istore_n 1, 1) := by decide +kernel
theorem dX5_reads_20 : decode cX5_reads 20 = .ok (.iconst 1, 1) := by decide +kernel
theorem dX5_reads_21 : decode cX5_reads 21 = .ok (.istore_n 2, 1) := by decide +kernel
theorem dX5_reads_22 : decode cX5_reads 22 = .ok (.iload_n 2, 1) := by decide +kernel
theorem dX5_reads_23 : decode cX5_reads 23 = .ok (.bipush 10, 2) := by decide +kernel
theorem dX5_reads_25 : decode cX5_reads 25 = .ok (.if_icmp .ge 27, 3) := by decide +kernel
theorem dX5_reads_28 : decode cX5_reads 28 = .ok (.iload_n 1, 1) := by decide +kernel
theorem dX5_reads_29 : decode cX5_reads 29 = .ok (.ifCond .eq 23, 3) := by decide +kernel
theorem dX5_reads_32 : decode cX5_reads 32 = .ok (.aload_n 0, 1) := by decide +kernel
theorem dX5_reads_33 : decode cX5_reads 33 = .ok (.bipush 59, 2) := by decide +kernel
theorem dX5_reads_35 : decode cX5_reads 35 = .ok (.invokevirtual 41, 3) := by decide +kernel
theorem dX5_reads_38 : decode cX5_reads 38 = .ok (.ifCond .eq 14, 3) := by decide +kernel
theorem dX5_reads_41 : decode cX5_reads 41 = .ok (.aload_n 0, 1) := by decide +kernel
theorem dX5_reads_42 : decode cX5_reads 42 = .ok (.invokevirtual 37, 3) := by decide +kernel
theorem dX5_reads_45 : decode cX5_reads 45 = .ok (.istore_n 1, 1) := by decide +kernel
theorem dX5_reads_46 : decode cX5_reads 46 = .ok (.iinc 2 1, 3) := by decide +kernel
theorem dX5_reads_49 : decode cX5_reads 49 = .ok (.goto (-27), 3) := by decide +kernel
theorem dX5_reads_52 : decode cX5_reads 52 = .ok (.iload_n 1, 1) := by decide +kernel
theorem dX5_reads_53 : decode cX5_reads 53 = .ok (.ifCond .eq 18, 3) := by decide +kernel
theorem dX5_reads_56 : decode cX5_reads 56 = .ok (.aload_n 0, 1) := by decide +kernel
theorem dX5_reads_57 : decode cX5_reads 57 = .ok (.getfield 27, 3) := by decide +kernel
theorem dX5_reads_60 : decode cX5_reads 60 = .ok (.aload_n 0, 1) := by decide +kernel
theorem dX5_reads_61 : decode cX5_reads 61 = .ok (.getfield 45, 3) := by decide +kernel
theorem dX5_reads_64 : decode cX5_reads 64 = .ok (.if_icmp .ne 7, 3) := by decide +kernel
theorem dX5_reads_67 : decode cX5_reads 67 = .ok (.iconst 1, 1) := by decide +kernel
theorem dX5_reads_68 : decode cX5_reads 68 = .ok (.goto 4, 3) := by decide +kernel
theorem dX5_reads_71 : decode cX5_reads 71 = .ok (.iconst 0, 1) := by decide +kernel
theorem dX5_reads_72 : decode cX5_reads 72 = .ok (.ireturn, 1) := by decide +kernel
theorem dX5_takes_0 : decode cX5_takes 0 = .ok (.aload_n 0, 1) := by decide +kernel
theorem dX5_takes_1 : decode cX5_takes 1 = .ok (.getfield 27, 3) := by decide +kernel
theorem dX5_takes_4 : decode cX5_takes 4 = .ok (.aload_n 0, 1) := by decide +kernel
theorem dX5_takes_5 : decode cX5_takes 5 = .ok (.getfield 45, 3) := by decide +kernel
theorem dX5_takes_8 : decode cX5_takes 8 = .ok (.if_icmp .ge 25, 3) := by decide +kernel
theorem dX5_takes_11 : decode cX5_takes 11 = .ok (.aload_n 0, 1) := by decide +kernel
theorem dX5_takes_12 : decode cX5_takes 12 = .ok (.getfield 27, 3) := by decide +kernel
theorem dX5_takes_15 : decode cX5_takes 15 = .ok (.bipush 100, 2) := by decide +kernel
theorem dX5_takes_17 : decode cX5_takes 17 = .ok (.if_icmp .ge 16, 3) := by decide +kernel
theorem dX5_takes_20 : decode cX5_takes 20 = .ok (.aload_n 0, 1) := by decide +kernel
theorem dX5_takes_21 : decode cX5_takes 21 = .ok (.getfield 9, 3) := by decide +kernel
theorem dX5_takes_24 : decode cX5_takes 24 = .ok (.aload_n 0, 1) := by decide +kernel
theorem dX5_takes_25 : decode cX5_takes 25 = .ok (.getfield 27, 3) := by decide +kernel
theorem dX5_takes_28 : decode cX5_takes 28 = .ok (.iaload, 1) := by decide +kernel
theorem dX5_takes_29 : decode cX5_takes 29 = .ok (.iload_n 1, 1) := by decide +kernel
theorem dX5_takes_30 : decode cX5_takes 30 = .ok (.if_icmp .eq 5, 3) := by decide +kernel
theorem dX5_takes_33 : decode cX5_takes 33 = .ok (.iconst 0, 1) := by decide +kernel
theorem dX5_takes_34 : decode cX5_takes 34 = .ok (.ireturn, 1) := by decide +kernel
theorem dX5_takes_35 : decode cX5_takes 35 = .ok (.aload_n 0, 1) := by decide +kernel
theorem dX5_takes_36 : decode cX5_takes 36 = .ok (.dup, 1) := by decide +kernel
theorem dX5_takes_37 : decode cX5_takes 37 = .ok (.getfield 27, 3) := by decide +kernel
theorem dX5_takes_40 : decode cX5_takes 40 = .ok (.iconst 1, 1) := by decide +kernel
theorem dX5_takes_41 : decode cX5_takes 41 = .ok (.iadd, 1) := by decide +kernel
theorem dX5_takes_42 : decode cX5_takes 42 = .ok (.putfield 27, 3) := by decide +kernel
theorem dX5_takes_45 : decode cX5_takes 45 = .ok (.iconst 1, 1) := by decide +kernel
theorem dX5_takes_46 : decode cX5_takes 46 = .ok (.ireturn, 1) := by decide +kernel
theorem dX5_clause_0 : decode cX5_clause 0 = .ok (.aload_n 0, 1) := by decide +kernel
theorem dX5_clause_1 : decode cX5_clause 1 = .ok (.invokevirtual 48, 3) := by decide +kernel
theorem dX5_clause_4 : decode cX5_clause 4 = .ok (.istore_n 1, 1) := by decide +kernel
theorem dX5_clause_5 : decode cX5_clause 5 = .ok (.iload_n 1, 1) := by decide +kernel
theorem dX5_clause_6 : decode cX5_clause 6 = .ok (.ifCond .lt 12, 3) := by decide +kernel
theorem dX5_clause_9 : decode cX5_clause 9 = .ok (.aload_n 0, 1) := by decide +kernel
theorem dX5_clause_10 : decode cX5_clause 10 = .ok (.bipush 32, 2) := by decide +kernel
theorem dX5_clause_12 : decode cX5_clause 12 = .ok (.invokevirtual 41, 3) := by decide +kernel
theorem dX5_clause_15 : decode cX5_clause 15 = .ok (.ifCond .ne 5, 3) := by decide +kernel
theorem dX5_clause_18 : decode cX5_clause 18 = .ok (.iconst 0, 1) := by decide +kernel
theorem dX5_clause_19 : decode cX5_clause 19 = .ok (.ireturn, 1) := by decide +kernel
theorem dX5_clause_20 : decode cX5_clause 20 = .ok (.aload_n 0, 1) := by decide +kernel
theorem dX5_clause_21 : decode cX5_clause 21 = .ok (.invokevirtual 52, 3) := by decide +kernel
theorem dX5_clause_24 : decode cX5_clause 24 = .ok (.istore_n 2, 1) := by decide +kernel
theorem dX5_clause_25 : decode cX5_clause 25 = .ok (.iload_n 2, 1) := by decide +kernel
theorem dX5_clause_26 : decode cX5_clause 26 = .ok (.ifCond .ge 5, 3) := by decide +kernel
theorem dX5_clause_29 : decode cX5_clause 29 = .ok (.iconst 0, 1) := by decide +kernel
theorem dX5_clause_30 : decode cX5_clause 30 = .ok (.ireturn, 1) := by decide +kernel
theorem dX5_clause_31 : decode cX5_clause 31 = .ok (.iload_n 1, 1) := by decide +kernel
theorem dX5_clause_32 : decode cX5_clause 32 = .ok (.ifCond .eq 8, 3) := by decide +kernel
theorem dX5_clause_35 : decode cX5_clause 35 = .ok (.iload_n 1, 1) := by decide +kernel
theorem dX5_clause_36 : decode cX5_clause 36 = .ok (.iconst 1, 1) := by decide +kernel
theorem dX5_clause_37 : decode cX5_clause 37 = .ok (.if_icmp .ne 22, 3) := by decide +kernel
theorem dX5_clause_40 : decode cX5_clause 40 = .ok (.aload_n 0, 1) := by decide +kernel
theorem dX5_clause_41 : decode cX5_clause 41 = .ok (.bipush 32, 2) := by decide +kernel
theorem dX5_clause_43 : decode cX5_clause 43 = .ok (.invokevirtual 41, 3) := by decide +kernel
theorem dX5_clause_46 : decode cX5_clause 46 = .ok (.ifCond .eq 11, 3) := by decide +kernel
theorem dX5_clause_49 : decode cX5_clause 49 = .ok (.aload_n 0, 1) := by decide +kernel
theorem dX5_clause_50 : decode cX5_clause 50 = .ok (.iconst 0, 1) := by decide +kernel
theorem dX5_clause_51 : decode cX5_clause 51 = .ok (.invokevirtual 55, 3) := by decide +kernel
theorem dX5_clause_54 : decode cX5_clause 54 = .ok (.ifCond .ne 5, 3) := by decide +kernel
theorem dX5_clause_57 : decode cX5_clause 57 = .ok (.iconst 0, 1) := by decide +kernel
theorem dX5_clause_58 : decode cX5_clause 58 = .ok (.ireturn, 1) := by decide +kernel
theorem dX5_clause_59 : decode cX5_clause 59 = .ok (.aload_n 0, 1) := by decide +kernel
theorem dX5_clause_60 : decode cX5_clause 60 = .ok (.getfield 34, 3) := by decide +kernel
theorem dX5_clause_63 : decode cX5_clause 63 = .ok (.bipush 10, 2) := by decide +kernel
theorem dX5_clause_65 : decode cX5_clause 65 = .ok (.if_icmp .lt 5, 3) := by decide +kernel
theorem dX5_clause_68 : decode cX5_clause 68 = .ok (.iconst 0, 1) := by decide +kernel
theorem dX5_clause_69 : decode cX5_clause 69 = .ok (.ireturn, 1) := by decide +kernel
theorem dX5_clause_70 : decode cX5_clause 70 = .ok (.aload_n 0, 1) := by decide +kernel
theorem dX5_clause_71 : decode cX5_clause 71 = .ok (.getfield 18, 3) := by decide +kernel
theorem dX5_clause_74 : decode cX5_clause 74 = .ok (.aload_n 0, 1) := by decide +kernel
theorem dX5_clause_75 : decode cX5_clause 75 = .ok (.getfield 34, 3) := by decide +kernel
theorem dX5_clause_78 : decode cX5_clause 78 = .ok (.iload_n 1, 1) := by decide +kernel
theorem dX5_clause_79 : decode cX5_clause 79 = .ok (.iastore, 1) := by decide +kernel
theorem dX5_clause_80 : decode cX5_clause 80 = .ok (.aload_n 0, 1) := by decide +kernel
theorem dX5_clause_81 : decode cX5_clause 81 = .ok (.getfield 21, 3) := by decide +kernel
theorem dX5_clause_84 : decode cX5_clause 84 = .ok (.aload_n 0, 1) := by decide +kernel
theorem dX5_clause_85 : decode cX5_clause 85 = .ok (.getfield 34, 3) := by decide +kernel
theorem dX5_clause_88 : decode cX5_clause 88 = .ok (.iload_n 2, 1) := by decide +kernel
theorem dX5_clause_89 : decode cX5_clause 89 = .ok (.iastore, 1) := by decide +kernel
theorem dX5_clause_90 : decode cX5_clause 90 = .ok (.aload_n 0, 1) := by decide +kernel
theorem dX5_clause_91 : decode cX5_clause 91 = .ok (.getfield 24, 3) := by decide +kernel
theorem dX5_clause_94 : decode cX5_clause 94 = .ok (.aload_n 0, 1) := by decide +kernel
theorem dX5_clause_95 : decode cX5_clause 95 = .ok (.dup, 1) := by decide +kernel
theorem dX5_clause_96 : decode cX5_clause 96 = .ok (.getfield 34, 3) := by decide +kernel
theorem dX5_clause_99 : decode cX5_clause 99 = .ok (.dup_x1, 1) := by decide +kernel
theorem dX5_clause_100 : decode cX5_clause 100 = .ok (.iconst 1, 1) := by decide +kernel
theorem dX5_clause_101 : decode cX5_clause 101 = .ok (.iadd, 1) := by decide +kernel
theorem dX5_clause_102 : decode cX5_clause 102 = .ok (.putfield 34, 3) := by decide +kernel
theorem dX5_clause_105 : decode cX5_clause 105 = .ok (.aload_n 0, 1) := by decide +kernel
theorem dX5_clause_106 : decode cX5_clause 106 = .ok (.getfield 31, 3) := by decide +kernel
theorem dX5_clause_109 : decode cX5_clause 109 = .ok (.iastore, 1) := by decide +kernel
theorem dX5_clause_110 : decode cX5_clause 110 = .ok (.iconst 1, 1) := by decide +kernel
theorem dX5_clause_111 : decode cX5_clause 111 = .ok (.ireturn, 1) := by decide +kernel
theorem dX5_word_0 : decode cX5_word 0 = .ok (.iconst 0, 1) := by decide +kernel
theorem dX5_word_1 : decode cX5_word 1 = .ok (.istore_n 1, 1) := by decide +kernel
theorem dX5_word_2 : decode cX5_word 2 = .ok (.iload_n 1, 1) := by decide +kernel
theorem dX5_word_3 : decode cX5_word 3 = .ok (.iconst 3, 1) := by decide +kernel
theorem dX5_word_4 : decode cX5_word 4 = .ok (.if_icmp .gt 91, 3) := by decide +kernel
theorem dX5_word_7 : decode cX5_word 7 = .ok (.aload_n 0, 1) := by decide +kernel
theorem dX5_word_8 : decode cX5_word 8 = .ok (.ldc 58, 2) := by decide +kernel
theorem dX5_word_10 : decode cX5_word 10 = .ok (.iconst 4, 1) := by decide +kernel
theorem dX5_word_11 : decode cX5_word 11 = .ok (.iload_n 1, 1) := by decide +kernel
theorem dX5_word_12 : decode cX5_word 12 = .ok (.imul, 1) := by decide +kernel
theorem dX5_word_13 : decode cX5_word 13 = .ok (.invokevirtual 60, 3) := by decide +kernel
theorem dX5_word_16 : decode cX5_word 16 = .ok (.invokevirtual 41, 3) := by decide +kernel
theorem dX5_word_19 : decode cX5_word 19 = .ok (.ifCond .eq 70, 3) := by decide +kernel
theorem dX5_word_22 : decode cX5_word 22 = .ok (.aload_n 0, 1) := by decide +kernel
theorem dX5_word_23 : decode cX5_word 23 = .ok (.ldc 58, 2) := by decide +kernel
theorem dX5_word_25 : decode cX5_word 25 = .ok (.iconst 4, 1) := by decide +kernel
theorem dX5_word_26 : decode cX5_word 26 = .ok (.iload_n 1, 1) := by decide +kernel
theorem dX5_word_27 : decode cX5_word 27 = .ok (.imul, 1) := by decide +kernel
theorem dX5_word_28 : decode cX5_word 28 = .ok (.iconst 1, 1) := by decide +kernel
theorem dX5_word_29 : decode cX5_word 29 = .ok (.iadd, 1) := by decide +kernel
theorem dX5_word_30 : decode cX5_word 30 = .ok (.invokevirtual 60, 3) := by decide +kernel
theorem dX5_word_33 : decode cX5_word 33 = .ok (.invokevirtual 41, 3) := by decide +kernel
theorem dX5_word_36 : decode cX5_word 36 = .ok (.ifCond .eq 41, 3) := by decide +kernel
theorem dX5_word_39 : decode cX5_word 39 = .ok (.aload_n 0, 1) := by decide +kernel
theorem dX5_word_40 : decode cX5_word 40 = .ok (.ldc 58, 2) := by decide +kernel
theorem dX5_word_42 : decode cX5_word 42 = .ok (.iconst 4, 1) := by decide +kernel
theorem dX5_word_43 : decode cX5_word 43 = .ok (.iload_n 1, 1) := by decide +kernel
theorem dX5_word_44 : decode cX5_word 44 = .ok (.imul, 1) := by decide +kernel
theorem dX5_word_45 : decode cX5_word 45 = .ok (.iconst 2, 1) := by decide +kernel
theorem dX5_word_46 : decode cX5_word 46 = .ok (.iadd, 1) := by decide +kernel
theorem dX5_word_47 : decode cX5_word 47 = .ok (.invokevirtual 60, 3) := by decide +kernel
theorem dX5_word_50 : decode cX5_word 50 = .ok (.invokevirtual 41, 3) := by decide +kernel
theorem dX5_word_53 : decode cX5_word 53 = .ok (.ifCond .eq 24, 3) := by decide +kernel
theorem dX5_word_56 : decode cX5_word 56 = .ok (.aload_n 0, 1) := by decide +kernel
theorem dX5_word_57 : decode cX5_word 57 = .ok (.ldc 58, 2) := by decide +kernel
theorem dX5_word_59 : decode cX5_word 59 = .ok (.iconst 4, 1) := by decide +kernel
theorem dX5_word_60 : decode cX5_word 60 = .ok (.iload_n 1, 1) := by decide +kernel
theorem dX5_word_61 : decode cX5_word 61 = .ok (.imul, 1) := by decide +kernel
theorem dX5_word_62 : decode cX5_word 62 = .ok (.iconst 3, 1) := by decide +kernel
theorem dX5_word_63 : decode cX5_word 63 = .ok (.iadd, 1) := by decide +kernel
theorem dX5_word_64 : decode cX5_word 64 = .ok (.invokevirtual 60, 3) := by decide +kernel
theorem dX5_word_67 : decode cX5_word 67 = .ok (.invokevirtual 41, 3) := by decide +kernel
theorem dX5_word_70 : decode cX5_word 70 = .ok (.ifCond .eq 7, 3) := by decide +kernel
theorem dX5_word_73 : decode cX5_word 73 = .ok (.iconst 1, 1) := by decide +kernel
theorem dX5_word_74 : decode cX5_word 74 = .ok (.goto 4, 3) := by decide +kernel
theorem dX5_word_77 : decode cX5_word 77 = .ok (.iconst 0, 1) := by decide +kernel
theorem dX5_word_78 : decode cX5_word 78 = .ok (.istore_n 2, 1) := by decide +kernel
theorem dX5_word_79 : decode cX5_word 79 = .ok (.iload_n 2, 1) := by decide +kernel
theorem dX5_word_80 : decode cX5_word 80 = .ok (.ifCond .eq 7, 3) := by decide +kernel
theorem dX5_word_83 : decode cX5_word 83 = .ok (.iload_n 1, 1) := by decide +kernel
theorem dX5_word_84 : decode cX5_word 84 = .ok (.goto 4, 3) := by decide +kernel
theorem dX5_word_87 : decode cX5_word 87 = .ok (.iconst (-1), 1) := by decide +kernel
theorem dX5_word_88 : decode cX5_word 88 = .ok (.ireturn, 1) := by decide +kernel
theorem dX5_word_89 : decode cX5_word 89 = .ok (.iinc 1 1, 3) := by decide +kernel
theorem dX5_word_92 : decode cX5_word 92 = .ok (.goto (-90), 3) := by decide +kernel
theorem dX5_word_95 : decode cX5_word 95 = .ok (.iconst (-1), 1) := by decide +kernel
theorem dX5_word_96 : decode cX5_word 96 = .ok (.ireturn, 1) := by decide +kernel
theorem dX5_number_0 : decode cX5_number 0 = .ok (.aload_n 0, 1) := by decide +kernel
theorem dX5_number_1 : decode cX5_number 1 = .ok (.ldc 66, 2) := by decide +kernel
theorem dX5_number_3 : decode cX5_number 3 = .ok (.invokevirtual 68, 3) := by decide +kernel
theorem dX5_number_6 : decode cX5_number 6 = .ok (.istore_n 1, 1) := by decide +kernel
theorem dX5_number_7 : decode cX5_number 7 = .ok (.iload_n 1, 1) := by decide +kernel
theorem dX5_number_8 : decode cX5_number 8 = .ok (.ifCond .ge 5, 3) := by decide +kernel
theorem dX5_number_11 : decode cX5_number 11 = .ok (.iconst (-1), 1) := by decide +kernel
theorem dX5_number_12 : decode cX5_number 12 = .ok (.ireturn, 1) := by decide +kernel
theorem dX5_number_13 : decode cX5_number 13 = .ok (.aload_n 0, 1) := by decide +kernel
theorem dX5_number_14 : decode cX5_number 14 = .ok (.ldc 66, 2) := by decide +kernel
theorem dX5_number_16 : decode cX5_number 16 = .ok (.invokevirtual 68, 3) := by decide +kernel
theorem dX5_number_19 : decode cX5_number 19 = .ok (.istore_n 2, 1) := by decide +kernel
theorem dX5_number_20 : decode cX5_number 20 = .ok (.iload_n 2, 1) := by decide +kernel
theorem dX5_number_21 : decode cX5_number 21 = .ok (.ifCond .ge 7, 3) := by decide +kernel
theorem dX5_number_24 : decode cX5_number 24 = .ok (.iload_n 1, 1) := by decide +kernel
theorem dX5_number_25 : decode cX5_number 25 = .ok (.goto 9, 3) := by decide +kernel
theorem dX5_number_28 : decode cX5_number 28 = .ok (.bipush 10, 2) := by decide +kernel
theorem dX5_number_30 : decode cX5_number 30 = .ok (.iload_n 1, 1) := by decide +kernel
theorem dX5_number_31 : decode cX5_number 31 = .ok (.imul, 1) := by decide +kernel
theorem dX5_number_32 : decode cX5_number 32 = .ok (.iload_n 2, 1) := by decide +kernel
theorem dX5_number_33 : decode cX5_number 33 = .ok (.iadd, 1) := by decide +kernel
theorem dX5_number_34 : decode cX5_number 34 = .ok (.ireturn, 1) := by decide +kernel
theorem dX5_either_0 : decode cX5_either 0 = .ok (.aload_n 0, 1) := by decide +kernel
theorem dX5_either_1 : decode cX5_either 1 = .ok (.iload_n 1, 1) := by decide +kernel
theorem dX5_either_2 : decode cX5_either 2 = .ok (.invokevirtual 72, 3) := by decide +kernel
theorem dX5_either_5 : decode cX5_either 5 = .ok (.istore_n 2, 1) := by decide +kernel
theorem dX5_either_6 : decode cX5_either 6 = .ok (.iconst 0, 1) := by decide +kernel
theorem dX5_either_7 : decode cX5_either 7 = .ok (.istore_n 3, 1) := by decide +kernel
theorem dX5_either_8 : decode cX5_either 8 = .ok (.iload_n 3, 1) := by decide +kernel
theorem dX5_either_9 : decode cX5_either 9 = .ok (.bipush 100, 2) := by decide +kernel
theorem dX5_either_11 : decode cX5_either 11 = .ok (.if_icmp .ge 44, 3) := by decide +kernel
theorem dX5_either_14 : decode cX5_either 14 = .ok (.iload_n 2, 1) := by decide +kernel
theorem dX5_either_15 : decode cX5_either 15 = .ok (.ifCond .eq 40, 3) := by decide +kernel
theorem dX5_either_18 : decode cX5_either 18 = .ok (.aload_n 0, 1) := by decide +kernel
theorem dX5_either_19 : decode cX5_either 19 = .ok (.bipush 124, 2) := by decide +kernel
theorem dX5_either_21 : decode cX5_either 21 = .ok (.invokevirtual 41, 3) := by decide +kernel
theorem dX5_either_24 : decode cX5_either 24 = .ok (.ifCond .eq 31, 3) := by decide +kernel
theorem dX5_either_27 : decode cX5_either 27 = .ok (.aload_n 0, 1) := by decide +kernel
theorem dX5_either_28 : decode cX5_either 28 = .ok (.iload_n 1, 1) := by decide +kernel
theorem dX5_either_29 : decode cX5_either 29 = .ok (.invokevirtual 72, 3) := by decide +kernel
theorem dX5_either_32 : decode cX5_either 32 = .ok (.ifCond .eq 15, 3) := by decide +kernel
theorem dX5_either_35 : decode cX5_either 35 = .ok (.aload_n 0, 1) := by decide +kernel
theorem dX5_either_36 : decode cX5_either 36 = .ok (.iconst 3, 1) := by decide +kernel
theorem dX5_either_37 : decode cX5_either 37 = .ok (.invokevirtual 75, 3) := by decide +kernel
theorem dX5_either_40 : decode cX5_either 40 = .ok (.ifCond .eq 7, 3) := by decide +kernel
theorem dX5_either_43 : decode cX5_either 43 = .ok (.iconst 1, 1) := by decide +kernel
theorem dX5_either_44 : decode cX5_either 44 = .ok (.goto 4, 3) := by decide +kernel
theorem dX5_either_47 : decode cX5_either 47 = .ok (.iconst 0, 1) := by decide +kernel
theorem dX5_either_48 : decode cX5_either 48 = .ok (.istore_n 2, 1) := by decide +kernel
theorem dX5_either_49 : decode cX5_either 49 = .ok (.iinc 3 1, 3) := by decide +kernel
theorem dX5_either_52 : decode cX5_either 52 = .ok (.goto (-44), 3) := by decide +kernel
theorem dX5_either_55 : decode cX5_either 55 = .ok (.iload_n 2, 1) := by decide +kernel
theorem dX5_either_56 : decode cX5_either 56 = .ok (.ireturn, 1) := by decide +kernel
theorem dX5_every_0 : decode cX5_every 0 = .ok (.aload_n 0, 1) := by decide +kernel
theorem dX5_every_1 : decode cX5_every 1 = .ok (.iload_n 1, 1) := by decide +kernel
theorem dX5_every_2 : decode cX5_every 2 = .ok (.invokevirtual 78, 3) := by decide +kernel
theorem dX5_every_5 : decode cX5_every 5 = .ok (.istore_n 2, 1) := by decide +kernel
theorem dX5_every_6 : decode cX5_every 6 = .ok (.iconst 0, 1) := by decide +kernel
theorem dX5_every_7 : decode cX5_every 7 = .ok (.istore_n 3, 1) := by decide +kernel
theorem dX5_every_8 : decode cX5_every 8 = .ok (.iload_n 3, 1) := by decide +kernel
theorem dX5_every_9 : decode cX5_every 9 = .ok (.bipush 100, 2) := by decide +kernel
theorem dX5_every_11 : decode cX5_every 11 = .ok (.if_icmp .ge 44, 3) := by decide +kernel
theorem dX5_every_14 : decode cX5_every 14 = .ok (.iload_n 2, 1) := by decide +kernel
theorem dX5_every_15 : decode cX5_every 15 = .ok (.ifCond .eq 40, 3) := by decide +kernel
theorem dX5_every_18 : decode cX5_every 18 = .ok (.aload_n 0, 1) := by decide +kernel
theorem dX5_every_19 : decode cX5_every 19 = .ok (.bipush 38, 2) := by decide +kernel
theorem dX5_every_21 : decode cX5_every 21 = .ok (.invokevirtual 41, 3) := by decide +kernel
theorem dX5_every_24 : decode cX5_every 24 = .ok (.ifCond .eq 31, 3) := by decide +kernel
theorem dX5_every_27 : decode cX5_every 27 = .ok (.aload_n 0, 1) := by decide +kernel
theorem dX5_every_28 : decode cX5_every 28 = .ok (.iload_n 1, 1) := by decide +kernel
theorem dX5_every_29 : decode cX5_every 29 = .ok (.invokevirtual 78, 3) := by decide +kernel
theorem dX5_every_32 : decode cX5_every 32 = .ok (.ifCond .eq 15, 3) := by decide +kernel
theorem dX5_every_35 : decode cX5_every 35 = .ok (.aload_n 0, 1) := by decide +kernel
theorem dX5_every_36 : decode cX5_every 36 = .ok (.iconst 2, 1) := by decide +kernel
theorem dX5_every_37 : decode cX5_every 37 = .ok (.invokevirtual 75, 3) := by decide +kernel
theorem dX5_every_40 : decode cX5_every 40 = .ok (.ifCond .eq 7, 3) := by decide +kernel
theorem dX5_every_43 : decode cX5_every 43 = .ok (.iconst 1, 1) := by decide +kernel
theorem dX5_every_44 : decode cX5_every 44 = .ok (.goto 4, 3) := by decide +kernel
theorem dX5_every_47 : decode cX5_every 47 = .ok (.iconst 0, 1) := by decide +kernel
theorem dX5_every_48 : decode cX5_every 48 = .ok (.istore_n 2, 1) := by decide +kernel
theorem dX5_every_49 : decode cX5_every 49 = .ok (.iinc 3 1, 3) := by decide +kernel
theorem dX5_every_52 : decode cX5_every 52 = .ok (.goto (-44), 3) := by decide +kernel
theorem dX5_every_55 : decode cX5_every 55 = .ok (.iload_n 2, 1) := by decide +kernel
theorem dX5_every_56 : decode cX5_every 56 = .ok (.ireturn, 1) := by decide +kernel
theorem dX5_factor_0 : decode cX5_factor 0 = .ok (.iload_n 1, 1) := by decide +kernel
theorem dX5_factor_1 : decode cX5_factor 1 = .ok (.iconst 4, 1) := by decide +kernel
theorem dX5_factor_2 : decode cX5_factor 2 = .ok (.if_icmp .ge 36, 3) := by decide +kernel
theorem dX5_factor_5 : decode cX5_factor 5 = .ok (.aload_n 0, 1) := by decide +kernel
theorem dX5_factor_6 : decode cX5_factor 6 = .ok (.bipush 33, 2) := by decide +kernel
theorem dX5_factor_8 : decode cX5_factor 8 = .ok (.invokevirtual 41, 3) := by decide +kernel
theorem dX5_factor_11 : decode cX5_factor 11 = .ok (.ifCond .eq 27, 3) := by decide +kernel
theorem dX5_factor_14 : decode cX5_factor 14 = .ok (.aload_n 0, 1) := by decide +kernel
theorem dX5_factor_15 : decode cX5_factor 15 = .ok (.iload_n 1, 1) := by decide +kernel
theorem dX5_factor_16 : decode cX5_factor 16 = .ok (.iconst 1, 1) := by decide +kernel
theorem dX5_factor_17 : decode cX5_factor 17 = .ok (.iadd, 1) := by decide +kernel
theorem dX5_factor_18 : decode cX5_factor 18 = .ok (.invokevirtual 78, 3) := by decide +kernel
theorem dX5_factor_21 : decode cX5_factor 21 = .ok (.ifCond .eq 15, 3) := by decide +kernel
theorem dX5_factor_24 : decode cX5_factor 24 = .ok (.aload_n 0, 1) := by decide +kernel
theorem dX5_factor_25 : decode cX5_factor 25 = .ok (.iconst 1, 1) := by decide +kernel
theorem dX5_factor_26 : decode cX5_factor 26 = .ok (.invokevirtual 75, 3) := by decide +kernel
theorem dX5_factor_29 : decode cX5_factor 29 = .ok (.ifCond .eq 7, 3) := by decide +kernel
theorem dX5_factor_32 : decode cX5_factor 32 = .ok (.iconst 1, 1) := by decide +kernel
theorem dX5_factor_33 : decode cX5_factor 33 = .ok (.goto 4, 3) := by decide +kernel
theorem dX5_factor_36 : decode cX5_factor 36 = .ok (.iconst 0, 1) := by decide +kernel
theorem dX5_factor_37 : decode cX5_factor 37 = .ok (.ireturn, 1) := by decide +kernel
theorem dX5_factor_38 : decode cX5_factor 38 = .ok (.iload_n 1, 1) := by decide +kernel
theorem dX5_factor_39 : decode cX5_factor 39 = .ok (.iconst 4, 1) := by decide +kernel
theorem dX5_factor_40 : decode cX5_factor 40 = .ok (.if_icmp .ge 37, 3) := by decide +kernel
theorem dX5_factor_43 : decode cX5_factor 43 = .ok (.aload_n 0, 1) := by decide +kernel
theorem dX5_factor_44 : decode cX5_factor 44 = .ok (.bipush 40, 2) := by decide +kernel
theorem dX5_factor_46 : decode cX5_factor 46 = .ok (.invokevirtual 41, 3) := by decide +kernel
theorem dX5_factor_49 : decode cX5_factor 49 = .ok (.ifCond .eq 28, 3) := by decide +kernel
theorem dX5_factor_52 : decode cX5_factor 52 = .ok (.aload_n 0, 1) := by decide +kernel
theorem dX5_factor_53 : decode cX5_factor 53 = .ok (.iload_n 1, 1) := by decide +kernel
theorem dX5_factor_54 : decode cX5_factor 54 = .ok (.iconst 1, 1) := by decide +kernel
theorem dX5_factor_55 : decode cX5_factor 55 = .ok (.iadd, 1) := by decide +kernel
theorem dX5_factor_56 : decode cX5_factor 56 = .ok (.invokevirtual 55, 3) := by decide +kernel
theorem dX5_factor_59 : decode cX5_factor 59 = .ok (.ifCond .eq 16, 3) := by decide +kernel
theorem dX5_factor_62 : decode cX5_factor 62 = .ok (.aload_n 0, 1) := by decide +kernel
theorem dX5_factor_63 : decode cX5_factor 63 = .ok (.bipush 41, 2) := by decide +kernel
theorem dX5_factor_65 : decode cX5_factor 65 = .ok (.invokevirtual 41, 3) := by decide +kernel
theorem dX5_factor_68 : decode cX5_factor 68 = .ok (.ifCond .eq 7, 3) := by decide +kernel
theorem dX5_factor_71 : decode cX5_factor 71 = .ok (.iconst 1, 1) := by decide +kernel
theorem dX5_factor_72 : decode cX5_factor 72 = .ok (.goto 4, 3) := by decide +kernel
theorem dX5_factor_75 : decode cX5_factor 75 = .ok (.iconst 0, 1) := by decide +kernel
theorem dX5_factor_76 : decode cX5_factor 76 = .ok (.ireturn, 1) := by decide +kernel
theorem dX5_factor_77 : decode cX5_factor 77 = .ok (.aload_n 0, 1) := by decide +kernel
theorem dX5_factor_78 : decode cX5_factor 78 = .ok (.ldc 81, 2) := by decide +kernel
theorem dX5_factor_80 : decode cX5_factor 80 = .ok (.invokevirtual 68, 3) := by decide +kernel
theorem dX5_factor_83 : decode cX5_factor 83 = .ok (.istore_n 2, 1) := by decide +kernel
theorem dX5_factor_84 : decode cX5_factor 84 = .ok (.iload_n 2, 1) := by decide +kernel
theorem dX5_factor_85 : decode cX5_factor 85 = .ok (.ifCond .ge 7, 3) := by decide +kernel
theorem dX5_factor_88 : decode cX5_factor 88 = .ok (.iconst (-1), 1) := by decide +kernel
theorem dX5_factor_89 : decode cX5_factor 89 = .ok (.goto 9, 3) := by decide +kernel
theorem dX5_factor_92 : decode cX5_factor 92 = .ok (.aload_n 0, 1) := by decide +kernel
theorem dX5_factor_93 : decode cX5_factor 93 = .ok (.ldc 83, 2) := by decide +kernel
theorem dX5_factor_95 : decode cX5_factor 95 = .ok (.invokevirtual 68, 3) := by decide +kernel
theorem dX5_factor_98 : decode cX5_factor 98 = .ok (.istore_n 3, 1) := by decide +kernel
theorem dX5_factor_99 : decode cX5_factor 99 = .ok (.iload_n 3, 1) := by decide +kernel
theorem dX5_factor_100 : decode cX5_factor 100 = .ok (.ifCond .ge 7, 3) := by decide +kernel
theorem dX5_factor_103 : decode cX5_factor 103 = .ok (.iconst (-1), 1) := by decide +kernel
theorem dX5_factor_104 : decode cX5_factor 104 = .ok (.goto 7, 3) := by decide +kernel
theorem dX5_factor_107 : decode cX5_factor 107 = .ok (.aload_n 0, 1) := by decide +kernel
theorem dX5_factor_108 : decode cX5_factor 108 = .ok (.invokevirtual 52, 3) := by decide +kernel
theorem dX5_factor_111 : decode cX5_factor 111 = .ok (.istore 4, 2) := by decide +kernel
theorem dX5_factor_113 : decode cX5_factor 113 = .ok (.iload 4, 2) := by decide +kernel
theorem dX5_factor_115 : decode cX5_factor 115 = .ok (.ifCond .lt 29, 3) := by decide +kernel
theorem dX5_factor_118 : decode cX5_factor 118 = .ok (.aload_n 0, 1) := by decide +kernel
theorem dX5_factor_119 : decode cX5_factor 119 = .ok (.iconst 0, 1) := by decide +kernel
theorem dX5_factor_120 : decode cX5_factor 120 = .ok (.iload_n 2, 1) := by decide +kernel
theorem dX5_factor_121 : decode cX5_factor 121 = .ok (.iconst 2, 1) := by decide +kernel
theorem dX5_factor_122 : decode cX5_factor 122 = .ok (.ishl, 1) := by decide +kernel
theorem dX5_factor_123 : decode cX5_factor 123 = .ok (.ior, 1) := by decide +kernel
theorem dX5_factor_124 : decode cX5_factor 124 = .ok (.iload_n 3, 1) := by decide +kernel
theorem dX5_factor_125 : decode cX5_factor 125 = .ok (.iconst 5, 1) := by decide +kernel
theorem dX5_factor_126 : decode cX5_factor 126 = .ok (.ishl, 1) := by decide +kernel
theorem dX5_factor_127 : decode cX5_factor 127 = .ok (.ior, 1) := by decide +kernel
theorem dX5_factor_128 : decode cX5_factor 128 = .ok (.iload 4, 2) := by decide +kernel
theorem dX5_factor_130 : decode cX5_factor 130 = .ok (.bipush 7, 2) := by decide +kernel
theorem dX5_factor_132 : decode cX5_factor 132 = .ok (.ishl, 1) := by decide +kernel
theorem dX5_factor_133 : decode cX5_factor 133 = .ok (.ior, 1) := by decide +kernel
theorem dX5_factor_134 : decode cX5_factor 134 = .ok (.invokevirtual 75, 3) := by decide +kernel
theorem dX5_factor_137 : decode cX5_factor 137 = .ok (.ifCond .eq 7, 3) := by decide +kernel
theorem dX5_factor_140 : decode cX5_factor 140 = .ok (.iconst 1, 1) := by decide +kernel
theorem dX5_factor_141 : decode cX5_factor 141 = .ok (.goto 4, 3) := by decide +kernel
theorem dX5_factor_144 : decode cX5_factor 144 = .ok (.iconst 0, 1) := by decide +kernel
theorem dX5_factor_145 : decode cX5_factor 145 = .ok (.ireturn, 1) := by decide +kernel
theorem dX5_oneOf_0 : decode cX5_oneOf 0 = .ok (.aload_n 0, 1) := by decide +kernel
theorem dX5_oneOf_1 : decode cX5_oneOf 1 = .ok (.getfield 27, 3) := by decide +kernel
theorem dX5_oneOf_4 : decode cX5_oneOf 4 = .ok (.aload_n 0, 1) := by decide +kernel
theorem dX5_oneOf_5 : decode cX5_oneOf 5 = .ok (.getfield 45, 3) := by decide +kernel
theorem dX5_oneOf_8 : decode cX5_oneOf 8 = .ok (.if_icmp .ge 12, 3) := by decide +kernel
theorem dX5_oneOf_11 : decode cX5_oneOf 11 = .ok (.aload_n 0, 1) := by decide +kernel
theorem dX5_oneOf_12 : decode cX5_oneOf 12 = .ok (.getfield 27, 3) := by decide +kernel
theorem dX5_oneOf_15 : decode cX5_oneOf 15 = .ok (.bipush 100, 2) := by decide +kernel
theorem dX5_oneOf_17 : decode cX5_oneOf 17 = .ok (.if_icmp .lt 5, 3) := by decide +kernel
theorem dX5_oneOf_20 : decode cX5_oneOf 20 = .ok (.iconst (-1), 1) := by decide +kernel
theorem dX5_oneOf_21 : decode cX5_oneOf 21 = .ok (.ireturn, 1) := by decide +kernel
theorem dX5_oneOf_22 : decode cX5_oneOf 22 = .ok (.aload_n 1, 1) := by decide +kernel
theorem dX5_oneOf_23 : decode cX5_oneOf 23 = .ok (.aload_n 0, 1) := by decide +kernel
theorem dX5_oneOf_24 : decode cX5_oneOf 24 = .ok (.getfield 9, 3) := by decide +kernel
theorem dX5_oneOf_27 : decode cX5_oneOf 27 = .ok (.aload_n 0, 1) := by decide +kernel
theorem dX5_oneOf_28 : decode cX5_oneOf 28 = .ok (.getfield 27, 3) := by decide +kernel
theorem dX5_oneOf_31 : decode cX5_oneOf 31 = .ok (.iaload, 1) := by decide +kernel
theorem dX5_oneOf_32 : decode cX5_oneOf 32 = .ok (.i2c, 1) := by decide +kernel
theorem dX5_oneOf_33 : decode cX5_oneOf 33 = .ok (.invokevirtual 85, 3) := by decide +kernel
theorem dX5_oneOf_36 : decode cX5_oneOf 36 = .ok (.istore_n 2, 1) := by decide +kernel
theorem dX5_oneOf_37 : decode cX5_oneOf 37 = .ok (.iload_n 2, 1) := by decide +kernel
theorem dX5_oneOf_38 : decode cX5_oneOf 38 = .ok (.ifCond .lt 13, 3) := by decide +kernel
theorem dX5_oneOf_41 : decode cX5_oneOf 41 = .ok (.aload_n 0, 1) := by decide +kernel
theorem dX5_oneOf_42 : decode cX5_oneOf 42 = .ok (.dup, 1) := by decide +kernel
theorem dX5_oneOf_43 : decode cX5_oneOf 43 = .ok (.getfield 27, 3) := by decide +kernel
theorem dX5_oneOf_46 : decode cX5_oneOf 46 = .ok (.iconst 1, 1) := by decide +kernel
theorem dX5_oneOf_47 : decode cX5_oneOf 47 = .ok (.iadd, 1) := by decide +kernel
theorem dX5_oneOf_48 : decode cX5_oneOf 48 = .ok (.putfield 27, 3) := by decide +kernel
theorem dX5_oneOf_51 : decode cX5_oneOf 51 = .ok (.iload_n 2, 1) := by decide +kernel
theorem dX5_oneOf_52 : decode cX5_oneOf 52 = .ok (.ireturn, 1) := by decide +kernel
theorem dX5_puts_0 : decode cX5_puts 0 = .ok (.aload_n 0, 1) := by decide +kernel
theorem dX5_puts_1 : decode cX5_puts 1 = .ok (.getfield 31, 3) := by decide +kernel
theorem dX5_puts_4 : decode cX5_puts 4 = .ok (.bipush 100, 2) := by decide +kernel
theorem dX5_puts_6 : decode cX5_puts 6 = .ok (.if_icmp .lt 5, 3) := by decide +kernel
theorem dX5_puts_9 : decode cX5_puts 9 = .ok (.iconst 0, 1) := by decide +kernel
theorem dX5_puts_10 : decode cX5_puts 10 = .ok (.ireturn, 1) := by decide +kernel
theorem dX5_puts_11 : decode cX5_puts 11 = .ok (.aload_n 0, 1) := by decide +kernel
theorem dX5_puts_12 : decode cX5_puts 12 = .ok (.getfield 15, 3) := by decide +kernel
theorem dX5_puts_15 : decode cX5_puts 15 = .ok (.aload_n 0, 1) := by decide +kernel
theorem dX5_puts_16 : decode cX5_puts 16 = .ok (.dup, 1) := by decide +kernel
theorem dX5_puts_17 : decode cX5_puts 17 = .ok (.getfield 31, 3) := by decide +kernel
theorem dX5_puts_20 : decode cX5_puts 20 = .ok (.dup_x1, 1) := by decide +kernel
theorem dX5_puts_21 : decode cX5_puts 21 = .ok (.iconst 1, 1) := by decide +kernel
theorem dX5_puts_22 : decode cX5_puts 22 = .ok (.iadd, 1) := by decide +kernel
theorem dX5_puts_23 : decode cX5_puts 23 = .ok (.putfield 31, 3) := by decide +kernel
theorem dX5_puts_26 : decode cX5_puts 26 = .ok (.iload_n 1, 1) := by decide +kernel
theorem dX5_puts_27 : decode cX5_puts 27 = .ok (.iastore, 1) := by decide +kernel
theorem dX5_puts_28 : decode cX5_puts 28 = .ok (.iconst 1, 1) := by decide +kernel
theorem dX5_puts_29 : decode cX5_puts 29 = .ok (.ireturn, 1) := by decide +kernel
