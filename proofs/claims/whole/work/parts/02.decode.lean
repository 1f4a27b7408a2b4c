theorem dJ9_abs_0f7a4_0 : decode cJ9_abs_0f7a4 0 = .ok (.iload_n 0, 1) := by decide +kernel
theorem dJ9_abs_0f7a4_1 : decode cJ9_abs_0f7a4 1 = .ok (.ifCond .ge 8, 3) := by decide +kernel
theorem dJ9_abs_0f7a4_4 : decode cJ9_abs_0f7a4 4 = .ok (.iload_n 0, 1) := by decide +kernel
theorem dJ9_abs_0f7a4_5 : decode cJ9_abs_0f7a4 5 = .ok (.ineg, 1) := by decide +kernel
theorem dJ9_abs_0f7a4_6 : decode cJ9_abs_0f7a4 6 = .ok (.goto 4, 3) := by decide +kernel
theorem dJ9_abs_0f7a4_9 : decode cJ9_abs_0f7a4 9 = .ok (.iload_n 0, 1) := by decide +kernel
theorem dJ9_abs_0f7a4_10 : decode cJ9_abs_0f7a4 10 = .ok (.ireturn, 1) := by decide +kernel
theorem dJ9_abs_067f4_0 : decode cJ9_abs_067f4 0 = .ok (.lload_n 0, 1) := by decide +kernel
theorem dJ9_abs_067f4_1 : decode cJ9_abs_067f4 1 = .ok (.lconst 0, 1) := by decide +kernel
theorem dJ9_abs_067f4_2 : decode cJ9_abs_067f4 2 = .ok (.lcmp, 1) := by decide +kernel
theorem dJ9_abs_067f4_3 : decode cJ9_abs_067f4 3 = .ok (.ifCond .ge 8, 3) := by decide +kernel
theorem dJ9_abs_067f4_6 : decode cJ9_abs_067f4 6 = .ok (.lload_n 0, 1) := by decide +kernel
theorem dJ9_abs_067f4_7 : decode cJ9_abs_067f4 7 = .ok (.lneg, 1) := by decide +kernel
theorem dJ9_abs_067f4_8 : decode cJ9_abs_067f4 8 = .ok (.goto 4, 3) := by decide +kernel
theorem dJ9_abs_067f4_11 : decode cJ9_abs_067f4 11 = .ok (.lload_n 0, 1) := by decide +kernel
theorem dJ9_abs_067f4_12 : decode cJ9_abs_067f4 12 = .ok (.lreturn, 1) := by decide +kernel
theorem dJ9_max_7cf53_0 : decode cJ9_max_7cf53 0 = .ok (.iload_n 0, 1) := by decide +kernel
theorem dJ9_max_7cf53_1 : decode cJ9_max_7cf53 1 = .ok (.iload_n 1, 1) := by decide +kernel
theorem dJ9_max_7cf53_2 : decode cJ9_max_7cf53 2 = .ok (.if_icmp .lt 7, 3) := by decide +kernel
theorem dJ9_max_7cf53_5 : decode cJ9_max_7cf53 5 = .ok (.iload_n 0, 1) := by decide +kernel
theorem dJ9_max_7cf53_6 : decode cJ9_max_7cf53 6 = .ok (.goto 4, 3) := by decide +kernel
theorem dJ9_max_7cf53_9 : decode cJ9_max_7cf53 9 = .ok (.iload_n 1, 1) := by decide +kernel
theorem dJ9_max_7cf53_10 : decode cJ9_max_7cf53 10 = .ok (.ireturn, 1) := by decide +kernel
theorem dJ9_min_7cf53_0 : decode cJ9_min_7cf53 0 = .ok (.iload_n 0, 1) := by decide +kernel
theorem dJ9_min_7cf53_1 : decode cJ9_min_7cf53 1 = .ok (.iload_n 1, 1) := by decide +kernel
theorem dJ9_min_7cf53_2 : decode cJ9_min_7cf53 2 = .ok (.if_icmp .gt 7, 3) := by decide +kernel
theorem dJ9_min_7cf53_5 : decode cJ9_min_7cf53 5 = .ok (.iload_n 0, 1) := by decide +kernel
theorem dJ9_min_7cf53_6 : decode cJ9_min_7cf53 6 = .ok (.goto 4, 3) := by decide +kernel
theorem dJ9_min_7cf53_9 : decode cJ9_min_7cf53 9 = .ok (.iload_n 1, 1) := by decide +kernel
theorem dJ9_min_7cf53_10 : decode cJ9_min_7cf53 10 = .ok (.ireturn, 1) := by decide +kernel
theorem dJ7_fill_53178_0 : decode cJ7_fill_53178 0 = .ok (.iconst 0, 1) := by decide +kernel
theorem dJ7_fill_53178_1 : decode cJ7_fill_53178 1 = .ok (.istore_n 2, 1) := by decide +kernel
theorem dJ7_fill_53178_2 : decode cJ7_fill_53178 2 = .ok (.aload_n 0, 1) := by decide +kernel
theorem dJ7_fill_53178_3 : decode cJ7_fill_53178 3 = .ok (.arraylength, 1) := by decide +kernel
theorem dJ7_fill_53178_4 : decode cJ7_fill_53178 4 = .ok (.istore_n 3, 1) := by decide +kernel
theorem dJ7_fill_53178_5 : decode cJ7_fill_53178 5 = .ok (.iload_n 2, 1) := by decide +kernel
theorem dJ7_fill_53178_6 : decode cJ7_fill_53178 6 = .ok (.iload_n 3, 1) := by decide +kernel
theorem dJ7_fill_53178_7 : decode cJ7_fill_53178 7 = .ok (.if_icmp .ge 13, 3) := by decide +kernel
theorem dJ7_fill_53178_10 : decode cJ7_fill_53178 10 = .ok (.aload_n 0, 1) := by decide +kernel
theorem dJ7_fill_53178_11 : decode cJ7_fill_53178 11 = .ok (.iload_n 2, 1) := by decide +kernel
theorem dJ7_fill_53178_12 : decode cJ7_fill_53178 12 = .ok (.iload_n 1, 1) := by decide +kernel
theorem dJ7_fill_53178_13 : decode cJ7_fill_53178 13 = .ok (.iastore, 1) := by decide +kernel
theorem dJ7_fill_53178_14 : decode cJ7_fill_53178 14 = .ok (.iinc 2 1, 3) := by decide +kernel
theorem dJ7_fill_53178_17 : decode cJ7_fill_53178 17 = .ok (.goto (-12), 3) := by decide +kernel
theorem dJ7_fill_53178_20 : decode cJ7_fill_53178 20 = .ok (.return_, 1) := by decide +kernel
theorem dX3_init_0 : decode cX3_init 0 = .ok (.aload_n 0, 1) := by decide +kernel
theorem dX3_init_1 : decode cX3_init 1 = .ok (.invokespecial 3, 3) := by decide +kernel
theorem dX3_init_4 : decode cX3_init 4 = .ok (.aload_n 0, 1) := by decide +kernel
theorem dX3_init_5 : decode cX3_init 5 = .ok (.iconst 0, 1) := by decide +kernel
theorem dX3_init_6 : decode cX3_init 6 = .ok (.putfield 9, 3) := by decide +kernel
theorem dX3_init_9 : decode cX3_init 9 = .ok (.aload_n 0, 1) := by decide +kernel
theorem dX3_init_10 : decode cX3_init 10 = .ok (.iload_n 1, 1) := by decide +kernel
theorem dX3_init_11 : decode cX3_init 11 = .ok (.iconst 2, 1) := by decide +kernel
theorem dX3_init_12 : decode cX3_init 12 = .ok (.invokestatic 15, 3) := by decide +kernel
theorem dX3_init_15 : decode cX3_init 15 = .ok (.newarray .int, 2) := by decide +kernel
theorem dX3_init_17 : decode cX3_init 17 = .ok (.putfield 21, 3) := by decide +kernel
theorem dX3_init_20 : decode cX3_init 20 = .ok (.return_, 1) := by decide +kernel
theorem dX3_clear_0 : decode cX3_clear 0 = .ok (.aload_n 0, 1) := by decide +kernel
theorem dX3_clear_1 : decode cX3_clear 1 = .ok (.iconst 0, 1) := by decide +kernel
theorem dX3_clear_2 : decode cX3_clear 2 = .ok (.putfield 9, 3) := by decide +kernel
theorem dX3_clear_5 : decode cX3_clear 5 = .ok (.return_, 1) := by decide +kernel
theorem dX3_put_0 : decode cX3_put 0 = .ok (.aload_n 0, 1) := by decide +kernel
theorem dX3_put_1 : decode cX3_put 1 = .ok (.getfield 21, 3) := by decide +kernel
theorem dX3_put_4 : decode cX3_put 4 = .ok (.iconst 0, 1) := by decide +kernel
theorem dX3_put_5 : decode cX3_put 5 = .ok (.lload_n 1, 1) := by decide +kernel
theorem dX3_put_6 : decode cX3_put 6 = .ok (.l2i, 1) := by decide +kernel
theorem dX3_put_7 : decode cX3_put 7 = .ok (.iastore, 1) := by decide +kernel
theorem dX3_put_8 : decode cX3_put 8 = .ok (.aload_n 0, 1) := by decide +kernel
theorem dX3_put_9 : decode cX3_put 9 = .ok (.getfield 21, 3) := by decide +kernel
theorem dX3_put_12 : decode cX3_put 12 = .ok (.iconst 1, 1) := by decide +kernel
theorem dX3_put_13 : decode cX3_put 13 = .ok (.lload_n 1, 1) := by decide +kernel
theorem dX3_put_14 : decode cX3_put 14 = .ok (.bipush 32, 2) := by decide +kernel
theorem dX3_put_16 : decode cX3_put 16 = .ok (.lushr, 1) := by decide +kernel
theorem dX3_put_17 : decode cX3_put 17 = .ok (.l2i, 1) := by decide +kernel
theorem dX3_put_18 : decode cX3_put 18 = .ok (.iastore, 1) := by decide +kernel
theorem dX3_put_19 : decode cX3_put 19 = .ok (.aload_n 0, 1) := by decide +kernel
theorem dX3_put_20 : decode cX3_put 20 = .ok (.iconst 2, 1) := by decide +kernel
theorem dX3_put_21 : decode cX3_put 21 = .ok (.putfield 9, 3) := by decide +kernel
theorem dX3_put_24 : decode cX3_put 24 = .ok (.aload_n 0, 1) := by decide +kernel
theorem dX3_put_25 : decode cX3_put 25 = .ok (.invokevirtual 25, 3) := by decide +kernel
theorem dX3_put_28 : decode cX3_put 28 = .ok (.return_, 1) := by decide +kernel
theorem dX3_copy_0 : decode cX3_copy 0 = .ok (.aload_n 0, 1) := by decide +kernel
theorem dX3_copy_1 : decode cX3_copy 1 = .ok (.aload_n 1, 1) := by decide +kernel
theorem dX3_copy_2 : decode cX3_copy 2 = .ok (.getfield 9, 3) := by decide +kernel
theorem dX3_copy_5 : decode cX3_copy 5 = .ok (.aload_n 0, 1) := by decide +kernel
theorem dX3_copy_6 : decode cX3_copy 6 = .ok (.getfield 21, 3) := by decide +kernel
theorem dX3_copy_9 : decode cX3_copy 9 = .ok (.arraylength, 1) := by decide +kernel
theorem dX3_copy_10 : decode cX3_copy 10 = .ok (.invokestatic 28, 3) := by decide +kernel
theorem dX3_copy_13 : decode cX3_copy 13 = .ok (.putfield 9, 3) := by decide +kernel
theorem dX3_copy_16 : decode cX3_copy 16 = .ok (.aload_n 1, 1) := by decide +kernel
theorem dX3_copy_17 : decode cX3_copy 17 = .ok (.getfield 21, 3) := by decide +kernel
theorem dX3_copy_20 : decode cX3_copy 20 = .ok (.iconst 0, 1) := by decide +kernel
theorem dX3_copy_21 : decode cX3_copy 21 = .ok (.aload_n 0, 1) := by decide +kernel
theorem dX3_copy_22 : decode cX3_copy 22 = .ok (.getfield 21, 3) := by decide +kernel
theorem dX3_copy_25 : decode cX3_copy 25 = .ok (.iconst 0, 1) := by decide +kernel
theorem dX3_copy_26 : decode cX3_copy 26 = .ok (.aload_n 0, 1) := by decide +kernel
theorem dX3_copy_27 : decode cX3_copy 27 = .ok (.getfield 9, 3) := by decide +kernel
theorem dX3_copy_30 : decode cX3_copy 30 = .ok (.invokestatic 31, 3) := by decide +kernel
theorem dX3_copy_33 : decode cX3_copy 33 = .ok (.return_, 1) := by decide +kernel
theorem dX3_trim_0 : decode cX3_trim 0 = .ok (.aload_n 0, 1) := by decide +kernel
theorem dX3_trim_1 : decode cX3_trim 1 = .ok (.getfield 9, 3) := by decide +kernel
theorem dX3_trim_4 : decode cX3_trim 4 = .ok (.ifCond .le 30, 3) := by decide +kernel
theorem dX3_trim_7 : decode cX3_trim 7 = .ok (.aload_n 0, 1) := by decide +kernel
theorem dX3_trim_8 : decode cX3_trim 8 = .ok (.getfield 21, 3) := by decide +kernel
theorem dX3_trim_11 : decode cX3_trim 11 = .ok (.aload_n 0, 1) := by decide +kernel
theorem dX3_trim_12 : decode cX3_trim 12 = .ok (.getfield 9, 3) := by decide +kernel
theorem dX3_trim_15 : decode cX3_trim 15 = .ok (.iconst 1, 1) := by decide +kernel
theorem dX3_trim_16 : decode cX3_trim 16 = .ok (.isub, 1) := by decide +kernel
theorem dX3_trim_17 : decode cX3_trim 17 = .ok (.iaload, 1) := by decide +kernel
theorem dX3_trim_18 : decode cX3_trim 18 = .ok (.ifCond .ne 16, 3) := by decide +kernel
theorem dX3_trim_21 : decode cX3_trim 21 = .ok (.aload_n 0, 1) := by decide +kernel
theorem dX3_trim_22 : decode cX3_trim 22 = .ok (.dup, 1) := by decide +kernel
theorem dX3_trim_23 : decode cX3_trim 23 = .ok (.getfield 9, 3) := by decide +kernel
theorem dX3_trim_26 : decode cX3_trim 26 = .ok (.iconst 1, 1) := by decide +kernel
theorem dX3_trim_27 : decode cX3_trim 27 = .ok (.isub, 1) := by decide +kernel
theorem dX3_trim_28 : decode cX3_trim 28 = .ok (.putfield 9, 3) := by decide +kernel
theorem dX3_trim_31 : decode cX3_trim 31 = .ok (.goto (-31), 3) := by decide +kernel
theorem dX3_trim_34 : decode cX3_trim 34 = .ok (.return_, 1) := by decide +kernel
theorem dX3_word_0 : decode cX3_word 0 = .ok (.iload_n 1, 1) := by decide +kernel
theorem dX3_word_1 : decode cX3_word 1 = .ok (.ifCond .lt 11, 3) := by decide +kernel
theorem dX3_word_4 : decode cX3_word 4 = .ok (.iload_n 1, 1) := by decide +kernel
theorem dX3_word_5 : decode cX3_word 5 = .ok (.aload_n 0, 1) := by decide +kernel
theorem dX3_word_6 : decode cX3_word 6 = .ok (.getfield 9, 3) := by decide +kernel
theorem dX3_word_9 : decode cX3_word 9 = .ok (.if_icmp .lt 7, 3) := by decide +kernel
theorem dX3_word_12 : decode cX3_word 12 = .ok (.lconst 0, 1) := by decide +kernel
theorem dX3_word_13 : decode cX3_word 13 = .ok (.goto 14, 3) := by decide +kernel
theorem dX3_word_16 : decode cX3_word 16 = .ok (.aload_n 0, 1) := by decide +kernel
theorem dX3_word_17 : decode cX3_word 17 = .ok (.getfield 21, 3) := by decide +kernel
theorem dX3_word_20 : decode cX3_word 20 = .ok (.iload_n 1, 1) := by decide +kernel
theorem dX3_word_21 : decode cX3_word 21 = .ok (.iaload, 1) := by decide +kernel
theorem dX3_word_22 : decode cX3_word 22 = .ok (.i2l, 1) := by decide +kernel
theorem dX3_word_23 : decode cX3_word 23 = .ok (.ldc2_w 37, 3) := by decide +kernel
theorem dX3_word_26 : decode cX3_word 26 = .ok (.land, 1) := by decide +kernel
theorem dX3_word_27 : decode cX3_word 27 = .ok (.lreturn, 1) := by decide +kernel
theorem dX3_isOne_0 : decode cX3_isOne 0 = .ok (.aload_n 0, 1) := by decide +kernel
theorem dX3_isOne_1 : decode cX3_isOne 1 = .ok (.getfield 9, 3) := by decide +kernel
theorem dX3_isOne_4 : decode cX3_isOne 4 = .ok (.iconst 1, 1) := by decide +kernel
theorem dX3_isOne_5 : decode cX3_isOne 5 = .ok (.if_icmp .ne 17, 3) := by decide +kernel
theorem dX3_isOne_8 : decode cX3_isOne 8 = .ok (.aload_n 0, 1) := by decide +kernel
theorem dX3_isOne_9 : decode cX3_isOne 9 = .ok (.getfield 21, 3) := by decide +kernel
theorem dX3_isOne_12 : decode cX3_isOne 12 = .ok (.iconst 0, 1) := by decide +kernel
theorem dX3_isOne_13 : decode cX3_isOne 13 = .ok (.iaload, 1) := by decide +kernel
theorem dX3_isOne_14 : decode cX3_isOne 14 = .ok (.iconst 1, 1) := by decide +kernel
theorem dX3_isOne_15 : decode cX3_isOne 15 = .ok (.if_icmp .ne 7, 3) := by decide +kernel
theorem dX3_isOne_18 : decode cX3_isOne 18 = .ok (.iconst 1, 1) := by decide +kernel
theorem dX3_isOne_19 : decode cX3_isOne 19 = .ok (.goto 4, 3) := by decide +kernel
theorem dX3_isOne_22 : decode cX3_isOne 22 = .ok (.iconst 0, 1) := by decide +kernel
theorem dX3_isOne_23 : decode cX3_isOne 23 = .ok (.ireturn, 1) := by decide +kernel
theorem dX3_toLong_0 : decode cX3_toLong 0 = .ok (.aload_n 0, 1) := by decide +kernel
theorem dX3_toLong_1 : decode cX3_toLong 1 = .ok (.iconst 0, 1) := by decide +kernel
theorem dX3_toLong_2 : decode cX3_toLong 2 = .ok (.invokevirtual 39, 3) := by decide +kernel
theorem dX3_toLong_5 : decode cX3_toLong 5 = .ok (.aload_n 0, 1) := by decide +kernel
theorem dX3_toLong_6 : decode cX3_toLong 6 = .ok (.iconst 1, 1) := by decide +kernel
theorem dX3_toLong_7 : decode cX3_toLong 7 = .ok (.invokevirtual 39, 3) := by decide +kernel
theorem dX3_toLong_10 : decode cX3_toLong 10 = .ok (.bipush 32, 2) := by decide +kernel
theorem dX3_toLong_12 : decode cX3_toLong 12 = .ok (.lshl, 1) := by decide +kernel
theorem dX3_toLong_13 : decode cX3_toLong 13 = .ok (.lor, 1) := by decide +kernel
theorem dX3_toLong_14 : decode cX3_toLong 14 = .ok (.lreturn, 1) := by decide +kernel
theorem dX3_bits_0 : decode cX3_bits 0 = .ok (.aload_n 0, 1) := by decide +kernel
theorem dX3_bits_1 : decode cX3_bits 1 = .ok (.getfield 9, 3) := by decide +kernel
theorem dX3_bits_4 : decode cX3_bits 4 = .ok (.ifCond .ne 5, 3) := by decide +kernel
theorem dX3_bits_7 : decode cX3_bits 7 = .ok (.iconst 0, 1) := by decide +kernel
theorem dX3_bits_8 : decode cX3_bits 8 = .ok (.ireturn, 1) := by decide +kernel
theorem dX3_bits_9 : decode cX3_bits 9 = .ok (.aload_n 0, 1) := by decide +kernel
theorem dX3_bits_10 : decode cX3_bits 10 = .ok (.getfield 21, 3) := by decide +kernel
theorem dX3_bits_13 : decode cX3_bits 13 = .ok (.aload_n 0, 1) := by decide +kernel
theorem dX3_bits_14 : decode cX3_bits 14 = .ok (.getfield 9, 3) := by decide +kernel
theorem dX3_bits_17 : decode cX3_bits 17 = .ok (.iconst 1, 1) := by decide +kernel
theorem dX3_bits_18 : decode cX3_bits 18 = .ok (.isub, 1) := by decide +kernel
theorem dX3_bits_19 : decode cX3_bits 19 = .ok (.iaload, 1) := by decide +kernel
theorem dX3_bits_20 : decode cX3_bits 20 = .ok (.istore_n 1, 1) := by decide +kernel
theorem dX3_bits_21 : decode cX3_bits 21 = .ok (.aload_n 0, 1) := by decide +kernel
theorem dX3_bits_22 : decode cX3_bits 22 = .ok (.getfield 9, 3) := by decide +kernel
theorem dX3_bits_25 : decode cX3_bits 25 = .ok (.bipush 32, 2) := by decide +kernel
theorem dX3_bits_27 : decode cX3_bits 27 = .ok (.imul, 1) := by decide +kernel
theorem dX3_bits_28 : decode cX3_bits 28 = .ok (.istore_n 2, 1) := by decide +kernel
theorem dX3_bits_29 : decode cX3_bits 29 = .ok (.iconst 0, 1) := by decide +kernel
theorem dX3_bits_30 : decode cX3_bits 30 = .ok (.istore_n 3, 1) := by decide +kernel
theorem dX3_bits_31 : decode cX3_bits 31 = .ok (.iload_n 3, 1) := by decide +kernel
theorem dX3_bits_32 : decode cX3_bits 32 = .ok (.bipush 32, 2) := by decide +kernel
theorem dX3_bits_34 : decode cX3_bits 34 = .ok (.if_icmp .ge 20, 3) := by decide +kernel
theorem dX3_bits_37 : decode cX3_bits 37 = .ok (.iload_n 1, 1) := by decide +kernel
theorem dX3_bits_38 : decode cX3_bits 38 = .ok (.ifCond .le 16, 3) := by decide +kernel
theorem dX3_bits_41 : decode cX3_bits 41 = .ok (.iload_n 1, 1) := by decide +kernel
theorem dX3_bits_42 : decode cX3_bits 42 = .ok (.iconst 1, 1) := by decide +kernel
theorem dX3_bits_43 : decode cX3_bits 43 = .ok (.ishl, 1) := by decide +kernel
theorem dX3_bits_44 : decode cX3_bits 44 = .ok (.istore_n 1, 1) := by decide +kernel
theorem dX3_bits_45 : decode cX3_bits 45 = .ok (.iinc 2 (-1), 3) := by decide +kernel
theorem dX3_bits_48 : decode cX3_bits 48 = .ok (.iinc 3 1, 3) := by decide +kernel
theorem dX3_bits_51 : decode cX3_bits 51 = .ok (.goto (-20), 3) := by decide +kernel
theorem dX3_bits_54 : decode cX3_bits 54 = .ok (.iload_n 2, 1) := by decide +kernel
theorem dX3_bits_55 : decode cX3_bits 55 = .ok (.ireturn, 1) := by decide +kernel
theorem dX3_window_0 : decode cX3_window 0 = .ok (.iload_n 1, 1) := by decide +kernel
theorem dX3_window_1 : decode cX3_window 1 = .ok (.iconst 5, 1) := by decide +kernel
theorem dX3_window_2 : decode cX3_window 2 = .ok (.ishr, 1) := by decide +kernel
theorem dX3_window_3 : decode cX3_window 3 = .ok (.istore_n 2, 1) := by decide +kernel
theorem dX3_window_4 : decode cX3_window 4 = .ok (.iload_n 1, 1) := by decide +kernel
theorem dX3_window_5 : decode cX3_window 5 = .ok (.bipush 31, 2) := by decide +kernel
theorem dX3_window_7 : decode cX3_window 7 = .ok (.iand, 1) := by decide +kernel
theorem dX3_window_8 : decode cX3_window 8 = .ok (.istore_n 3, 1) := by decide +kernel
theorem dX3_window_9 : decode cX3_window 9 = .ok (.aload_n 0, 1) := by decide +kernel
theorem dX3_window_10 : decode cX3_window 10 = .ok (.iload_n 2, 1) := by decide +kernel
theorem dX3_window_11 : decode cX3_window 11 = .ok (.invokevirtual 39, 3) := by decide +kernel
theorem dX3_window_14 : decode cX3_window 14 = .ok (.aload_n 0, 1) := by decide +kernel
theorem dX3_window_15 : decode cX3_window 15 = .ok (.iload_n 2, 1) := by decide +kernel
theorem dX3_window_16 : decode cX3_window 16 = .ok (.iconst 1, 1) := by decide +kernel
theorem dX3_window_17 : decode cX3_window 17 = .ok (.iadd, 1) := by decide +kernel
theorem dX3_window_18 : decode cX3_window 18 = .ok (.invokevirtual 39, 3) := by decide +kernel
theorem dX3_window_21 : decode cX3_window 21 = .ok (.bipush 32, 2) := by decide +kernel
theorem dX3_window_23 : decode cX3_window 23 = .ok (.lshl, 1) := by decide +kernel
theorem dX3_window_24 : decode cX3_window 24 = .ok (.lor, 1) := by decide +kernel
theorem dX3_window_25 : decode cX3_window 25 = .ok (.iload_n 3, 1) := by decide +kernel
theorem dX3_window_26 : decode cX3_window 26 = .ok (.lushr, 1) := by decide +kernel
theorem dX3_window_27 : decode cX3_window 27 = .ok (.lstore 4, 2) := by decide +kernel
theorem dX3_window_29 : decode cX3_window 29 = .ok (.iload_n 3, 1) := by decide +kernel
theorem dX3_window_30 : decode cX3_window 30 = .ok (.ifCond .ne 8, 3) := by decide +kernel
theorem dX3_window_33 : decode cX3_window 33 = .ok (.lload 4, 2) := by decide +kernel
theorem dX3_window_35 : decode cX3_window 35 = .ok (.goto 18, 3) := by decide +kernel
theorem dX3_window_38 : decode cX3_window 38 = .ok (.lload 4, 2) := by decide +kernel
theorem dX3_window_40 : decode cX3_window 40 = .ok (.aload_n 0, 1) := by decide +kernel
theorem dX3_window_41 : decode cX3_window 41 = .ok (.iload_n 2, 1) := by decide +kernel
theorem dX3_window_42 : decode cX3_window 42 = .ok (.iconst 2, 1) := by decide +kernel
theorem dX3_window_43 : decode cX3_window 43 = .ok (.iadd, 1) := by decide +kernel
theorem dX3_window_44 : decode cX3_window 44 = .ok (.invokevirtual 39, 3) := by decide +kernel
theorem dX3_window_47 : decode cX3_window 47 = .ok (.bipush 64, 2) := by decide +kernel
theorem dX3_window_49 : decode cX3_window 49 = .ok (.iload_n 3, 1) := by decide +kernel
theorem dX3_window_50 : decode cX3_window 50 = .ok (.isub, 1) := by decide +kernel
theorem dX3_window_51 : decode cX3_window 51 = .ok (.lshl, 1) := by decide +kernel
theorem dX3_window_52 : decode cX3_window 52 = .ok (.lor, 1) := by decide +kernel
theorem dX3_window_53 : decode cX3_window 53 = .ok (.lreturn, 1) := by decide +kernel
theorem dX3_against_0 : decode cX3_against 0 = .ok (.aload_n 0, 1) := by decide +kernel
theorem dX3_against_1 : decode cX3_against 1 = .ok (.getfield 9, 3) := by decide +kernel
theorem dX3_against_4 : decode cX3_against 4 = .ok (.aload_n 1, 1) := by decide +kernel
theorem dX3_against_5 : decode cX3_against 5 = .ok (.getfield 9, 3) := by decide +kernel
theorem dX3_against_8 : decode cX3_against 8 = .ok (.if_icmp .eq 20, 3) := by decide +kernel
theorem dX3_against_11 : decode cX3_against 11 = .ok (.aload_n 0, 1) := by decide +kernel
theorem dX3_against_12 : decode cX3_against 12 = .ok (.getfield 9, 3) := by decide +kernel
theorem dX3_against_15 : decode cX3_against 15 = .ok (.aload_n 1, 1) := by decide +kernel
theorem dX3_against_16 : decode cX3_against 16 = .ok (.getfield 9, 3) := by decide +kernel
theorem dX3_against_19 : decode cX3_against 19 = .ok (.if_icmp .ge 7, 3) := by decide +kernel
theorem dX3_against_22 : decode cX3_against 22 = .ok (.iconst (-1), 1) := by decide +kernel
theorem dX3_against_23 : decode cX3_against 23 = .ok (.goto 4, 3) := by decide +kernel
theorem dX3_against_26 : decode cX3_against 26 = .ok (.iconst 1, 1) := by decide +kernel
theorem dX3_against_27 : decode cX3_against 27 = .ok (.ireturn, 1) := by decide +kernel
theorem dX3_against_28 : decode cX3_against 28 = .ok (.aload_n 0, 1) := by decide +kernel
theorem dX3_against_29 : decode cX3_against 29 = .ok (.getfield 9, 3) := by decide +kernel
theorem dX3_against_32 : decode cX3_against 32 = .ok (.iconst 1, 1) := by decide +kernel
theorem dX3_against_33 : decode cX3_against 33 = .ok (.isub, 1) := by decide +kernel
theorem dX3_against_34 : decode cX3_against 34 = .ok (.istore_n 2, 1) := by decide +kernel
theorem dX3_against_35 : decode cX3_against 35 = .ok (.iload_n 2, 1) := by decide +kernel
theorem dX3_against_36 : decode cX3_against 36 = .ok (.ifCond .lt 56, 3) := by decide +kernel
theorem dX3_against_39 : decode cX3_against 39 = .ok (.aload_n 0, 1) := by decide +kernel
theorem dX3_against_40 : decode cX3_against 40 = .ok (.getfield 21, 3) := by decide +kernel
theorem dX3_against_43 : decode cX3_against 43 = .ok (.iload_n 2, 1) := by decide +kernel
theorem dX3_against_44 : decode cX3_against 44 = .ok (.iaload, 1) := by decide +kernel
theorem dX3_against_45 : decode cX3_against 45 = .ok (.aload_n 1, 1) := by decide +kernel
theorem dX3_against_46 : decode cX3_against 46 = .ok (.getfield 21, 3) := by decide +kernel
theorem dX3_against_49 : decode cX3_against 49 = .ok (.iload_n 2, 1) := by decide +kernel
theorem dX3_against_50 : decode cX3_against 50 = .ok (.iaload, 1) := by decide +kernel
theorem dX3_against_51 : decode cX3_against 51 = .ok (.if_icmp .eq 35, 3) := by decide +kernel
theorem dX3_against_54 : decode cX3_against 54 = .ok (.aload_n 0, 1) := by decide +kernel
theorem dX3_against_55 : decode cX3_against 55 = .ok (.getfield 21, 3) := by decide +kernel
theorem dX3_against_58 : decode cX3_against 58 = .ok (.iload_n 2, 1) := by decide +kernel
theorem dX3_against_59 : decode cX3_against 59 = .ok (.iaload, 1) := by decide +kernel
theorem dX3_against_60 : decode cX3_against 60 = .ok (.i2l, 1) := by decide +kernel
theorem dX3_against_61 : decode cX3_against 61 = .ok (.ldc2_w 37, 3) := by decide +kernel
theorem dX3_against_64 : decode cX3_against 64 = .ok (.land, 1) := by decide +kernel
theorem dX3_against_65 : decode cX3_against 65 = .ok (.aload_n 1, 1) := by decide +kernel
theorem dX3_against_66 : decode cX3_against 66 = .ok (.getfield 21, 3) := by decide +kernel
theorem dX3_against_69 : decode cX3_against 69 = .ok (.iload_n 2, 1) := by decide +kernel
theorem dX3_against_70 : decode cX3_against 70 = .ok (.iaload, 1) := by decide +kernel
theorem dX3_against_71 : decode cX3_against 71 = .ok (.i2l, 1) := by decide +kernel
theorem dX3_against_72 : decode cX3_against 72 = .ok (.ldc2_w 37, 3) := by decide +kernel
theorem dX3_against_75 : decode cX3_against 75 = .ok (.land, 1) := by decide +kernel
theorem dX3_against_76 : decode cX3_against 76 = .ok (.lcmp, 1) := by decide +kernel
theorem dX3_against_77 : decode cX3_against 77 = .ok (.ifCond .ge 7, 3) := by decide +kernel
theorem dX3_against_80 : decode cX3_against 80 = .ok (.iconst (-1), 1) := by decide +kernel
theorem dX3_against_81 : decode cX3_against 81 = .ok (.goto 4, 3) := by decide +kernel
theorem dX3_against_84 : decode cX3_against 84 = .ok (.iconst 1, 1) := by decide +kernel
theorem dX3_against_85 : decode cX3_against 85 = .ok (.ireturn, 1) := by decide +kernel
theorem dX3_against_86 : decode cX3_against 86 = .ok (.iinc 2 (-1), 3) := by decide +kernel
theorem dX3_against_89 : decode cX3_against 89 = .ok (.goto (-54), 3) := by decide +kernel
theorem dX3_against_92 : decode cX3_against 92 = .ok (.iconst 0, 1) := by decide +kernel
theorem dX3_against_93 : decode cX3_against 93 = .ok (.ireturn, 1) := by decide +kernel
theorem dX3_widenTo_0 : decode cX3_widenTo 0 = .ok (.aload_n 0, 1) := by decide +kernel
theorem dX3_widenTo_1 : decode cX3_widenTo 1 = .ok (.getfield 9, 3) := by decide +kernel
theorem dX3_widenTo_4 : decode cX3_widenTo 4 = .ok (.iload_n 1, 1) := by decide +kernel
theorem dX3_widenTo_5 : decode cX3_widenTo 5 = .ok (.if_icmp .ge 38, 3) := by decide +kernel
theorem dX3_widenTo_8 : decode cX3_widenTo 8 = .ok (.aload_n 0, 1) := by decide +kernel
theorem dX3_widenTo_9 : decode cX3_widenTo 9 = .ok (.getfield 9, 3) := by decide +kernel
theorem dX3_widenTo_12 : decode cX3_widenTo 12 = .ok (.aload_n 0, 1) := by decide +kernel
theorem dX3_widenTo_13 : decode cX3_widenTo 13 = .ok (.getfield 21, 3) := by decide +kernel
theorem dX3_widenTo_16 : decode cX3_widenTo 16 = .ok (.arraylength, 1) := by decide +kernel
theorem dX3_widenTo_17 : decode cX3_widenTo 17 = .ok (.if_icmp .ge 26, 3) := by decide +kernel
theorem dX3_widenTo_20 : decode cX3_widenTo 20 = .ok (.aload_n 0, 1) := by decide +kernel
theorem dX3_widenTo_21 : decode cX3_widenTo 21 = .ok (.getfield 21, 3) := by decide +kernel
theorem dX3_widenTo_24 : decode cX3_widenTo 24 = .ok (.aload_n 0, 1) := by decide +kernel
theorem dX3_widenTo_25 : decode cX3_widenTo 25 = .ok (.getfield 9, 3) := by decide +kernel
theorem dX3_widenTo_28 : decode cX3_widenTo 28 = .ok (.iconst 0, 1) := by decide +kernel
theorem dX3_widenTo_29 : decode cX3_widenTo 29 = .ok (.iastore, 1) := by decide +kernel
theorem dX3_widenTo_30 : decode cX3_widenTo 30 = .ok (.aload_n 0, 1) := by decide +kernel
theorem dX3_widenTo_31 : decode cX3_widenTo 31 = .ok (.dup, 1) := by decide +kernel
theorem dX3_widenTo_32 : decode cX3_widenTo 32 = .ok (.getfield 9, 3) := by decide +kernel
theorem dX3_widenTo_35 : decode cX3_widenTo 35 = .ok (.iconst 1, 1) := by decide +kernel
theorem dX3_widenTo_36 : decode cX3_widenTo 36 = .ok (.iadd, 1) := by decide +kernel
theorem dX3_widenTo_37 : decode cX3_widenTo 37 = .ok (.putfield 9, 3) := by decide +kernel
theorem dX3_widenTo_40 : decode cX3_widenTo 40 = .ok (.goto (-40), 3) := by decide +kernel
theorem dX3_widenTo_43 : decode cX3_widenTo 43 = .ok (.return_, 1) := by decide +kernel
theorem dX3_copyShifted_0 : decode cX3_copyShifted 0 = .ok (.iload_n 2, 1) := by decide +kernel
theorem dX3_copyShifted_1 : decode cX3_copyShifted 1 = .ok (.iconst 0, 1) := by decide +kernel
theorem dX3_copyShifted_2 : decode cX3_copyShifted 2 = .ok (.invokestatic 15, 3) := by decide +kernel
theorem dX3_copyShifted_5 : decode cX3_copyShifted 5 = .ok (.iconst 5, 1) := by decide +kernel
theorem dX3_copyShifted_6 : decode cX3_copyShifted 6 = .ok (.ishr, 1) := by decide +kernel
theorem dX3_copyShifted_7 : decode cX3_copyShifted 7 = .ok (.istore_n 3, 1) := by decide +kernel
theorem dX3_copyShifted_8 : decode cX3_copyShifted 8 = .ok (.aload_n 0, 1) := by decide +kernel
theorem dX3_copyShifted_9 : decode cX3_copyShifted 9 = .ok (.iconst 0, 1) := by decide +kernel
theorem dX3_copyShifted_10 : decode cX3_copyShifted 10 = .ok (.putfield 9, 3) := by decide +kernel
theorem dX3_copyShifted_13 : decode cX3_copyShifted 13 = .ok (.aload_n 0, 1) := by decide +kernel
theorem dX3_copyShifted_14 : decode cX3_copyShifted 14 = .ok (.iload_n 3, 1) := by decide +kernel
theorem dX3_copyShifted_15 : decode cX3_copyShifted 15 = .ok (.aload_n 1, 1) := by decide +kernel
theorem dX3_copyShifted_16 : decode cX3_copyShifted 16 = .ok (.getfield 9, 3) := by decide +kernel
theorem dX3_copyShifted_19 : decode cX3_copyShifted 19 = .ok (.iadd, 1) := by decide +kernel
theorem dX3_copyShifted_20 : decode cX3_copyShifted 20 = .ok (.iconst 1, 1) := by decide +kernel
theorem dX3_copyShifted_21 : decode cX3_copyShifted 21 = .ok (.iadd, 1) := by decide +kernel
theorem dX3_copyShifted_22 : decode cX3_copyShifted 22 = .ok (.invokevirtual 43, 3) := by decide +kernel
theorem dX3_copyShifted_25 : decode cX3_copyShifted 25 = .ok (.lconst 0, 1) := by decide +kernel
theorem dX3_copyShifted_26 : decode cX3_copyShifted 26 = .ok (.lstore 4, 2) := by decide +kernel
theorem dX3_copyShifted_28 : decode cX3_copyShifted 28 = .ok (.iload_n 3, 1) := by decide +kernel
theorem dX3_copyShifted_29 : decode cX3_copyShifted 29 = .ok (.istore 6, 2) := by decide +kernel
theorem dX3_copyShifted_31 : decode cX3_copyShifted 31 = .ok (.iload 6, 2) := by decide +kernel
theorem dX3_copyShifted_33 : decode cX3_copyShifted 33 = .ok (.aload_n 0, 1) := by decide +kernel
theorem dX3_copyShifted_34 : decode cX3_copyShifted 34 = .ok (.getfield 9, 3) := by decide +kernel
theorem dX3_copyShifted_37 : decode cX3_copyShifted 37 = .ok (.if_icmp .ge 44, 3) := by decide +kernel
theorem dX3_copyShifted_40 : decode cX3_copyShifted 40 = .ok (.lload 4, 2) := by decide +kernel
theorem dX3_copyShifted_42 : decode cX3_copyShifted 42 = .ok (.aload_n 1, 1) := by decide +kernel
theorem dX3_copyShifted_43 : decode cX3_copyShifted 43 = .ok (.iload 6, 2) := by decide +kernel
theorem dX3_copyShifted_45 : decode cX3_copyShifted 45 = .ok (.iload_n 3, 1) := by decide +kernel
theorem dX3_copyShifted_46 : decode cX3_copyShifted 46 = .ok (.isub, 1) := by decide +kernel
theorem dX3_copyShifted_47 : decode cX3_copyShifted 47 = .ok (.invokevirtual 39, 3) := by decide +kernel
theorem dX3_copyShifted_50 : decode cX3_copyShifted 50 = .ok (.iload_n 2, 1) := by decide +kernel
theorem dX3_copyShifted_51 : decode cX3_copyShifted 51 = .ok (.bipush 31, 2) := by decide +kernel
theorem dX3_copyShifted_53 : decode cX3_copyShifted 53 = .ok (.iand, 1) := by decide +kernel
theorem dX3_copyShifted_54 : decode cX3_copyShifted 54 = .ok (.lshl, 1) := by decide +kernel
theorem dX3_copyShifted_55 : decode cX3_copyShifted 55 = .ok (.lor, 1) := by decide +kernel
theorem dX3_copyShifted_56 : decode cX3_copyShifted 56 = .ok (.lstore 4, 2) := by decide +kernel
theorem dX3_copyShifted_58 : decode cX3_copyShifted 58 = .ok (.aload_n 0, 1) := by decide +kernel
theorem dX3_copyShifted_59 : decode cX3_copyShifted 59 = .ok (.getfield 21, 3) := by decide +kernel
theorem dX3_copyShifted_62 : decode cX3_copyShifted 62 = .ok (.iload 6, 2) := by decide +kernel
theorem dX3_copyShifted_64 : decode cX3_copyShifted 64 = .ok (.lload 4, 2) := by decide +kernel
theorem dX3_copyShifted_66 : decode cX3_copyShifted 66 = .ok (.l2i, 1) := by decide +kernel
theorem dX3_copyShifted_67 : decode cX3_copyShifted 67 = .ok (.iastore, 1) := by decide +kernel
theorem dX3_copyShifted_68 : decode cX3_copyShifted 68 = .ok (.lload 4, 2) := by decide +kernel
theorem dX3_copyShifted_70 : decode cX3_copyShifted 70 = .ok (.bipush 32, 2) := by decide +kernel
theorem dX3_copyShifted_72 : decode cX3_copyShifted 72 = .ok (.lushr, 1) := by decide +kernel
theorem dX3_copyShifted_73 : decode cX3_copyShifted 73 = .ok (.lstore 4, 2) := by decide +kernel
theorem dX3_copyShifted_75 : decode cX3_copyShifted 75 = .ok (.iinc 6 1, 3) := by decide +kernel
theorem dX3_copyShifted_78 : decode cX3_copyShifted 78 = .ok (.goto (-47), 3) := by decide +kernel
theorem dX3_copyShifted_81 : decode cX3_copyShifted 81 = .ok (.aload_n 0, 1) := by decide +kernel
theorem dX3_copyShifted_82 : decode cX3_copyShifted 82 = .ok (.invokevirtual 25, 3) := by decide +kernel
theorem dX3_copyShifted_85 : decode cX3_copyShifted 85 = .ok (.return_, 1) := by decide +kernel
theorem dX3_add_0 : decode cX3_add 0 = .ok (.aload_n 0, 1) := by decide +kernel
theorem dX3_add_1 : decode cX3_add 1 = .ok (.iconst 0, 1) := by decide +kernel
theorem dX3_add_2 : decode cX3_add 2 = .ok (.aload_n 1, 1) := by decide +kernel
theorem dX3_add_3 : decode cX3_add 3 = .ok (.getfield 21, 3) := by decide +kernel
theorem dX3_add_6 : decode cX3_add 6 = .ok (.iconst 0, 1) := by decide +kernel
theorem dX3_add_7 : decode cX3_add 7 = .ok (.aload_n 1, 1) := by decide +kernel
theorem dX3_add_8 : decode cX3_add 8 = .ok (.getfield 9, 3) := by decide +kernel
theorem dX3_add_11 : decode cX3_add 11 = .ok (.lconst 1, 1) := by decide +kernel
theorem dX3_add_12 : decode cX3_add 12 = .ok (.invokevirtual 47, 3) := by decide +kernel
theorem dX3_add_15 : decode cX3_add 15 = .ok (.return_, 1) := by decide +kernel
theorem dX3_addScaled_0 : decode cX3_addScaled 0 = .ok (.iload_n 1, 1) := by decide +kernel
theorem dX3_addScaled_1 : decode cX3_addScaled 1 = .ok (.ifCond .lt 16, 3) := by decide +kernel
theorem dX3_addScaled_4 : decode cX3_addScaled 4 = .ok (.iload_n 3, 1) := by decide +kernel
theorem dX3_addScaled_5 : decode cX3_addScaled 5 = .ok (.ifCond .lt 12, 3) := by decide +kernel
theorem dX3_addScaled_8 : decode cX3_addScaled 8 = .ok (.iload_n 3, 1) := by decide +kernel
theorem dX3_addScaled_9 : decode cX3_addScaled 9 = .ok (.aload_n 2, 1) := by decide +kernel
theorem dX3_addScaled_10 : decode cX3_addScaled 10 = .ok (.arraylength, 1) := by decide +kernel
theorem dX3_addScaled_11 : decode cX3_addScaled 11 = .ok (.iload 4, 2) := by decide +kernel
theorem dX3_addScaled_13 : decode cX3_addScaled 13 = .ok (.isub, 1) := by decide +kernel
theorem dX3_addScaled_14 : decode cX3_addScaled 14 = .ok (.if_icmp .le 4, 3) := by decide +kernel
theorem dX3_addScaled_17 : decode cX3_addScaled 17 = .ok (.return_, 1) := by decide +kernel
theorem dX3_addScaled_18 : decode cX3_addScaled 18 = .ok (.iload_n 1, 1) := by decide +kernel
theorem dX3_addScaled_19 : decode cX3_addScaled 19 = .ok (.iload 4, 2) := by decide +kernel
theorem dX3_addScaled_21 : decode cX3_addScaled 21 = .ok (.iadd, 1) := by decide +kernel
theorem dX3_addScaled_22 : decode cX3_addScaled 22 = .ok (.istore 7, 2) := by decide +kernel
theorem dX3_addScaled_24 : decode cX3_addScaled 24 = .ok (.aload_n 0, 1) := by decide +kernel
theorem dX3_addScaled_25 : decode cX3_addScaled 25 = .ok (.aload_n 0, 1) := by decide +kernel
theorem dX3_addScaled_26 : decode cX3_addScaled 26 = .ok (.getfield 9, 3) := by decide +kernel
theorem dX3_addScaled_29 : decode cX3_addScaled 29 = .ok (.iload 7, 2) := by decide +kernel
theorem dX3_addScaled_31 : decode cX3_addScaled 31 = .ok (.iconst 1, 1) := by decide +kernel
theorem dX3_addScaled_32 : decode cX3_addScaled 32 = .ok (.iadd, 1) := by decide +kernel
theorem dX3_addScaled_33 : decode cX3_addScaled 33 = .ok (.invokestatic 15, 3) := by decide +kernel
theorem dX3_addScaled_36 : decode cX3_addScaled 36 = .ok (.iconst 1, 1) := by decide +kernel
theorem dX3_addScaled_37 : decode cX3_addScaled 37 = .ok (.iadd, 1) := by decide +kernel
theorem dX3_addScaled_38 : decode cX3_addScaled 38 = .ok (.invokevirtual 43, 3) := by decide +kernel
theorem dX3_addScaled_41 : decode cX3_addScaled 41 = .ok (.lconst 0, 1) := by decide +kernel
theorem dX3_addScaled_42 : decode cX3_addScaled 42 = .ok (.lstore 8, 2) := by decide +kernel
theorem dX3_addScaled_44 : decode cX3_addScaled 44 = .ok (.iload_n 1, 1) := by decide +kernel
theorem dX3_addScaled_45 : decode cX3_addScaled 45 = .ok (.istore 10, 2) := by decide +kernel
theorem dX3_addScaled_47 : decode cX3_addScaled 47 = .ok (.iload 10, 2) := by decide +kernel
theorem dX3_addScaled_49 : decode cX3_addScaled 49 = .ok (.aload_n 0, 1) := by decide +kernel
theorem dX3_addScaled_50 : decode cX3_addScaled 50 = .ok (.getfield 9, 3) := by decide +kernel
theorem dX3_addScaled_53 : decode cX3_addScaled 53 = .ok (.if_icmp .ge 85, 3) := by decide +kernel
theorem dX3_addScaled_56 : decode cX3_addScaled 56 = .ok (.iload 10, 2) := by decide +kernel
theorem dX3_addScaled_58 : decode cX3_addScaled 58 = .ok (.iload 7, 2) := by decide +kernel
theorem dX3_addScaled_60 : decode cX3_addScaled 60 = .ok (.if_icmp .lt 10, 3) := by decide +kernel
theorem dX3_addScaled_63 : decode cX3_addScaled 63 = .ok (.lload 8, 2) := by decide +kernel
theorem dX3_addScaled_65 : decode cX3_addScaled 65 = .ok (.lconst 0, 1) := by decide +kernel
theorem dX3_addScaled_66 : decode cX3_addScaled 66 = .ok (.lcmp, 1) := by decide +kernel
theorem dX3_addScaled_67 : decode cX3_addScaled 67 = .ok (.ifCond .eq 71, 3) := by decide +kernel
theorem dX3_addScaled_70 : decode cX3_addScaled 70 = .ok (.lload 8, 2) := by decide +kernel
theorem dX3_addScaled_72 : decode cX3_addScaled 72 = .ok (.aload_n 0, 1) := by decide +kernel
theorem dX3_addScaled_73 : decode cX3_addScaled 73 = .ok (.getfield 21, 3) := by decide +kernel
theorem dX3_addScaled_76 : decode cX3_addScaled 76 = .ok (.iload 10, 2) := by decide +kernel
theorem dX3_addScaled_78 : decode cX3_addScaled 78 = .ok (.iaload, 1) := by decide +kernel
theorem dX3_addScaled_79 : decode cX3_addScaled 79 = .ok (.i2l, 1) := by decide +kernel
theorem dX3_addScaled_80 : decode cX3_addScaled 80 = .ok (.ldc2_w 37, 3) := by decide +kernel
theorem dX3_addScaled_83 : decode cX3_addScaled 83 = .ok (.land, 1) := by decide +kernel
theorem dX3_addScaled_84 : decode cX3_addScaled 84 = .ok (.ladd, 1) := by decide +kernel
theorem dX3_addScaled_85 : decode cX3_addScaled 85 = .ok (.lstore 8, 2) := by decide +kernel
theorem dX3_addScaled_87 : decode cX3_addScaled 87 = .ok (.iload 10, 2) := by decide +kernel
theorem dX3_addScaled_89 : decode cX3_addScaled 89 = .ok (.iload 7, 2) := by decide +kernel
theorem dX3_addScaled_91 : decode cX3_addScaled 91 = .ok (.if_icmp .ge 24, 3) := by decide +kernel
theorem dX3_addScaled_94 : decode cX3_addScaled 94 = .ok (.lload 8, 2) := by decide +kernel
theorem dX3_addScaled_96 : decode cX3_addScaled 96 = .ok (.aload_n 2, 1) := by decide +kernel
theorem dX3_addScaled_97 : decode cX3_addScaled 97 = .ok (.iload_n 3, 1) := by decide +kernel
theorem dX3_addScaled_98 : decode cX3_addScaled 98 = .ok (.iload 10, 2) := by decide +kernel
theorem dX3_addScaled_100 : decode cX3_addScaled 100 = .ok (.iadd, 1) := by decide +kernel
theorem dX3_addScaled_101 : decode cX3_addScaled 101 = .ok (.iload_n 1, 1) := by decide +kernel
theorem dX3_addScaled_102 : decode cX3_addScaled 102 = .ok (.isub, 1) := by decide +kernel
theorem dX3_addScaled_103 : decode cX3_addScaled 103 = .ok (.iaload, 1) := by decide +kernel
theorem dX3_addScaled_104 : decode cX3_addScaled 104 = .ok (.i2l, 1) := by decide +kernel
theorem dX3_addScaled_105 : decode cX3_addScaled 105 = .ok (.ldc2_w 37, 3) := by decide +kernel
theorem dX3_addScaled_108 : decode cX3_addScaled 108 = .ok (.land, 1) := by decide +kernel
theorem dX3_addScaled_109 : decode cX3_addScaled 109 = .ok (.lload 5, 2) := by decide +kernel
theorem dX3_addScaled_111 : decode cX3_addScaled 111 = .ok (.lmul, 1) := by decide +kernel
theorem dX3_addScaled_112 : decode cX3_addScaled 112 = .ok (.ladd, 1) := by decide +kernel
theorem dX3_addScaled_113 : decode cX3_addScaled 113 = .ok (.lstore 8, 2) := by decide +kernel
theorem dX3_addScaled_115 : decode cX3_addScaled 115 = .ok (.aload_n 0, 1) := by decide +kernel
theorem dX3_addScaled_116 : decode cX3_addScaled 116 = .ok (.getfield 21, 3) := by decide +kernel
theorem dX3_addScaled_119 : decode cX3_addScaled 119 = .ok (.iload 10, 2) := by decide +kernel
theorem dX3_addScaled_121 : decode cX3_addScaled 121 = .ok (.lload 8, 2) := by decide +kernel
theorem dX3_addScaled_123 : decode cX3_addScaled 123 = .ok (.l2i, 1) := by decide +kernel
theorem dX3_addScaled_124 : decode cX3_addScaled 124 = .ok (.iastore, 1) := by decide +kernel
theorem dX3_addScaled_125 : decode cX3_addScaled 125 = .ok (.lload 8, 2) := by decide +kernel
theorem dX3_addScaled_127 : decode cX3_addScaled 127 = .ok (.bipush 32, 2) := by decide +kernel
theorem dX3_addScaled_129 : decode cX3_addScaled 129 = .ok (.lushr, 1) := by decide +kernel
theorem dX3_addScaled_130 : decode cX3_addScaled 130 = .ok (.lstore 8, 2) := by decide +kernel
theorem dX3_addScaled_132 : decode cX3_addScaled 132 = .ok (.iinc 10 1, 3) := by decide +kernel
theorem dX3_addScaled_135 : decode cX3_addScaled 135 = .ok (.goto (-88), 3) := by decide +kernel
theorem dX3_addScaled_138 : decode cX3_addScaled 138 = .ok (.aload_n 0, 1) := by decide +kernel
theorem dX3_addScaled_139 : decode cX3_addScaled 139 = .ok (.invokevirtual 25, 3) := by decide +kernel
theorem dX3_addScaled_142 : decode cX3_addScaled 142 = .ok (.return_, 1) := by decide +kernel
theorem dX3_subtract_0 : decode cX3_subtract 0 = .ok (.lconst 0, 1) := by decide +kernel
theorem dX3_subtract_1 : decode cX3_subtract 1 = .ok (.lstore_n 2, 1) := by decide +kernel
theorem dX3_subtract_2 : decode cX3_subtract 2 = .ok (.iconst 0, 1) := by decide +kernel
theorem dX3_subtract_3 : decode cX3_subtract 3 = .ok (.istore 4, 2) := by decide +kernel
theorem dX3_subtract_5 : decode cX3_subtract 5 = .ok (.iload 4, 2) := by decide +kernel
theorem dX3_subtract_7 : decode cX3_subtract 7 = .ok (.aload_n 0, 1) := by decide +kernel
theorem dX3_subtract_8 : decode cX3_subtract 8 = .ok (.getfield 9, 3) := by decide +kernel
theorem dX3_subtract_11 : decode cX3_subtract 11 = .ok (.if_icmp .ge 63, 3) := by decide +kernel
theorem dX3_subtract_14 : decode cX3_subtract 14 = .ok (.iload 4, 2) := by decide +kernel
theorem dX3_subtract_16 : decode cX3_subtract 16 = .ok (.aload_n 1, 1) := by decide +kernel
theorem dX3_subtract_17 : decode cX3_subtract 17 = .ok (.getfield 9, 3) := by decide +kernel
theorem dX3_subtract_20 : decode cX3_subtract 20 = .ok (.if_icmp .lt 12, 3) := by decide +kernel
theorem dX3_subtract_23 : decode cX3_subtract 23 = .ok (.lload_n 2, 1) := by decide +kernel
theorem dX3_subtract_24 : decode cX3_subtract 24 = .ok (.lconst 0, 1) := by decide +kernel
theorem dX3_subtract_25 : decode cX3_subtract 25 = .ok (.lcmp, 1) := by decide +kernel
theorem dX3_subtract_26 : decode cX3_subtract 26 = .ok (.ifCond .ne 6, 3) := by decide +kernel
theorem dX3_subtract_29 : decode cX3_subtract 29 = .ok (.goto 45, 3) := by decide +kernel
theorem dX3_subtract_32 : decode cX3_subtract 32 = .ok (.lload_n 2, 1) := by decide +kernel
theorem dX3_subtract_33 : decode cX3_subtract 33 = .ok (.aload_n 0, 1) := by decide +kernel
theorem dX3_subtract_34 : decode cX3_subtract 34 = .ok (.getfield 21, 3) := by decide +kernel
theorem dX3_subtract_37 : decode cX3_subtract 37 = .ok (.iload 4, 2) := by decide +kernel
theorem dX3_subtract_39 : decode cX3_subtract 39 = .ok (.iaload, 1) := by decide +kernel
theorem dX3_subtract_40 : decode cX3_subtract 40 = .ok (.i2l, 1) := by decide +kernel
theorem dX3_subtract_41 : decode cX3_subtract 41 = .ok (.ldc2_w 37, 3) := by decide +kernel
theorem dX3_subtract_44 : decode cX3_subtract 44 = .ok (.land, 1) := by decide +kernel
theorem dX3_subtract_45 : decode cX3_subtract 45 = .ok (.aload_n 1, 1) := by decide +kernel
theorem dX3_subtract_46 : decode cX3_subtract 46 = .ok (.iload 4, 2) := by decide +kernel
theorem dX3_subtract_48 : decode cX3_subtract 48 = .ok (.invokevirtual 39, 3) := by decide +kernel
theorem dX3_subtract_51 : decode cX3_subtract 51 = .ok (.lsub, 1) := by decide +kernel
theorem dX3_subtract_52 : decode cX3_subtract 52 = .ok (.ladd, 1) := by decide +kernel
theorem dX3_subtract_53 : decode cX3_subtract 53 = .ok (.lstore_n 2, 1) := by decide +kernel
theorem dX3_subtract_54 : decode cX3_subtract 54 = .ok (.aload_n 0, 1) := by decide +kernel
theorem dX3_subtract_55 : decode cX3_subtract 55 = .ok (.getfield 21, 3) := by decide +kernel
theorem dX3_subtract_58 : decode cX3_subtract 58 = .ok (.iload 4, 2) := by decide +kernel
theorem dX3_subtract_60 : decode cX3_subtract 60 = .ok (.lload_n 2, 1) := by decide +kernel
theorem dX3_subtract_61 : decode cX3_subtract 61 = .ok (.l2i, 1) := by decide +kernel
theorem dX3_subtract_62 : decode cX3_subtract 62 = .ok (.iastore, 1) := by decide +kernel
theorem dX3_subtract_63 : decode cX3_subtract 63 = .ok (.lload_n 2, 1) := by decide +kernel
theorem dX3_subtract_64 : decode cX3_subtract 64 = .ok (.bipush 32, 2) := by decide +kernel
theorem dX3_subtract_66 : decode cX3_subtract 66 = .ok (.lshr, 1) := by decide +kernel
theorem dX3_subtract_67 : decode cX3_subtract 67 = .ok (.lstore_n 2, 1) := by decide +kernel
theorem dX3_subtract_68 : decode cX3_subtract 68 = .ok (.iinc 4 1, 3) := by decide +kernel
theorem dX3_subtract_71 : decode cX3_subtract 71 = .ok (.goto (-66), 3) := by decide +kernel
theorem dX3_subtract_74 : decode cX3_subtract 74 = .ok (.aload_n 0, 1) := by decide +kernel
theorem dX3_subtract_75 : decode cX3_subtract 75 = .ok (.invokevirtual 25, 3) := by decide +kernel
theorem dX3_subtract_78 : decode cX3_subtract 78 = .ok (.return_, 1) := by decide +kernel
theorem dX3_scale_0 : decode cX3_scale 0 = .ok (.lconst 0, 1) := by decide +kernel
theorem dX3_scale_1 : decode cX3_scale 1 = .ok (.lstore_n 3, 1) := by decide +kernel
theorem dX3_scale_2 : decode cX3_scale 2 = .ok (.iconst 0, 1) := by decide +kernel
theorem dX3_scale_3 : decode cX3_scale 3 = .ok (.istore 5, 2) := by decide +kernel
theorem dX3_scale_5 : decode cX3_scale 5 = .ok (.iload 5, 2) := by decide +kernel
theorem dX3_scale_7 : decode cX3_scale 7 = .ok (.aload_n 0, 1) := by decide +kernel
theorem dX3_scale_8 : decode cX3_scale 8 = .ok (.getfield 9, 3) := by decide +kernel
theorem dX3_scale_11 : decode cX3_scale 11 = .ok (.if_icmp .ge 40, 3) := by decide +kernel
theorem dX3_scale_14 : decode cX3_scale 14 = .ok (.lload_n 3, 1) := by decide +kernel
theorem dX3_scale_15 : decode cX3_scale 15 = .ok (.aload_n 0, 1) := by decide +kernel
theorem dX3_scale_16 : decode cX3_scale 16 = .ok (.getfield 21, 3) := by decide +kernel
theorem dX3_scale_19 : decode cX3_scale 19 = .ok (.iload 5, 2) := by decide +kernel
theorem dX3_scale_21 : decode cX3_scale 21 = .ok (.iaload, 1) := by decide +kernel
theorem dX3_scale_22 : decode cX3_scale 22 = .ok (.i2l, 1) := by decide +kernel
theorem dX3_scale_23 : decode cX3_scale 23 = .ok (.ldc2_w 37, 3) := by decide +kernel
theorem dX3_scale_26 : decode cX3_scale 26 = .ok (.land, 1) := by decide +kernel
theorem dX3_scale_27 : decode cX3_scale 27 = .ok (.lload_n 1, 1) := by decide +kernel
theorem dX3_scale_28 : decode cX3_scale 28 = .ok (.lmul, 1) := by decide +kernel
theorem dX3_scale_29 : decode cX3_scale 29 = .ok (.ladd, 1) := by decide +kernel
theorem dX3_scale_30 : decode cX3_scale 30 = .ok (.lstore_n 3, 1) := by decide +kernel
theorem dX3_scale_31 : decode cX3_scale 31 = .ok (.aload_n 0, 1) := by decide +kernel
theorem dX3_scale_32 : decode cX3_scale 32 = .ok (.getfield 21, 3) := by decide +kernel
theorem dX3_scale_35 : decode cX3_scale 35 = .ok (.iload 5, 2) := by decide +kernel
theorem dX3_scale_37 : decode cX3_scale 37 = .ok (.lload_n 3, 1) := by decide +kernel
theorem dX3_scale_38 : decode cX3_scale 38 = .ok (.l2i, 1) := by decide +kernel
theorem dX3_scale_39 : decode cX3_scale 39 = .ok (.iastore, 1) := by decide +kernel
theorem dX3_scale_40 : decode cX3_scale 40 = .ok (.lload_n 3, 1) := by decide +kernel
theorem dX3_scale_41 : decode cX3_scale 41 = .ok (.bipush 32, 2) := by decide +kernel
theorem dX3_scale_43 : decode cX3_scale 43 = .ok (.lushr, 1) := by decide +kernel
theorem dX3_scale_44 : decode cX3_scale 44 = .ok (.lstore_n 3, 1) := by decide +kernel
theorem dX3_scale_45 : decode cX3_scale 45 = .ok (.iinc 5 1, 3) := by decide +kernel
theorem dX3_scale_48 : decode cX3_scale 48 = .ok (.goto (-43), 3) := by decide +kernel
theorem dX3_scale_51 : decode cX3_scale 51 = .ok (.lload_n 3, 1) := by decide +kernel
theorem dX3_scale_52 : decode cX3_scale 52 = .ok (.lconst 0, 1) := by decide +kernel
theorem dX3_scale_53 : decode cX3_scale 53 = .ok (.lcmp, 1) := by decide +kernel
theorem dX3_scale_54 : decode cX3_scale 54 = .ok (.ifCond .eq 36, 3) := by decide +kernel
theorem dX3_scale_57 : decode cX3_scale 57 = .ok (.aload_n 0, 1) := by decide +kernel
theorem dX3_scale_58 : decode cX3_scale 58 = .ok (.getfield 9, 3) := by decide +kernel
theorem dX3_scale_61 : decode cX3_scale 61 = .ok (.aload_n 0, 1) := by decide +kernel
theorem dX3_scale_62 : decode cX3_scale 62 = .ok (.getfield 21, 3) := by decide +kernel
theorem dX3_scale_65 : decode cX3_scale 65 = .ok (.arraylength, 1) := by decide +kernel
theorem dX3_scale_66 : decode cX3_scale 66 = .ok (.if_icmp .ge 24, 3) := by decide +kernel
theorem dX3_scale_69 : decode cX3_scale 69 = .ok (.aload_n 0, 1) := by decide +kernel
theorem dX3_scale_70 : decode cX3_scale 70 = .ok (.getfield 21, 3) := by decide +kernel
theorem dX3_scale_73 : decode cX3_scale 73 = .ok (.aload_n 0, 1) := by decide +kernel
theorem dX3_scale_74 : decode cX3_scale 74 = .ok (.getfield 9, 3) := by decide +kernel
theorem dX3_scale_77 : decode cX3_scale 77 = .ok (.lload_n 3, 1) := by decide +kernel
theorem dX3_scale_78 : decode cX3_scale 78 = .ok (.l2i, 1) := by decide +kernel
theorem dX3_scale_79 : decode cX3_scale 79 = .ok (.iastore, 1) := by decide +kernel
theorem dX3_scale_80 : decode cX3_scale 80 = .ok (.aload_n 0, 1) := by decide +kernel
theorem dX3_scale_81 : decode cX3_scale 81 = .ok (.dup, 1) := by decide +kernel
theorem dX3_scale_82 : decode cX3_scale 82 = .ok (.getfield 9, 3) := by decide +kernel
theorem dX3_scale_85 : decode cX3_scale 85 = .ok (.iconst 1, 1) := by decide +kernel
theorem dX3_scale_86 : decode cX3_scale 86 = .ok (.iadd, 1) := by decide +kernel
theorem dX3_scale_87 : decode cX3_scale 87 = .ok (.putfield 9, 3) := by decide +kernel
theorem dX3_scale_90 : decode cX3_scale 90 = .ok (.aload_n 0, 1) := by decide +kernel
theorem dX3_scale_91 : decode cX3_scale 91 = .ok (.invokevirtual 25, 3) := by decide +kernel
theorem dX3_scale_94 : decode cX3_scale 94 = .ok (.return_, 1) := by decide +kernel
theorem dX3_power_0 : decode cX3_power 0 = .ok (.aload_n 0, 1) := by decide +kernel
theorem dX3_power_1 : decode cX3_power 1 = .ok (.lconst 1, 1) := by decide +kernel
theorem dX3_power_2 : decode cX3_power 2 = .ok (.invokevirtual 51, 3) := by decide +kernel
theorem dX3_power_5 : decode cX3_power 5 = .ok (.iconst 0, 1) := by decide +kernel
theorem dX3_power_6 : decode cX3_power 6 = .ok (.istore_n 3, 1) := by decide +kernel
theorem dX3_power_7 : decode cX3_power 7 = .ok (.iload_n 3, 1) := by decide +kernel
theorem dX3_power_8 : decode cX3_power 8 = .ok (.iload_n 2, 1) := by decide +kernel
theorem dX3_power_9 : decode cX3_power 9 = .ok (.if_icmp .ge 15, 3) := by decide +kernel
theorem dX3_power_12 : decode cX3_power 12 = .ok (.aload_n 0, 1) := by decide +kernel
theorem dX3_power_13 : decode cX3_power 13 = .ok (.iload_n 1, 1) := by decide +kernel
theorem dX3_power_14 : decode cX3_power 14 = .ok (.i2l, 1) := by decide +kernel
theorem dX3_power_15 : decode cX3_power 15 = .ok (.invokevirtual 55, 3) := by decide +kernel
theorem dX3_power_18 : decode cX3_power 18 = .ok (.iinc 3 1, 3) := by decide +kernel
theorem dX3_power_21 : decode cX3_power 21 = .ok (.goto (-14), 3) := by decide +kernel
theorem dX3_power_24 : decode cX3_power 24 = .ok (.return_, 1) := by decide +kernel
theorem dX3_product_0 : decode cX3_product 0 = .ok (.aload_n 0, 1) := by decide +kernel
theorem dX3_product_1 : decode cX3_product 1 = .ok (.iconst 0, 1) := by decide +kernel
theorem dX3_product_2 : decode cX3_product 2 = .ok (.putfield 9, 3) := by decide +kernel
theorem dX3_product_5 : decode cX3_product 5 = .ok (.aload_n 0, 1) := by decide +kernel
theorem dX3_product_6 : decode cX3_product 6 = .ok (.aload_n 1, 1) := by decide +kernel
theorem dX3_product_7 : decode cX3_product 7 = .ok (.getfield 9, 3) := by decide +kernel
theorem dX3_product_10 : decode cX3_product 10 = .ok (.aload_n 2, 1) := by decide +kernel
theorem dX3_product_11 : decode cX3_product 11 = .ok (.getfield 9, 3) := by decide +kernel
theorem dX3_product_14 : decode cX3_product 14 = .ok (.iadd, 1) := by decide +kernel
theorem dX3_product_15 : decode cX3_product 15 = .ok (.invokevirtual 43, 3) := by decide +kernel
theorem dX3_product_18 : decode cX3_product 18 = .ok (.iconst 0, 1) := by decide +kernel
theorem dX3_product_19 : decode cX3_product 19 = .ok (.istore_n 3, 1) := by decide +kernel
theorem dX3_product_20 : decode cX3_product 20 = .ok (.iload_n 3, 1) := by decide +kernel
theorem dX3_product_21 : decode cX3_product 21 = .ok (.aload_n 1, 1) := by decide +kernel
theorem dX3_product_22 : decode cX3_product 22 = .ok (.getfield 9, 3) := by decide +kernel
theorem dX3_product_25 : decode cX3_product 25 = .ok (.if_icmp .ge 135, 3) := by decide +kernel
theorem dX3_product_28 : decode cX3_product 28 = .ok (.aload_n 1, 1) := by decide +kernel
theorem dX3_product_29 : decode cX3_product 29 = .ok (.getfield 21, 3) := by decide +kernel
theorem dX3_product_32 : decode cX3_product 32 = .ok (.iload_n 3, 1) := by decide +kernel
theorem dX3_product_33 : decode cX3_product 33 = .ok (.iaload, 1) := by decide +kernel
theorem dX3_product_34 : decode cX3_product 34 = .ok (.i2l, 1) := by decide +kernel
theorem dX3_product_35 : decode cX3_product 35 = .ok (.ldc2_w 37, 3) := by decide +kernel
theorem dX3_product_38 : decode cX3_product 38 = .ok (.land, 1) := by decide +kernel
theorem dX3_product_39 : decode cX3_product 39 = .ok (.lstore 4, 2) := by decide +kernel
theorem dX3_product_41 : decode cX3_product 41 = .ok (.lconst 0, 1) := by decide +kernel
theorem dX3_product_42 : decode cX3_product 42 = .ok (.lstore 6, 2) := by decide +kernel
theorem dX3_product_44 : decode cX3_product 44 = .ok (.iconst 0, 1) := by decide +kernel
theorem dX3_product_45 : decode cX3_product 45 = .ok (.istore 8, 2) := by decide +kernel
theorem dX3_product_47 : decode cX3_product 47 = .ok (.iload 8, 2) := by decide +kernel
theorem dX3_product_49 : decode cX3_product 49 = .ok (.aload_n 2, 1) := by decide +kernel
theorem dX3_product_50 : decode cX3_product 50 = .ok (.getfield 9, 3) := by decide +kernel
theorem dX3_product_53 : decode cX3_product 53 = .ok (.if_icmp .ge 74, 3) := by decide +kernel
theorem dX3_product_56 : decode cX3_product 56 = .ok (.iload_n 3, 1) := by decide +kernel
theorem dX3_product_57 : decode cX3_product 57 = .ok (.iload 8, 2) := by decide +kernel
theorem dX3_product_59 : decode cX3_product 59 = .ok (.iadd, 1) := by decide +kernel
theorem dX3_product_60 : decode cX3_product 60 = .ok (.aload_n 0, 1) := by decide +kernel
theorem dX3_product_61 : decode cX3_product 61 = .ok (.getfield 9, 3) := by decide +kernel
theorem dX3_product_64 : decode cX3_product 64 = .ok (.if_icmp .ge 63, 3) := by decide +kernel
theorem dX3_product_67 : decode cX3_product 67 = .ok (.lload 6, 2) := by decide +kernel
theorem dX3_product_69 : decode cX3_product 69 = .ok (.aload_n 2, 1) := by decide +kernel
theorem dX3_product_70 : decode cX3_product 70 = .ok (.getfield 21, 3) := by decide +kernel
theorem dX3_product_73 : decode cX3_product 73 = .ok (.iload 8, 2) := by decide +kernel
theorem dX3_product_75 : decode cX3_product 75 = .ok (.iaload, 1) := by decide +kernel
theorem dX3_product_76 : decode cX3_product 76 = .ok (.i2l, 1) := by decide +kernel
theorem dX3_product_77 : decode cX3_product 77 = .ok (.ldc2_w 37, 3) := by decide +kernel
theorem dX3_product_80 : decode cX3_product 80 = .ok (.land, 1) := by decide +kernel
theorem dX3_product_81 : decode cX3_product 81 = .ok (.lload 4, 2) := by decide +kernel
theorem dX3_product_83 : decode cX3_product 83 = .ok (.lmul, 1) := by decide +kernel
theorem dX3_product_84 : decode cX3_product 84 = .ok (.aload_n 0, 1) := by decide +kernel
theorem dX3_product_85 : decode cX3_product 85 = .ok (.getfield 21, 3) := by decide +kernel
theorem dX3_product_88 : decode cX3_product 88 = .ok (.iload_n 3, 1) := by decide +kernel
theorem dX3_product_89 : decode cX3_product 89 = .ok (.iload 8, 2) := by decide +kernel
theorem dX3_product_91 : decode cX3_product 91 = .ok (.iadd, 1) := by decide +kernel
theorem dX3_product_92 : decode cX3_product 92 = .ok (.iaload, 1) := by decide +kernel
theorem dX3_product_93 : decode cX3_product 93 = .ok (.i2l, 1) := by decide +kernel
theorem dX3_product_94 : decode cX3_product 94 = .ok (.ldc2_w 37, 3) := by decide +kernel
theorem dX3_product_97 : decode cX3_product 97 = .ok (.land, 1) := by decide +kernel
theorem dX3_product_98 : decode cX3_product 98 = .ok (.ladd, 1) := by decide +kernel
theorem dX3_product_99 : decode cX3_product 99 = .ok (.ladd, 1) := by decide +kernel
theorem dX3_product_100 : decode cX3_product 100 = .ok (.lstore 6, 2) := by decide +kernel
theorem dX3_product_102 : decode cX3_product 102 = .ok (.aload_n 0, 1) := by decide +kernel
theorem dX3_product_103 : decode cX3_product 103 = .ok (.getfield 21, 3) := by decide +kernel
theorem dX3_product_106 : decode cX3_product 106 = .ok (.iload_n 3, 1) := by decide +kernel
theorem dX3_product_107 : decode cX3_product 107 = .ok (.iload 8, 2) := by decide +kernel
theorem dX3_product_109 : decode cX3_product 109 = .ok (.iadd, 1) := by decide +kernel
theorem dX3_product_110 : decode cX3_product 110 = .ok (.lload 6, 2) := by decide +kernel
theorem dX3_product_112 : decode cX3_product 112 = .ok (.l2i, 1) := by decide +kernel
theorem dX3_product_113 : decode cX3_product 113 = .ok (.iastore, 1) := by decide +kernel
theorem dX3_product_114 : decode cX3_product 114 = .ok (.lload 6, 2) := by decide +kernel
theorem dX3_product_116 : decode cX3_product 116 = .ok (.bipush 32, 2) := by decide +kernel
theorem dX3_product_118 : decode cX3_product 118 = .ok (.lushr, 1) := by decide +kernel
theorem dX3_product_119 : decode cX3_product 119 = .ok (.lstore 6, 2) := by decide +kernel
theorem dX3_product_121 : decode cX3_product 121 = .ok (.iinc 8 1, 3) := by decide +kernel
theorem dX3_product_124 : decode cX3_product 124 = .ok (.goto (-77), 3) := by decide +kernel
theorem dX3_product_127 : decode cX3_product 127 = .ok (.iload_n 3, 1) := by decide +kernel
theorem dX3_product_128 : decode cX3_product 128 = .ok (.aload_n 2, 1) := by decide +kernel
theorem dX3_product_129 : decode cX3_product 129 = .ok (.getfield 9, 3) := by decide +kernel
theorem dX3_product_132 : decode cX3_product 132 = .ok (.iadd, 1) := by decide +kernel
theorem dX3_product_133 : decode cX3_product 133 = .ok (.aload_n 0, 1) := by decide +kernel
theorem dX3_product_134 : decode cX3_product 134 = .ok (.getfield 9, 3) := by decide +kernel
theorem dX3_product_137 : decode cX3_product 137 = .ok (.if_icmp .ge 17, 3) := by decide +kernel
theorem dX3_product_140 : decode cX3_product 140 = .ok (.aload_n 0, 1) := by decide +kernel
theorem dX3_product_141 : decode cX3_product 141 = .ok (.getfield 21, 3) := by decide +kernel
theorem dX3_product_144 : decode cX3_product 144 = .ok (.iload_n 3, 1) := by decide +kernel
theorem dX3_product_145 : decode cX3_product 145 = .ok (.aload_n 2, 1) := by decide +kernel
theorem dX3_product_146 : decode cX3_product 146 = .ok (.getfield 9, 3) := by decide +kernel
theorem dX3_product_149 : decode cX3_product 149 = .ok (.iadd, 1) := by decide +kernel
theorem dX3_product_150 : decode cX3_product 150 = .ok (.lload 6, 2) := by decide +kernel
theorem dX3_product_152 : decode cX3_product 152 = .ok (.l2i, 1) := by decide +kernel
theorem dX3_product_153 : decode cX3_product 153 = .ok (.iastore, 1) := by decide +kernel
theorem dX3_product_154 : decode cX3_product 154 = .ok (.iinc 3 1, 3) := by decide +kernel
theorem dX3_product_157 : decode cX3_product 157 = .ok (.goto (-137), 3) := by decide +kernel
theorem dX3_product_160 : decode cX3_product 160 = .ok (.aload_n 0, 1) := by decide +kernel
theorem dX3_product_161 : decode cX3_product 161 = .ok (.invokevirtual 25, 3) := by decide +kernel
theorem dX3_product_164 : decode cX3_product 164 = .ok (.return_, 1) := by decide +kernel
theorem dX3_shiftDown_0 : decode cX3_shiftDown 0 = .ok (.iconst 0, 1) := by decide +kernel
theorem dX3_shiftDown_1 : decode cX3_shiftDown 1 = .ok (.istore_n 2, 1) := by decide +kernel
theorem dX3_shiftDown_2 : decode cX3_shiftDown 2 = .ok (.iload_n 2, 1) := by decide +kernel
theorem dX3_shiftDown_3 : decode cX3_shiftDown 3 = .ok (.aload_n 0, 1) := by decide +kernel
theorem dX3_shiftDown_4 : decode cX3_shiftDown 4 = .ok (.getfield 9, 3) := by decide +kernel
theorem dX3_shiftDown_7 : decode cX3_shiftDown 7 = .ok (.if_icmp .ge 34, 3) := by decide +kernel
theorem dX3_shiftDown_10 : decode cX3_shiftDown 10 = .ok (.aload_n 0, 1) := by decide +kernel
theorem dX3_shiftDown_11 : decode cX3_shiftDown 11 = .ok (.getfield 21, 3) := by decide +kernel
theorem dX3_shiftDown_14 : decode cX3_shiftDown 14 = .ok (.iload_n 2, 1) := by decide +kernel
theorem dX3_shiftDown_15 : decode cX3_shiftDown 15 = .ok (.aload_n 0, 1) := by decide +kernel
theorem dX3_shiftDown_16 : decode cX3_shiftDown 16 = .ok (.iload_n 2, 1) := by decide +kernel
theorem dX3_shiftDown_17 : decode cX3_shiftDown 17 = .ok (.invokevirtual 39, 3) := by decide +kernel
theorem dX3_shiftDown_20 : decode cX3_shiftDown 20 = .ok (.aload_n 0, 1) := by decide +kernel
theorem dX3_shiftDown_21 : decode cX3_shiftDown 21 = .ok (.iload_n 2, 1) := by decide +kernel
theorem dX3_shiftDown_22 : decode cX3_shiftDown 22 = .ok (.iconst 1, 1) := by decide +kernel
theorem dX3_shiftDown_23 : decode cX3_shiftDown 23 = .ok (.iadd, 1) := by decide +kernel
theorem dX3_shiftDown_24 : decode cX3_shiftDown 24 = .ok (.invokevirtual 39, 3) := by decide +kernel
theorem dX3_shiftDown_27 : decode cX3_shiftDown 27 = .ok (.bipush 32, 2) := by decide +kernel
theorem dX3_shiftDown_29 : decode cX3_shiftDown 29 = .ok (.lshl, 1) := by decide +kernel
theorem dX3_shiftDown_30 : decode cX3_shiftDown 30 = .ok (.lor, 1) := by decide +kernel
theorem dX3_shiftDown_31 : decode cX3_shiftDown 31 = .ok (.iload_n 1, 1) := by decide +kernel
theorem dX3_shiftDown_32 : decode cX3_shiftDown 32 = .ok (.lushr, 1) := by decide +kernel
theorem dX3_shiftDown_33 : decode cX3_shiftDown 33 = .ok (.l2i, 1) := by decide +kernel
theorem dX3_shiftDown_34 : decode cX3_shiftDown 34 = .ok (.iastore, 1) := by decide +kernel
theorem dX3_shiftDown_35 : decode cX3_shiftDown 35 = .ok (.iinc 2 1, 3) := by decide +kernel
theorem dX3_shiftDown_38 : decode cX3_shiftDown 38 = .ok (.goto (-36), 3) := by decide +kernel
theorem dX3_shiftDown_41 : decode cX3_shiftDown 41 = .ok (.aload_n 0, 1) := by decide +kernel
theorem dX3_shiftDown_42 : decode cX3_shiftDown 42 = .ok (.invokevirtual 25, 3) := by decide +kernel
theorem dX3_shiftDown_45 : decode cX3_shiftDown 45 = .ok (.return_, 1) := by decide +kernel
theorem dX1_init_0 : decode cX1_init 0 = .ok (.aload_n 0, 1) := by decide +kernel
theorem dX1_init_1 : decode cX1_init 1 = .ok (.invokespecial 1, 3) := by decide +kernel
theorem dX1_init_4 : decode cX1_init 4 = .ok (.aload_n 0, 1) := by decide +kernel
theorem dX1_init_5 : decode cX1_init 5 = .ok (.iconst 0, 1) := by decide +kernel
theorem dX1_init_6 : decode cX1_init 6 = .ok (.putfield 7, 3) := by decide +kernel
theorem dX1_init_9 : decode cX1_init 9 = .ok (.aload_n 0, 1) := by decide +kernel
theorem dX1_init_10 : decode cX1_init 10 = .ok (.new 13, 3) := by decide +kernel
theorem dX1_init_13 : decode cX1_init 13 = .ok (.dup, 1) := by decide +kernel
theorem dX1_init_14 : decode cX1_init 14 = .ok (.iload_n 1, 1) := by decide +kernel
theorem dX1_init_15 : decode cX1_init 15 = .ok (.invokespecial 15, 3) := by decide +kernel
theorem dX1_init_18 : decode cX1_init 18 = .ok (.putfield 18, 3) := by decide +kernel
theorem dX1_init_21 : decode cX1_init 21 = .ok (.aload_n 0, 1) := by decide +kernel
theorem dX1_init_22 : decode cX1_init 22 = .ok (.new 13, 3) := by decide +kernel
theorem dX1_init_25 : decode cX1_init 25 = .ok (.dup, 1) := by decide +kernel
theorem dX1_init_26 : decode cX1_init 26 = .ok (.iload_n 1, 1) := by decide +kernel
theorem dX1_init_27 : decode cX1_init 27 = .ok (.invokespecial 15, 3) := by decide +kernel
theorem dX1_init_30 : decode cX1_init 30 = .ok (.putfield 22, 3) := by decide +kernel
theorem dX1_init_33 : decode cX1_init 33 = .ok (.return_, 1) := by decide +kernel
theorem dX1_half_0 : decode cX1_half 0 = .ok (.iload_n 1, 1) := by decide +kernel
theorem dX1_half_1 : decode cX1_half 1 = .ok (.ifCond .ne 10, 3) := by decide +kernel
theorem dX1_half_4 : decode cX1_half 4 = .ok (.aload_n 0, 1) := by decide +kernel
theorem dX1_half_5 : decode cX1_half 5 = .ok (.getfield 18, 3) := by decide +kernel
theorem dX1_half_8 : decode cX1_half 8 = .ok (.goto 7, 3) := by decide +kernel
theorem dX1_half_11 : decode cX1_half 11 = .ok (.aload_n 0, 1) := by decide +kernel
theorem dX1_half_12 : decode cX1_half 12 = .ok (.getfield 22, 3) := by decide +kernel
theorem dX1_half_15 : decode cX1_half 15 = .ok (.areturn, 1) := by decide +kernel
theorem dX1_put_0 : decode cX1_put 0 = .ok (.aload_n 0, 1) := by decide +kernel
theorem dX1_put_1 : decode cX1_put 1 = .ok (.getfield 18, 3) := by decide +kernel
theorem dX1_put_4 : decode cX1_put 4 = .ok (.iload_n 1, 1) := by decide +kernel
theorem dX1_put_5 : decode cX1_put 5 = .ok (.i2l, 1) := by decide +kernel
theorem dX1_put_6 : decode cX1_put 6 = .ok (.invokevirtual 25, 3) := by decide +kernel
theorem dX1_put_9 : decode cX1_put 9 = .ok (.aload_n 0, 1) := by decide +kernel
theorem dX1_put_10 : decode cX1_put 10 = .ok (.getfield 22, 3) := by decide +kernel
theorem dX1_put_13 : decode cX1_put 13 = .ok (.iload_n 2, 1) := by decide +kernel
theorem dX1_put_14 : decode cX1_put 14 = .ok (.i2l, 1) := by decide +kernel
theorem dX1_put_15 : decode cX1_put 15 = .ok (.invokevirtual 25, 3) := by decide +kernel
theorem dX1_put_18 : decode cX1_put 18 = .ok (.return_, 1) := by decide +kernel
theorem dX1_copy_0 : decode cX1_copy 0 = .ok (.aload_n 0, 1) := by decide +kernel
theorem dX1_copy_1 : decode cX1_copy 1 = .ok (.getfield 18, 3) := by decide +kernel
theorem dX1_copy_4 : decode cX1_copy 4 = .ok (.aload_n 1, 1) := by decide +kernel
theorem dX1_copy_5 : decode cX1_copy 5 = .ok (.getfield 18, 3) := by decide +kernel
theorem dX1_copy_8 : decode cX1_copy 8 = .ok (.invokevirtual 29, 3) := by decide +kernel
theorem dX1_copy_11 : decode cX1_copy 11 = .ok (.aload_n 0, 1) := by decide +kernel
theorem dX1_copy_12 : decode cX1_copy 12 = .ok (.getfield 22, 3) := by decide +kernel
theorem dX1_copy_15 : decode cX1_copy 15 = .ok (.aload_n 1, 1) := by decide +kernel
theorem dX1_copy_16 : decode cX1_copy 16 = .ok (.getfield 22, 3) := by decide +kernel
theorem dX1_copy_19 : decode cX1_copy 19 = .ok (.invokevirtual 29, 3) := by decide +kernel
theorem dX1_copy_22 : decode cX1_copy 22 = .ok (.return_, 1) := by decide +kernel
theorem dX1_capAtOne_0 : decode cX1_capAtOne 0 = .ok (.aload_n 0, 1) := by decide +kernel
theorem dX1_capAtOne_1 : decode cX1_capAtOne 1 = .ok (.getfield 18, 3) := by decide +kernel
theorem dX1_capAtOne_4 : decode cX1_capAtOne 4 = .ok (.aload_n 0, 1) := by decide +kernel
theorem dX1_capAtOne_5 : decode cX1_capAtOne 5 = .ok (.getfield 22, 3) := by decide +kernel
theorem dX1_capAtOne_8 : decode cX1_capAtOne 8 = .ok (.invokevirtual 33, 3) := by decide +kernel
theorem dX1_capAtOne_11 : decode cX1_capAtOne 11 = .ok (.ifCond .le 9, 3) := by decide +kernel
theorem dX1_capAtOne_14 : decode cX1_capAtOne 14 = .ok (.aload_n 0, 1) := by decide +kernel
theorem dX1_capAtOne_15 : decode cX1_capAtOne 15 = .ok (.iconst 1, 1) := by decide +kernel
theorem dX1_capAtOne_16 : decode cX1_capAtOne 16 = .ok (.iconst 1, 1) := by decide +kernel
theorem dX1_capAtOne_17 : decode cX1_capAtOne 17 = .ok (.invokevirtual 37, 3) := by decide +kernel
theorem dX1_capAtOne_20 : decode cX1_capAtOne 20 = .ok (.return_, 1) := by decide +kernel
theorem dX1_addUp_0 : decode cX1_addUp 0 = .ok (.aload_n 0, 1) := by decide +kernel
theorem dX1_addUp_1 : decode cX1_addUp 1 = .ok (.getfield 18, 3) := by decide +kernel
theorem dX1_addUp_4 : decode cX1_addUp 4 = .ok (.aload_n 1, 1) := by decide +kernel
theorem dX1_addUp_5 : decode cX1_addUp 5 = .ok (.getfield 18, 3) := by decide +kernel
theorem dX1_addUp_8 : decode cX1_addUp 8 = .ok (.aload_n 2, 1) := by decide +kernel
theorem dX1_addUp_9 : decode cX1_addUp 9 = .ok (.getfield 22, 3) := by decide +kernel
theorem dX1_addUp_12 : decode cX1_addUp 12 = .ok (.invokevirtual 40, 3) := by decide +kernel
theorem dX1_addUp_15 : decode cX1_addUp 15 = .ok (.aload_n 3, 1) := by decide +kernel
theorem dX1_addUp_16 : decode cX1_addUp 16 = .ok (.aload_n 2, 1) := by decide +kernel
theorem dX1_addUp_17 : decode cX1_addUp 17 = .ok (.getfield 18, 3) := by decide +kernel
theorem dX1_addUp_20 : decode cX1_addUp 20 = .ok (.aload_n 1, 1) := by decide +kernel
theorem dX1_addUp_21 : decode cX1_addUp 21 = .ok (.getfield 22, 3) := by decide +kernel
theorem dX1_addUp_24 : decode cX1_addUp 24 = .ok (.invokevirtual 40, 3) := by decide +kernel
theorem dX1_addUp_27 : decode cX1_addUp 27 = .ok (.aload_n 0, 1) := by decide +kernel
theorem dX1_addUp_28 : decode cX1_addUp 28 = .ok (.getfield 18, 3) := by decide +kernel
theorem dX1_addUp_31 : decode cX1_addUp 31 = .ok (.aload_n 3, 1) := by decide +kernel
theorem dX1_addUp_32 : decode cX1_addUp 32 = .ok (.invokevirtual 44, 3) := by decide +kernel
theorem dX1_addUp_35 : decode cX1_addUp 35 = .ok (.aload_n 0, 1) := by decide +kernel
theorem dX1_addUp_36 : decode cX1_addUp 36 = .ok (.getfield 22, 3) := by decide +kernel
theorem dX1_addUp_39 : decode cX1_addUp 39 = .ok (.aload_n 1, 1) := by decide +kernel
theorem dX1_addUp_40 : decode cX1_addUp 40 = .ok (.getfield 22, 3) := by decide +kernel
theorem dX1_addUp_43 : decode cX1_addUp 43 = .ok (.aload_n 2, 1) := by decide +kernel
theorem dX1_addUp_44 : decode cX1_addUp 44 = .ok (.getfield 22, 3) := by decide +kernel
theorem dX1_addUp_47 : decode cX1_addUp 47 = .ok (.invokevirtual 40, 3) := by decide +kernel
theorem dX1_addUp_50 : decode cX1_addUp 50 = .ok (.return_, 1) := by decide +kernel
theorem dX1_multiply_0 : decode cX1_multiply 0 = .ok (.aload_n 0, 1) := by decide +kernel
theorem dX1_multiply_1 : decode cX1_multiply 1 = .ok (.getfield 18, 3) := by decide +kernel
theorem dX1_multiply_4 : decode cX1_multiply 4 = .ok (.aload_n 1, 1) := by decide +kernel
theorem dX1_multiply_5 : decode cX1_multiply 5 = .ok (.getfield 18, 3) := by decide +kernel
theorem dX1_multiply_8 : decode cX1_multiply 8 = .ok (.aload_n 2, 1) := by decide +kernel
theorem dX1_multiply_9 : decode cX1_multiply 9 = .ok (.getfield 18, 3) := by decide +kernel
theorem dX1_multiply_12 : decode cX1_multiply 12 = .ok (.invokevirtual 40, 3) := by decide +kernel
theorem dX1_multiply_15 : decode cX1_multiply 15 = .ok (.aload_n 0, 1) := by decide +kernel
theorem dX1_multiply_16 : decode cX1_multiply 16 = .ok (.getfield 22, 3) := by decide +kernel
theorem dX1_multiply_19 : decode cX1_multiply 19 = .ok (.aload_n 1, 1) := by decide +kernel
theorem dX1_multiply_20 : decode cX1_multiply 20 = .ok (.getfield 22, 3) := by decide +kernel
theorem dX1_multiply_23 : decode cX1_multiply 23 = .ok (.aload_n 2, 1) := by decide +kernel
theorem dX1_multiply_24 : decode cX1_multiply 24 = .ok (.getfield 22, 3) := by decide +kernel
theorem dX1_multiply_27 : decode cX1_multiply 27 = .ok (.invokevirtual 40, 3) := by decide +kernel
theorem dX1_multiply_30 : decode cX1_multiply 30 = .ok (.return_, 1) := by decide +kernel
theorem dX1_lessThanOne_0 : decode cX1_lessThanOne 0 = .ok (.aload_n 0, 1) := by decide +kernel
theorem dX1_lessThanOne_1 : decode cX1_lessThanOne 1 = .ok (.getfield 22, 3) := by decide +kernel
theorem dX1_lessThanOne_4 : decode cX1_lessThanOne 4 = .ok (.aload_n 1, 1) := by decide +kernel
theorem dX1_lessThanOne_5 : decode cX1_lessThanOne 5 = .ok (.getfield 22, 3) := by decide +kernel
theorem dX1_lessThanOne_8 : decode cX1_lessThanOne 8 = .ok (.invokevirtual 29, 3) := by decide +kernel
theorem dX1_lessThanOne_11 : decode cX1_lessThanOne 11 = .ok (.aload_n 0, 1) := by decide +kernel
theorem dX1_lessThanOne_12 : decode cX1_lessThanOne 12 = .ok (.getfield 18, 3) := by decide +kernel
theorem dX1_lessThanOne_15 : decode cX1_lessThanOne 15 = .ok (.invokevirtual 47, 3) := by decide +kernel
theorem dX1_lessThanOne_18 : decode cX1_lessThanOne 18 = .ok (.aload_n 1, 1) := by decide +kernel
theorem dX1_lessThanOne_19 : decode cX1_lessThanOne 19 = .ok (.getfield 18, 3) := by decide +kernel
theorem dX1_lessThanOne_22 : decode cX1_lessThanOne 22 = .ok (.aload_n 1, 1) := by decide +kernel
theorem dX1_lessThanOne_23 : decode cX1_lessThanOne 23 = .ok (.getfield 22, 3) := by decide +kernel
theorem dX1_lessThanOne_26 : decode cX1_lessThanOne 26 = .ok (.invokevirtual 33, 3) := by decide +kernel
theorem dX1_lessThanOne_29 : decode cX1_lessThanOne 29 = .ok (.ifCond .ge 25, 3) := by decide +kernel
theorem dX1_lessThanOne_32 : decode cX1_lessThanOne 32 = .ok (.aload_n 0, 1) := by decide +kernel
theorem dX1_lessThanOne_33 : decode cX1_lessThanOne 33 = .ok (.getfield 18, 3) := by decide +kernel
theorem dX1_lessThanOne_36 : decode cX1_lessThanOne 36 = .ok (.aload_n 1, 1) := by decide +kernel
theorem dX1_lessThanOne_37 : decode cX1_lessThanOne 37 = .ok (.getfield 22, 3) := by decide +kernel
theorem dX1_lessThanOne_40 : decode cX1_lessThanOne 40 = .ok (.invokevirtual 29, 3) := by decide +kernel
theorem dX1_lessThanOne_43 : decode cX1_lessThanOne 43 = .ok (.aload_n 0, 1) := by decide +kernel
theorem dX1_lessThanOne_44 : decode cX1_lessThanOne 44 = .ok (.getfield 18, 3) := by decide +kernel
theorem dX1_lessThanOne_47 : decode cX1_lessThanOne 47 = .ok (.aload_n 1, 1) := by decide +kernel
theorem dX1_lessThanOne_48 : decode cX1_lessThanOne 48 = .ok (.getfield 18, 3) := by decide +kernel
theorem dX1_lessThanOne_51 : decode cX1_lessThanOne 51 = .ok (.invokevirtual 50, 3) := by decide +kernel
theorem dX1_lessThanOne_54 : decode cX1_lessThanOne 54 = .ok (.return_, 1) := by decide +kernel
theorem dX4_init_0 : decode cX4_init 0 = .ok (.aload_n 0, 1) := by decide +kernel
theorem dX4_init_1 : decode cX4_init 1 = .ok (.invokespecial 3, 3) := by decide +kernel
theorem dX4_init_4 : decode cX4_init 4 = .ok (.aload_n 0, 1) := by decide +kernel
theorem dX4_init_5 : decode cX4_init 5 = .ok (.iconst 0, 1) := by decide +kernel
theorem dX4_init_6 : decode cX4_init 6 = .ok (.iload_n 1, 1) := by decide +kernel
theorem dX4_init_7 : decode cX4_init 7 = .ok (.bipush 120, 2) := by decide +kernel
theorem dX4_init_9 : decode cX4_init 9 = .ok (.invokestatic 9, 3) := by decide +kernel
theorem dX4_init_12 : decode cX4_init 12 = .ok (.invokestatic 15, 3) := by decide +kernel
theorem dX4_init_15 : decode cX4_init 15 = .ok (.putfield 18, 3) := by decide +kernel
theorem dX4_init_18 : decode cX4_init 18 = .ok (.aload_n 0, 1) := by decide +kernel
theorem dX4_init_19 : decode cX4_init 19 = .ok (.iconst 1, 1) := by decide +kernel
theorem dX4_init_20 : decode cX4_init 20 = .ok (.iload_n 2, 1) := by decide +kernel
theorem dX4_init_21 : decode cX4_init 21 = .ok (.bipush 8, 2) := by decide +kernel
theorem dX4_init_23 : decode cX4_init 23 = .ok (.invokestatic 9, 3) := by decide +kernel
theorem dX4_init_26 : decode cX4_init 26 = .ok (.invokestatic 15, 3) := by decide +kernel
theorem dX4_init_29 : decode cX4_init 29 = .ok (.putfield 24, 3) := by decide +kernel
theorem dX4_init_32 : decode cX4_init 32 = .ok (.aload_n 0, 1) := by decide +kernel
theorem dX4_init_33 : decode cX4_init 33 = .ok (.aload_n 0, 1) := by decide +kernel
theorem dX4_init_34 : decode cX4_init 34 = .ok (.getfield 18, 3) := by decide +kernel
theorem dX4_init_37 : decode cX4_init 37 = .ok (.iconst 1, 1) := by decide +kernel
theorem dX4_init_38 : decode cX4_init 38 = .ok (.iadd, 1) := by decide +kernel
theorem dX4_init_39 : decode cX4_init 39 = .ok (.aload_n 0, 1) := by decide +kernel
theorem dX4_init_40 : decode cX4_init 40 = .ok (.getfield 24, 3) := by decide +kernel
theorem dX4_init_43 : decode cX4_init 43 = .ok (.imul, 1) := by decide +kernel
theorem dX4_init_44 : decode cX4_init 44 = .ok (.newarray .int, 2) := by decide +kernel
theorem dX4_init_46 : decode cX4_init 46 = .ok (.putfield 27, 3) := by decide +kernel
theorem dX4_init_49 : decode cX4_init 49 = .ok (.return_, 1) := by decide +kernel
theorem dX4_lacks_0 : decode cX4_lacks 0 = .ok (.iload_n 1, 1) := by decide +kernel
theorem dX4_lacks_1 : decode cX4_lacks 1 = .ok (.ifCond .lt 11, 3) := by decide +kernel
theorem dX4_lacks_4 : decode cX4_lacks 4 = .ok (.iload_n 1, 1) := by decide +kernel
theorem dX4_lacks_5 : decode cX4_lacks 5 = .ok (.aload_n 0, 1) := by decide +kernel
theorem dX4_lacks_6 : decode cX4_lacks 6 = .ok (.getfield 18, 3) := by decide +kernel
theorem dX4_lacks_9 : decode cX4_lacks 9 = .ok (.if_icmp .le 7, 3) := by decide +kernel
theorem dX4_lacks_12 : decode cX4_lacks 12 = .ok (.iconst 1, 1) := by decide +kernel
theorem dX4_lacks_13 : decode cX4_lacks 13 = .ok (.goto 4, 3) := by decide +kernel
theorem dX4_lacks_16 : decode cX4_lacks 16 = .ok (.iconst 0, 1) := by decide +kernel
theorem dX4_lacks_17 : decode cX4_lacks 17 = .ok (.ireturn, 1) := by decide +kernel
theorem dX4_word_0 : decode cX4_word 0 = .ok (.aload_n 0, 1) := by decide +kernel
theorem dX4_word_1 : decode cX4_word 1 = .ok (.iload_n 1, 1) := by decide +kernel
theorem dX4_word_2 : decode cX4_word 2 = .ok (.invokevirtual 31, 3) := by decide +kernel
theorem dX4_word_5 : decode cX4_word 5 = .ok (.ifCond .ne 15, 3) := by decide +kernel
theorem dX4_word_8 : decode cX4_word 8 = .ok (.iload_n 2, 1) := by decide +kernel
theorem dX4_word_9 : decode cX4_word 9 = .ok (.ifCond .lt 11, 3) := by decide +kernel
theorem dX4_word_12 : decode cX4_word 12 = .ok (.iload_n 2, 1) := by decide +kernel
theorem dX4_word_13 : decode cX4_word 13 = .ok (.aload_n 0, 1) := by decide +kernel
theorem dX4_word_14 : decode cX4_word 14 = .ok (.getfield 24, 3) := by decide +kernel
theorem dX4_word_17 : decode cX4_word 17 = .ok (.if_icmp .lt 7, 3) := by decide +kernel
theorem dX4_word_20 : decode cX4_word 20 = .ok (.lconst 0, 1) := by decide +kernel
theorem dX4_word_21 : decode cX4_word 21 = .ok (.goto 21, 3) := by decide +kernel
theorem dX4_word_24 : decode cX4_word 24 = .ok (.aload_n 0, 1) := by decide +kernel
theorem dX4_word_25 : decode cX4_word 25 = .ok (.getfield 27, 3) := by decide +kernel
theorem dX4_word_28 : decode cX4_word 28 = .ok (.iload_n 1, 1) := by decide +kernel
theorem dX4_word_29 : decode cX4_word 29 = .ok (.aload_n 0, 1) := by decide +kernel
theorem dX4_word_30 : decode cX4_word 30 = .ok (.getfield 24, 3) := by decide +kernel
theorem dX4_word_33 : decode cX4_word 33 = .ok (.imul, 1) := by decide +kernel
theorem dX4_word_34 : decode cX4_word 34 = .ok (.iload_n 2, 1) := by decide +kernel
theorem dX4_word_35 : decode cX4_word 35 = .ok (.iadd, 1) := by decide +kernel
theorem dX4_word_36 : decode cX4_word 36 = .ok (.iaload, 1) := by decide +kernel
theorem dX4_word_37 : decode cX4_word 37 = .ok (.i2l, 1) := by decide +kernel
theorem dX4_word_38 : decode cX4_word 38 = .ok (.ldc2_w 35, 3) := by decide +kernel
theorem dX4_word_41 : decode cX4_word 41 = .ok (.land, 1) := by decide +kernel
theorem dX4_word_42 : decode cX4_word 42 = .ok (.lreturn, 1) := by decide +kernel
theorem dX4_write_0 : decode cX4_write 0 = .ok (.aload_n 0, 1) := by decide +kernel
theorem dX4_write_1 : decode cX4_write 1 = .ok (.iload_n 1, 1) := by decide +kernel
theorem dX4_write_2 : decode cX4_write 2 = .ok (.invokevirtual 31, 3) := by decide +kernel
theorem dX4_write_5 : decode cX4_write 5 = .ok (.ifCond .eq 4, 3) := by decide +kernel
theorem dX4_write_8 : decode cX4_write 8 = .ok (.return_, 1) := by decide +kernel
theorem dX4_write_9 : decode cX4_write 9 = .ok (.aload_n 0, 1) := by decide +kernel
theorem dX4_write_10 : decode cX4_write 10 = .ok (.getfield 27, 3) := by decide +kernel
theorem dX4_write_13 : decode cX4_write 13 = .ok (.iload_n 1, 1) := by decide +kernel
theorem dX4_write_14 : decode cX4_write 14 = .ok (.aload_n 0, 1) := by decide +kernel
theorem dX4_write_15 : decode cX4_write 15 = .ok (.getfield 24, 3) := by decide +kernel
theorem dX4_write_18 : decode cX4_write 18 = .ok (.imul, 1) := by decide +kernel
theorem dX4_write_19 : decode cX4_write 19 = .ok (.lload_n 2, 1) := by decide +kernel
theorem dX4_write_20 : decode cX4_write 20 = .ok (.l2i, 1) := by decide +kernel
theorem dX4_write_21 : decode cX4_write 21 = .ok (.iastore, 1) := by decide +kernel
theorem dX4_write_22 : decode cX4_write 22 = .ok (.aload_n 0, 1) := by decide +kernel
theorem dX4_write_23 : decode cX4_write 23 = .ok (.getfield 24, 3) := by decide +kernel
theorem dX4_write_26 : decode cX4_write 26 = .ok (.iconst 1, 1) := by decide +kernel
theorem dX4_write_27 : decode cX4_write 27 = .ok (.if_icmp .le 21, 3) := by decide +kernel
theorem dX4_write_30 : decode cX4_write 30 = .ok (.aload_n 0, 1) := by decide +kernel
theorem dX4_write_31 : decode cX4_write 31 = .ok (.getfield 27, 3) := by decide +kernel
theorem dX4_write_34 : decode cX4_write 34 = .ok (.iload_n 1, 1) := by decide +kernel
theorem dX4_write_35 : decode cX4_write 35 = .ok (.aload_n 0, 1) := by decide +kernel
theorem dX4_write_36 : decode cX4_write 36 = .ok (.getfield 24, 3) := by decide +kernel
theorem dX4_write_39 : decode cX4_write 39 = .ok (.imul, 1) := by decide +kernel
theorem dX4_write_40 : decode cX4_write 40 = .ok (.iconst 1, 1) := by decide +kernel
theorem dX4_write_41 : decode cX4_write 41 = .ok (.iadd, 1) := by decide +kernel
theorem dX4_write_42 : decode cX4_write 42 = .ok (.lload_n 2, 1) := by decide +kernel
theorem dX4_write_43 : decode cX4_write 43 = .ok (.bipush 32, 2) := by decide +kernel
theorem dX4_write_45 : decode cX4_write 45 = .ok (.lushr, 1) := by decide +kernel
theorem dX4_write_46 : decode cX4_write 46 = .ok (.l2i, 1) := by decide +kernel
theorem dX4_write_47 : decode cX4_write 47 = .ok (.iastore, 1) := by decide +kernel
theorem dX4_write_48 : decode cX4_write 48 = .ok (.return_, 1) := by decide +kernel
theorem dX4_erase_0 : decode cX4_erase 0 = .ok (.iconst 0, 1) := by decide +kernel
theorem dX4_erase_1 : decode cX4_erase 1 = .ok (.istore_n 2, 1) := by decide +kernel
theorem dX4_erase_2 : decode cX4_erase 2 = .ok (.iload_n 2, 1) := by decide +kernel
theorem dX4_erase_3 : decode cX4_erase 3 = .ok (.aload_n 0, 1) := by decide +kernel
theorem dX4_erase_4 : decode cX4_erase 4 = .ok (.getfield 24, 3) := by decide +kernel
theorem dX4_erase_7 : decode cX4_erase 7 = .ok (.if_icmp .ge 31, 3) := by decide +kernel
theorem dX4_erase_10 : decode cX4_erase 10 = .ok (.aload_n 0, 1) := by decide +kernel
theorem dX4_erase_11 : decode cX4_erase 11 = .ok (.iload_n 1, 1) := by decide +kernel
theorem dX4_erase_12 : decode cX4_erase 12 = .ok (.invokevirtual 31, 3) := by decide +kernel
theorem dX4_erase_15 : decode cX4_erase 15 = .ok (.ifCond .ne 23, 3) := by decide +kernel
theorem dX4_erase_18 : decode cX4_erase 18 = .ok (.aload_n 0, 1) := by decide +kernel
theorem dX4_erase_19 : decode cX4_erase 19 = .ok (.getfield 27, 3) := by decide +kernel
theorem dX4_erase_22 : decode cX4_erase 22 = .ok (.iload_n 1, 1) := by decide +kernel
theorem dX4_erase_23 : decode cX4_erase 23 = .ok (.aload_n 0, 1) := by decide +kernel
theorem dX4_erase_24 : decode cX4_erase 24 = .ok (.getfield 24, 3) := by decide +kernel
theorem dX4_erase_27 : decode cX4_erase 27 = .ok (.imul, 1) := by decide +kernel
theorem dX4_erase_28 : decode cX4_erase 28 = .ok (.iload_n 2, 1) := by decide +kernel
theorem dX4_erase_29 : decode cX4_erase 29 = .ok (.iadd, 1) := by decide +kernel
theorem dX4_erase_30 : decode cX4_erase 30 = .ok (.iconst 0, 1) := by decide +kernel
theorem dX4_erase_31 : decode cX4_erase 31 = .ok (.iastore, 1) := by decide +kernel
theorem dX4_erase_32 : decode cX4_erase 32 = .ok (.iinc 2 1, 3) := by decide +kernel
theorem dX4_erase_35 : decode cX4_erase 35 = .ok (.goto (-33), 3) := by decide +kernel
theorem dX4_erase_38 : decode cX4_erase 38 = .ok (.return_, 1) := by decide +kernel
theorem dX4_startAnew_0 : decode cX4_startAnew 0 = .ok (.aload_n 0, 1) := by decide +kernel
theorem dX4_startAnew_1 : decode cX4_startAnew 1 = .ok (.getfield 27, 3) := by decide +kernel
theorem dX4_startAnew_4 : decode cX4_startAnew 4 = .ok (.iconst 0, 1) := by decide +kernel
theorem dX4_startAnew_5 : decode cX4_startAnew 5 = .ok (.invokestatic 37, 3) := by decide +kernel
theorem dX4_startAnew_8 : decode cX4_startAnew 8 = .ok (.aload_n 0, 1) := by decide +kernel
theorem dX4_startAnew_9 : decode cX4_startAnew 9 = .ok (.getfield 27, 3) := by decide +kernel
theorem dX4_startAnew_12 : decode cX4_startAnew 12 = .ok (.iconst 0, 1) := by decide +kernel
theorem dX4_startAnew_13 : decode cX4_startAnew 13 = .ok (.iconst 1, 1) := by decide +kernel
theorem dX4_startAnew_14 : decode cX4_startAnew 14 = .ok (.iastore, 1) := by decide +kernel
theorem dX4_startAnew_15 : decode cX4_startAnew 15 = .ok (.return_, 1) := by decide +kernel
theorem dX4_isZero_0 : decode cX4_isZero 0 = .ok (.iconst 0, 1) := by decide +kernel
theorem dX4_isZero_1 : decode cX4_isZero 1 = .ok (.istore_n 2, 1) := by decide +kernel
theorem dX4_isZero_2 : decode cX4_isZero 2 = .ok (.iload_n 2, 1) := by decide +kernel
theorem dX4_isZero_3 : decode cX4_isZero 3 = .ok (.aload_n 0, 1) := by decide +kernel
theorem dX4_isZero_4 : decode cX4_isZero 4 = .ok (.getfield 24, 3) := by decide +kernel
theorem dX4_isZero_7 : decode cX4_isZero 7 = .ok (.if_icmp .ge 22, 3) := by decide +kernel
theorem dX4_isZero_10 : decode cX4_isZero 10 = .ok (.aload_n 0, 1) := by decide +kernel
theorem dX4_isZero_11 : decode cX4_isZero 11 = .ok (.iload_n 1, 1) := by decide +kernel
theorem dX4_isZero_12 : decode cX4_isZero 12 = .ok (.iload_n 2, 1) := by decide +kernel
theorem dX4_isZero_13 : decode cX4_isZero 13 = .ok (.invokevirtual 43, 3) := by decide +kernel
theorem dX4_isZero_16 : decode cX4_isZero 16 = .ok (.lconst 0, 1) := by decide +kernel
theorem dX4_isZero_17 : decode cX4_isZero 17 = .ok (.lcmp, 1) := by decide +kernel
theorem dX4_isZero_18 : decode cX4_isZero 18 = .ok (.ifCond .eq 5, 3) := by decide +kernel
theorem dX4_isZero_21 : decode cX4_isZero 21 = .ok (.iconst 0, 1) := by decide +kernel
theorem dX4_isZero_22 : decode cX4_isZero 22 = .ok (.ireturn, 1) := by decide +kernel
theorem dX4_isZero_23 : decode cX4_isZero 23 = .ok (.iinc 2 1, 3) := by decide +kernel
theorem dX4_isZero_26 : decode cX4_isZero 26 = .ok (.goto (-24), 3) := by decide +kernel
theorem dX4_isZero_29 : decode cX4_isZero 29 = .ok (.iconst 1, 1) := by decide +kernel
theorem dX4_isZero_30 : decode cX4_isZero 30 = .ok (.ireturn, 1) := by decide +kernel
theorem dX4_zeros_0 : decode cX4_zeros 0 = .ok (.iconst 0, 1) := by decide +kernel
theorem dX4_zeros_1 : decode cX4_zeros 1 = .ok (.istore_n 1, 1) := by decide +kernel
theorem dX4_zeros_2 : decode cX4_zeros 2 = .ok (.iconst 0, 1) := by decide +kernel
theorem dX4_zeros_3 : decode cX4_zeros 3 = .ok (.istore_n 2, 1) := by decide +kernel
theorem dX4_zeros_4 : decode cX4_zeros 4 = .ok (.iload_n 2, 1) := by decide +kernel
theorem dX4_zeros_5 : decode cX4_zeros 5 = .ok (.aload_n 0, 1) := by decide +kernel
theorem dX4_zeros_6 : decode cX4_zeros 6 = .ok (.getfield 18, 3) := by decide +kernel
theorem dX4_zeros_9 : decode cX4_zeros 9 = .ok (.if_icmp .gt 20, 3) := by decide +kernel
theorem dX4_zeros_12 : decode cX4_zeros 12 = .ok (.aload_n 0, 1) := by decide +kernel
theorem dX4_zeros_13 : decode cX4_zeros 13 = .ok (.iload_n 2, 1) := by decide +kernel
theorem dX4_zeros_14 : decode cX4_zeros 14 = .ok (.invokevirtual 47, 3) := by decide +kernel
theorem dX4_zeros_17 : decode cX4_zeros 17 = .ok (.ifCond .eq 6, 3) := by decide +kernel
theorem dX4_zeros_20 : decode cX4_zeros 20 = .ok (.iinc 1 1, 3) := by decide +kernel
theorem dX4_zeros_23 : decode cX4_zeros 23 = .ok (.iinc 2 1, 3) := by decide +kernel
theorem dX4_zeros_26 : decode cX4_zeros 26 = .ok (.goto (-22), 3) := by decide +kernel
theorem dX4_zeros_29 : decode cX4_zeros 29 = .ok (.iload_n 1, 1) := by decide +kernel
theorem dX4_zeros_30 : decode cX4_zeros 30 = .ok (.ireturn, 1) := by decide +kernel
theorem dX4_addTo_0 : decode cX4_addTo 0 = .ok (.aload_n 0, 1) := by decide +kernel
theorem dX4_addTo_1 : decode cX4_addTo 1 = .ok (.iload_n 2, 1) := by decide +kernel
theorem dX4_addTo_2 : decode cX4_addTo 2 = .ok (.invokevirtual 31, 3) := by decide +kernel
theorem dX4_addTo_5 : decode cX4_addTo 5 = .ok (.ifCond .ne 24, 3) := by decide +kernel
theorem dX4_addTo_8 : decode cX4_addTo 8 = .ok (.aload_n 1, 1) := by decide +kernel
theorem dX4_addTo_9 : decode cX4_addTo 9 = .ok (.iconst 0, 1) := by decide +kernel
theorem dX4_addTo_10 : decode cX4_addTo 10 = .ok (.aload_n 0, 1) := by decide +kernel
theorem dX4_addTo_11 : decode cX4_addTo 11 = .ok (.getfield 27, 3) := by decide +kernel
theorem dX4_addTo_14 : decode cX4_addTo 14 = .ok (.iload_n 2, 1) := by decide +kernel
theorem dX4_addTo_15 : decode cX4_addTo 15 = .ok (.aload_n 0, 1) := by decide +kernel
theorem dX4_addTo_16 : decode cX4_addTo 16 = .ok (.getfield 24, 3) := by decide +kernel
theorem dX4_addTo_19 : decode cX4_addTo 19 = .ok (.imul, 1) := by decide +kernel
theorem dX4_addTo_20 : decode cX4_addTo 20 = .ok (.aload_n 0, 1) := by decide +kernel
theorem dX4_addTo_21 : decode cX4_addTo 21 = .ok (.getfield 24, 3) := by decide +kernel
theorem dX4_addTo_24 : decode cX4_addTo 24 = .ok (.iload_n 3, 1) := by decide +kernel
theorem dX4_addTo_25 : decode cX4_addTo 25 = .ok (.i2l, 1) := by decide +kernel
theorem dX4_addTo_26 : decode cX4_addTo 26 = .ok (.invokevirtual 50, 3) := by decide +kernel
theorem dX4_addTo_29 : decode cX4_addTo 29 = .ok (.return_, 1) := by decide +kernel
theorem dX4_addShiftedTo_0 : decode cX4_addShiftedTo 0 = .ok (.aload_n 0, 1) := by decide +kernel
theorem dX4_addShiftedTo_1 : decode cX4_addShiftedTo 1 = .ok (.iload_n 2, 1) := by decide +kernel
theorem dX4_addShiftedTo_2 : decode cX4_addShiftedTo 2 = .ok (.invokevirtual 31, 3) := by decide +kernel
theorem dX4_addShiftedTo_5 : decode cX4_addShiftedTo 5 = .ok (.ifCond .ne 30, 3) := by decide +kernel
theorem dX4_addShiftedTo_8 : decode cX4_addShiftedTo 8 = .ok (.aload_n 1, 1) := by decide +kernel
theorem dX4_addShiftedTo_9 : decode cX4_addShiftedTo 9 = .ok (.iload_n 3, 1) := by decide +kernel
theorem dX4_addShiftedTo_10 : decode cX4_addShiftedTo 10 = .ok (.iconst 5, 1) := by decide +kernel
theorem dX4_addShiftedTo_11 : decode cX4_addShiftedTo 11 = .ok (.ishr, 1) := by decide +kernel
theorem dX4_addShiftedTo_12 : decode cX4_addShiftedTo 12 = .ok (.aload_n 0, 1) := by decide +kernel
theorem dX4_addShiftedTo_13 : decode cX4_addShiftedTo 13 = .ok (.getfield 27, 3) := by decide +kernel
theorem dX4_addShiftedTo_16 : decode cX4_addShiftedTo 16 = .ok (.iload_n 2, 1) := by decide +kernel
theorem dX4_addShiftedTo_17 : decode cX4_addShiftedTo 17 = .ok (.aload_n 0, 1) := by decide +kernel
theorem dX4_addShiftedTo_18 : decode cX4_addShiftedTo 18 = .ok (.getfield 24, 3) := by decide +kernel
theorem dX4_addShiftedTo_21 : decode cX4_addShiftedTo 21 = .ok (.imul, 1) := by decide +kernel
theorem dX4_addShiftedTo_22 : decode cX4_addShiftedTo 22 = .ok (.aload_n 0, 1) := by decide +kernel
theorem dX4_addShiftedTo_23 : decode cX4_addShiftedTo 23 = .ok (.getfield 24, 3) := by decide +kernel
theorem dX4_addShiftedTo_26 : decode cX4_addShiftedTo 26 = .ok (.lconst 1, 1) := by decide +kernel
theorem dX4_addShiftedTo_27 : decode cX4_addShiftedTo 27 = .ok (.iload_n 3, 1) := by decide +kernel
theorem dX4_addShiftedTo_28 : decode cX4_addShiftedTo 28 = .ok (.bipush 31, 2) := by decide +kernel
theorem dX4_addShiftedTo_30 : decode cX4_addShiftedTo 30 = .ok (.iand, 1) := by decide +kernel
theorem dX4_addShiftedTo_31 : decode cX4_addShiftedTo 31 = .ok (.lshl, 1) := by decide +kernel
theorem dX4_addShiftedTo_32 : decode cX4_addShiftedTo 32 = .ok (.invokevirtual 50, 3) := by decide +kernel
theorem dX4_addShiftedTo_35 : decode cX4_addShiftedTo 35 = .ok (.return_, 1) := by decide +kernel
theorem dX4_addRound_0 : decode cX4_addRound 0 = .ok (.iload_n 2, 1) := by decide +kernel
theorem dX4_addRound_1 : decode cX4_addRound 1 = .ok (.aload_n 1, 1) := by decide +kernel
theorem dX4_addRound_2 : decode cX4_addRound 2 = .ok (.arraylength, 1) := by decide +kernel
theorem dX4_addRound_3 : decode cX4_addRound 3 = .ok (.invokestatic 9, 3) := by decide +kernel
theorem dX4_addRound_6 : decode cX4_addRound 6 = .ok (.istore 4, 2) := by decide +kernel
theorem dX4_addRound_8 : decode cX4_addRound 8 = .ok (.iload_n 3, 1) := by decide +kernel
theorem dX4_addRound_9 : decode cX4_addRound 9 = .ok (.aload_n 0, 1) := by decide +kernel
theorem dX4_addRound_10 : decode cX4_addRound 10 = .ok (.getfield 18, 3) := by decide +kernel
theorem dX4_addRound_13 : decode cX4_addRound 13 = .ok (.invokestatic 9, 3) := by decide +kernel
theorem dX4_addRound_16 : decode cX4_addRound 16 = .ok (.istore 5, 2) := by decide +kernel
theorem dX4_addRound_18 : decode cX4_addRound 18 = .ok (.iload 5, 2) := by decide +kernel
theorem dX4_addRound_20 : decode cX4_addRound 20 = .ok (.ifCond .lt 112, 3) := by decide +kernel
theorem dX4_addRound_23 : decode cX4_addRound 23 = .ok (.lconst 0, 1) := by decide +kernel
theorem dX4_addRound_24 : decode cX4_addRound 24 = .ok (.lstore 6, 2) := by decide +kernel
theorem dX4_addRound_26 : decode cX4_addRound 26 = .ok (.iconst 0, 1) := by decide +kernel
theorem dX4_addRound_27 : decode cX4_addRound 27 = .ok (.istore 8, 2) := by decide +kernel
theorem dX4_addRound_29 : decode cX4_addRound 29 = .ok (.iload 8, 2) := by decide +kernel
theorem dX4_addRound_31 : decode cX4_addRound 31 = .ok (.aload_n 0, 1) := by decide +kernel
theorem dX4_addRound_32 : decode cX4_addRound 32 = .ok (.getfield 24, 3) := by decide +kernel
theorem dX4_addRound_35 : decode cX4_addRound 35 = .ok (.if_icmp .ge 91, 3) := by decide +kernel
theorem dX4_addRound_38 : decode cX4_addRound 38 = .ok (.iconst 0, 1) := by decide +kernel
theorem dX4_addRound_39 : decode cX4_addRound 39 = .ok (.istore 9, 2) := by decide +kernel
theorem dX4_addRound_41 : decode cX4_addRound 41 = .ok (.iload 9, 2) := by decide +kernel
theorem dX4_addRound_43 : decode cX4_addRound 43 = .ok (.iload 4, 2) := by decide +kernel
theorem dX4_addRound_45 : decode cX4_addRound 45 = .ok (.if_icmp .ge 50, 3) := by decide +kernel
theorem dX4_addRound_48 : decode cX4_addRound 48 = .ok (.iload 9, 2) := by decide +kernel
theorem dX4_addRound_50 : decode cX4_addRound 50 = .ok (.iload 5, 2) := by decide +kernel
theorem dX4_addRound_52 : decode cX4_addRound 52 = .ok (.if_icmp .gt 43, 3) := by decide +kernel
theorem dX4_addRound_55 : decode cX4_addRound 55 = .ok (.lload 6, 2) := by decide +kernel
theorem dX4_addRound_57 : decode cX4_addRound 57 = .ok (.aload_n 0, 1) := by decide +kernel
theorem dX4_addRound_58 : decode cX4_addRound 58 = .ok (.getfield 27, 3) := by decide +kernel
theorem dX4_addRound_61 : decode cX4_addRound 61 = .ok (.iload 5, 2) := by decide +kernel
theorem dX4_addRound_63 : decode cX4_addRound 63 = .ok (.iload 9, 2) := by decide +kernel
theorem dX4_addRound_65 : decode cX4_addRound 65 = .ok (.isub, 1) := by decide +kernel
theorem dX4_addRound_66 : decode cX4_addRound 66 = .ok (.aload_n 0, 1) := by decide +kernel
theorem dX4_addRound_67 : decode cX4_addRound 67 = .ok (.getfield 24, 3) := by decide +kernel
theorem dX4_addRound_70 : decode cX4_addRound 70 = .ok (.imul, 1) := by decide +kernel
theorem dX4_addRound_71 : decode cX4_addRound 71 = .ok (.iload 8, 2) := by decide +kernel
theorem dX4_addRound_73 : decode cX4_addRound 73 = .ok (.iadd, 1) := by decide +kernel
theorem dX4_addRound_74 : decode cX4_addRound 74 = .ok (.iaload, 1) := by decide +kernel
theorem dX4_addRound_75 : decode cX4_addRound 75 = .ok (.i2l, 1) := by decide +kernel
theorem dX4_addRound_76 : decode cX4_addRound 76 = .ok (.ldc2_w 35, 3) := by decide +kernel
theorem dX4_addRound_79 : decode cX4_addRound 79 = .ok (.land, 1) := by decide +kernel
theorem dX4_addRound_80 : decode cX4_addRound 80 = .ok (.aload_n 1, 1) := by decide +kernel
theorem dX4_addRound_81 : decode cX4_addRound 81 = .ok (.iload 9, 2) := by decide +kernel
theorem dX4_addRound_83 : decode cX4_addRound 83 = .ok (.iaload, 1) := by decide +kernel
theorem dX4_addRound_84 : decode cX4_addRound 84 = .ok (.i2l, 1) := by decide +kernel
theorem dX4_addRound_85 : decode cX4_addRound 85 = .ok (.lmul, 1) := by decide +kernel
theorem dX4_addRound_86 : decode cX4_addRound 86 = .ok (.ladd, 1) := by decide +kernel
theorem dX4_addRound_87 : decode cX4_addRound 87 = .ok (.lstore 6, 2) := by decide +kernel
theorem dX4_addRound_89 : decode cX4_addRound 89 = .ok (.iinc 9 1, 3) := by decide +kernel
theorem dX4_addRound_92 : decode cX4_addRound 92 = .ok (.goto (-51), 3) := by decide +kernel
theorem dX4_addRound_95 : decode cX4_addRound 95 = .ok (.aload_n 0, 1) := by decide +kernel
theorem dX4_addRound_96 : decode cX4_addRound 96 = .ok (.getfield 27, 3) := by decide +kernel
theorem dX4_addRound_99 : decode cX4_addRound 99 = .ok (.iload 5, 2) := by decide +kernel
theorem dX4_addRound_101 : decode cX4_addRound 101 = .ok (.aload_n 0, 1) := by decide +kernel
theorem dX4_addRound_102 : decode cX4_addRound 102 = .ok (.getfield 24, 3) := by decide +kernel
theorem dX4_addRound_105 : decode cX4_addRound 105 = .ok (.imul, 1) := by decide +kernel
theorem dX4_addRound_106 : decode cX4_addRound 106 = .ok (.iload 8, 2) := by decide +kernel
theorem dX4_addRound_108 : decode cX4_addRound 108 = .ok (.iadd, 1) := by decide +kernel
theorem dX4_addRound_109 : decode cX4_addRound 109 = .ok (.lload 6, 2) := by decide +kernel
theorem dX4_addRound_111 : decode cX4_addRound 111 = .ok (.l2i, 1) := by decide +kernel
theorem dX4_addRound_112 : decode cX4_addRound 112 = .ok (.iastore, 1) := by decide +kernel
theorem dX4_addRound_113 : decode cX4_addRound 113 = .ok (.lload 6, 2) := by decide +kernel
theorem dX4_addRound_115 : decode cX4_addRound 115 = .ok (.bipush 32, 2) := by decide +kernel
theorem dX4_addRound_117 : decode cX4_addRound 117 = .ok (.lushr, 1) := by decide +kernel
theorem dX4_addRound_118 : decode cX4_addRound 118 = .ok (.lstore 6, 2) := by decide +kernel
theorem dX4_addRound_120 : decode cX4_addRound 120 = .ok (.iinc 8 1, 3) := by decide +kernel
theorem dX4_addRound_123 : decode cX4_addRound 123 = .ok (.goto (-94), 3) := by decide +kernel
theorem dX4_addRound_126 : decode cX4_addRound 126 = .ok (.iinc 5 (-1), 3) := by decide +kernel
theorem dX4_addRound_129 : decode cX4_addRound 129 = .ok (.goto (-111), 3) := by decide +kernel
theorem dX4_addRound_132 : decode cX4_addRound 132 = .ok (.return_, 1) := by decide +kernel
theorem dX4_addFrom_0 : decode cX4_addFrom 0 = .ok (.aload_n 0, 1) := by decide +kernel
theorem dX4_addFrom_1 : decode cX4_addFrom 1 = .ok (.iload_n 3, 1) := by decide +kernel
theorem dX4_addFrom_2 : decode cX4_addFrom 2 = .ok (.invokevirtual 31, 3) := by decide +kernel
theorem dX4_addFrom_5 : decode cX4_addFrom 5 = .ok (.ifCond .eq 4, 3) := by decide +kernel
theorem dX4_addFrom_8 : decode cX4_addFrom 8 = .ok (.return_, 1) := by decide +kernel
theorem dX4_addFrom_9 : decode cX4_addFrom 9 = .ok (.lconst 0, 1) := by decide +kernel
theorem dX4_addFrom_10 : decode cX4_addFrom 10 = .ok (.lstore 4, 2) := by decide +kernel
theorem dX4_addFrom_12 : decode cX4_addFrom 12 = .ok (.iconst 0, 1) := by decide +kernel
theorem dX4_addFrom_13 : decode cX4_addFrom 13 = .ok (.istore 6, 2) := by decide +kernel
theorem dX4_addFrom_15 : decode cX4_addFrom 15 = .ok (.iload 6, 2) := by decide +kernel
theorem dX4_addFrom_17 : decode cX4_addFrom 17 = .ok (.aload_n 0, 1) := by decide +kernel
theorem dX4_addFrom_18 : decode cX4_addFrom 18 = .ok (.getfield 24, 3) := by decide +kernel
theorem dX4_addFrom_21 : decode cX4_addFrom 21 = .ok (.if_icmp .ge 53, 3) := by decide +kernel
theorem dX4_addFrom_24 : decode cX4_addFrom 24 = .ok (.lload 4, 2) := by decide +kernel
theorem dX4_addFrom_26 : decode cX4_addFrom 26 = .ok (.aload_n 0, 1) := by decide +kernel
theorem dX4_addFrom_27 : decode cX4_addFrom 27 = .ok (.iload_n 3, 1) := by decide +kernel
theorem dX4_addFrom_28 : decode cX4_addFrom 28 = .ok (.iload 6, 2) := by decide +kernel
theorem dX4_addFrom_30 : decode cX4_addFrom 30 = .ok (.invokevirtual 43, 3) := by decide +kernel
theorem dX4_addFrom_33 : decode cX4_addFrom 33 = .ok (.aload_n 1, 1) := by decide +kernel
theorem dX4_addFrom_34 : decode cX4_addFrom 34 = .ok (.iload_n 2, 1) := by decide +kernel
theorem dX4_addFrom_35 : decode cX4_addFrom 35 = .ok (.iload 6, 2) := by decide +kernel
theorem dX4_addFrom_37 : decode cX4_addFrom 37 = .ok (.invokevirtual 43, 3) := by decide +kernel
theorem dX4_addFrom_40 : decode cX4_addFrom 40 = .ok (.ladd, 1) := by decide +kernel
theorem dX4_addFrom_41 : decode cX4_addFrom 41 = .ok (.ladd, 1) := by decide +kernel
theorem dX4_addFrom_42 : decode cX4_addFrom 42 = .ok (.lstore 4, 2) := by decide +kernel
theorem dX4_addFrom_44 : decode cX4_addFrom 44 = .ok (.aload_n 0, 1) := by decide +kernel
theorem dX4_addFrom_45 : decode cX4_addFrom 45 = .ok (.getfield 27, 3) := by decide +kernel
theorem dX4_addFrom_48 : decode cX4_addFrom 48 = .ok (.iload_n 3, 1) := by decide +kernel
theorem dX4_addFrom_49 : decode cX4_addFrom 49 = .ok (.aload_n 0, 1) := by decide +kernel
theorem dX4_addFrom_50 : decode cX4_addFrom 50 = .ok (.getfield 24, 3) := by decide +kernel
theorem dX4_addFrom_53 : decode cX4_addFrom 53 = .ok (.imul, 1) := by decide +kernel
theorem dX4_addFrom_54 : decode cX4_addFrom 54 = .ok (.iload 6, 2) := by decide +kernel
theorem dX4_addFrom_56 : decode cX4_addFrom 56 = .ok (.iadd, 1) := by decide +kernel
theorem dX4_addFrom_57 : decode cX4_addFrom 57 = .ok (.lload 4, 2) := by decide +kernel
theorem dX4_addFrom_59 : decode cX4_addFrom 59 = .ok (.l2i, 1) := by decide +kernel
theorem dX4_addFrom_60 : decode cX4_addFrom 60 = .ok (.iastore, 1) := by decide +kernel
theorem dX4_addFrom_61 : decode cX4_addFrom 61 = .ok (.lload 4, 2) := by decide +kernel
theorem dX4_addFrom_63 : decode cX4_addFrom 63 = .ok (.bipush 32, 2) := by decide +kernel
theorem dX4_addFrom_65 : decode cX4_addFrom 65 = .ok (.lushr, 1) := by decide +kernel
theorem dX4_addFrom_66 : decode cX4_addFrom 66 = .ok (.lstore 4, 2) := by decide +kernel
theorem dX4_addFrom_68 : decode cX4_addFrom 68 = .ok (.iinc 6 1, 3) := by decide +kernel
theorem dX4_addFrom_71 : decode cX4_addFrom 71 = .ok (.goto (-56), 3) := by decide +kernel
theorem dX4_addFrom_74 : decode cX4_addFrom 74 = .ok (.return_, 1) := by decide +kernel
theorem dX4_addAllPairs_0 : decode cX4_addAllPairs 0 = .ok (.iconst 0, 1) := by decide +kernel
theorem dX4_addAllPairs_1 : decode cX4_addAllPairs 1 = .ok (.istore_n 3, 1) := by decide +kernel
theorem dX4_addAllPairs_2 : decode cX4_addAllPairs 2 = .ok (.iload_n 3, 1) := by decide +kernel
theorem dX4_addAllPairs_3 : decode cX4_addAllPairs 3 = .ok (.aload_n 1, 1) := by decide +kernel
theorem dX4_addAllPairs_4 : decode cX4_addAllPairs 4 = .ok (.getfield 18, 3) := by decide +kernel
theorem dX4_addAllPairs_7 : decode cX4_addAllPairs 7 = .ok (.if_icmp .gt 44, 3) := by decide +kernel
theorem dX4_addAllPairs_10 : decode cX4_addAllPairs 10 = .ok (.iconst 0, 1) := by decide +kernel
theorem dX4_addAllPairs_11 : decode cX4_addAllPairs 11 = .ok (.istore 4, 2) := by decide +kernel
theorem dX4_addAllPairs_13 : decode cX4_addAllPairs 13 = .ok (.iload 4, 2) := by decide +kernel
theorem dX4_addAllPairs_15 : decode cX4_addAllPairs 15 = .ok (.aload_n 2, 1) := by decide +kernel
theorem dX4_addAllPairs_16 : decode cX4_addAllPairs 16 = .ok (.getfield 18, 3) := by decide +kernel
theorem dX4_addAllPairs_19 : decode cX4_addAllPairs 19 = .ok (.if_icmp .gt 26, 3) := by decide +kernel
theorem dX4_addAllPairs_22 : decode cX4_addAllPairs 22 = .ok (.aload_n 1, 1) := by decide +kernel
theorem dX4_addAllPairs_23 : decode cX4_addAllPairs 23 = .ok (.iload_n 3, 1) := by decide +kernel
theorem dX4_addAllPairs_24 : decode cX4_addAllPairs 24 = .ok (.invokevirtual 47, 3) := by decide +kernel
theorem dX4_addAllPairs_27 : decode cX4_addAllPairs 27 = .ok (.ifCond .ne 18, 3) := by decide +kernel
theorem dX4_addAllPairs_30 : decode cX4_addAllPairs 30 = .ok (.aload_n 0, 1) := by decide +kernel
theorem dX4_addAllPairs_31 : decode cX4_addAllPairs 31 = .ok (.aload_n 1, 1) := by decide +kernel
theorem dX4_addAllPairs_32 : decode cX4_addAllPairs 32 = .ok (.iload_n 3, 1) := by decide +kernel
theorem dX4_addAllPairs_33 : decode cX4_addAllPairs 33 = .ok (.aload_n 2, 1) := by decide +kernel
theorem dX4_addAllPairs_34 : decode cX4_addAllPairs 34 = .ok (.iload 4, 2) := by decide +kernel
theorem dX4_addAllPairs_36 : decode cX4_addAllPairs 36 = .ok (.invokevirtual 56, 3) := by decide +kernel
theorem dX4_addAllPairs_39 : decode cX4_addAllPairs 39 = .ok (.iinc 4 1, 3) := by decide +kernel
theorem dX4_addAllPairs_42 : decode cX4_addAllPairs 42 = .ok (.goto (-29), 3) := by decide +kernel
theorem dX4_addAllPairs_45 : decode cX4_addAllPairs 45 = .ok (.iinc 3 1, 3) := by decide +kernel
theorem dX4_addAllPairs_48 : decode cX4_addAllPairs 48 = .ok (.goto (-46), 3) := by decide +kernel
theorem dX4_addAllPairs_51 : decode cX4_addAllPairs 51 = .ok (.return_, 1) := by decide +kernel
theorem dX4_addPair_0 : decode cX4_addPair 0 = .ok (.aload_n 0, 1) := by decide +kernel
theorem dX4_addPair_1 : decode cX4_addPair 1 = .ok (.iload_n 2, 1) := by decide +kernel
theorem dX4_addPair_2 : decode cX4_addPair 2 = .ok (.iload 4, 2) := by decide +kernel
theorem dX4_addPair_4 : decode cX4_addPair 4 = .ok (.iadd, 1) := by decide +kernel
theorem dX4_addPair_5 : decode cX4_addPair 5 = .ok (.invokevirtual 31, 3) := by decide +kernel
theorem dX4_addPair_8 : decode cX4_addPair 8 = .ok (.ifCond .eq 4, 3) := by decide +kernel
theorem dX4_addPair_11 : decode cX4_addPair 11 = .ok (.return_, 1) := by decide +kernel
theorem dX4_addPair_12 : decode cX4_addPair 12 = .ok (.iload_n 2, 1) := by decide +kernel
theorem dX4_addPair_13 : decode cX4_addPair 13 = .ok (.iload 4, 2) := by decide +kernel
theorem dX4_addPair_15 : decode cX4_addPair 15 = .ok (.iadd, 1) := by decide +kernel
theorem dX4_addPair_16 : decode cX4_addPair 16 = .ok (.aload_n 0, 1) := by decide +kernel
theorem dX4_addPair_17 : decode cX4_addPair 17 = .ok (.getfield 24, 3) := by decide +kernel
theorem dX4_addPair_20 : decode cX4_addPair 20 = .ok (.imul, 1) := by decide +kernel
theorem dX4_addPair_21 : decode cX4_addPair 21 = .ok (.istore 5, 2) := by decide +kernel
theorem dX4_addPair_23 : decode cX4_addPair 23 = .ok (.iconst 0, 1) := by decide +kernel
theorem dX4_addPair_24 : decode cX4_addPair 24 = .ok (.istore 6, 2) := by decide +kernel
theorem dX4_addPair_26 : decode cX4_addPair 26 = .ok (.iload 6, 2) := by decide +kernel
theorem dX4_addPair_28 : decode cX4_addPair 28 = .ok (.aload_n 1, 1) := by decide +kernel
theorem dX4_addPair_29 : decode cX4_addPair 29 = .ok (.getfield 24, 3) := by decide +kernel
theorem dX4_addPair_32 : decode cX4_addPair 32 = .ok (.if_icmp .ge 124, 3) := by decide +kernel
theorem dX4_addPair_35 : decode cX4_addPair 35 = .ok (.aload_n 1, 1) := by decide +kernel
theorem dX4_addPair_36 : decode cX4_addPair 36 = .ok (.iload_n 2, 1) := by decide +kernel
theorem dX4_addPair_37 : decode cX4_addPair 37 = .ok (.iload 6, 2) := by decide +kernel
theorem dX4_addPair_39 : decode cX4_addPair 39 = .ok (.invokevirtual 43, 3) := by decide +kernel
theorem dX4_addPair_42 : decode cX4_addPair 42 = .ok (.lstore 7, 2) := by decide +kernel
theorem dX4_addPair_44 : decode cX4_addPair 44 = .ok (.lconst 0, 1) := by decide +kernel
theorem dX4_addPair_45 : decode cX4_addPair 45 = .ok (.lstore 9, 2) := by decide +kernel
theorem dX4_addPair_47 : decode cX4_addPair 47 = .ok (.iload 6, 2) := by decide +kernel
theorem dX4_addPair_49 : decode cX4_addPair 49 = .ok (.istore 11, 2) := by decide +kernel
theorem dX4_addPair_51 : decode cX4_addPair 51 = .ok (.iload 11, 2) := by decide +kernel
theorem dX4_addPair_53 : decode cX4_addPair 53 = .ok (.aload_n 0, 1) := by decide +kernel
theorem dX4_addPair_54 : decode cX4_addPair 54 = .ok (.getfield 24, 3) := by decide +kernel
theorem dX4_addPair_57 : decode cX4_addPair 57 = .ok (.if_icmp .ge 93, 3) := by decide +kernel
theorem dX4_addPair_60 : decode cX4_addPair 60 = .ok (.lload 7, 2) := by decide +kernel
theorem dX4_addPair_62 : decode cX4_addPair 62 = .ok (.lconst 0, 1) := by decide +kernel
theorem dX4_addPair_63 : decode cX4_addPair 63 = .ok (.lcmp, 1) := by decide +kernel
theorem dX4_addPair_64 : decode cX4_addPair 64 = .ok (.ifCond .eq 86, 3) := by decide +kernel
theorem dX4_addPair_67 : decode cX4_addPair 67 = .ok (.iload 11, 2) := by decide +kernel
theorem dX4_addPair_69 : decode cX4_addPair 69 = .ok (.iload 6, 2) := by decide +kernel
theorem dX4_addPair_71 : decode cX4_addPair 71 = .ok (.isub, 1) := by decide +kernel
theorem dX4_addPair_72 : decode cX4_addPair 72 = .ok (.aload_n 3, 1) := by decide +kernel
theorem dX4_addPair_73 : decode cX4_addPair 73 = .ok (.getfield 24, 3) := by decide +kernel
theorem dX4_addPair_76 : decode cX4_addPair 76 = .ok (.if_icmp .lt 13, 3) := by decide +kernel
theorem dX4_addPair_79 : decode cX4_addPair 79 = .ok (.lload 9, 2) := by decide +kernel
theorem dX4_addPair_81 : decode cX4_addPair 81 = .ok (.lconst 0, 1) := by decide +kernel
theorem dX4_addPair_82 : decode cX4_addPair 82 = .ok (.lcmp, 1) := by decide +kernel
theorem dX4_addPair_83 : decode cX4_addPair 83 = .ok (.ifCond .ne 6, 3) := by decide +kernel
theorem dX4_addPair_86 : decode cX4_addPair 86 = .ok (.goto 64, 3) := by decide +kernel
theorem dX4_addPair_89 : decode cX4_addPair 89 = .ok (.lload 9, 2) := by decide +kernel
theorem dX4_addPair_91 : decode cX4_addPair 91 = .ok (.aload_n 3, 1) := by decide +kernel
theorem dX4_addPair_92 : decode cX4_addPair 92 = .ok (.iload 4, 2) := by decide +kernel
theorem dX4_addPair_94 : decode cX4_addPair 94 = .ok (.iload 11, 2) := by decide +kernel
theorem dX4_addPair_96 : decode cX4_addPair 96 = .ok (.iload 6, 2) := by decide +kernel
theorem dX4_addPair_98 : decode cX4_addPair 98 = .ok (.isub, 1) := by decide +kernel
theorem dX4_addPair_99 : decode cX4_addPair 99 = .ok (.invokevirtual 43, 3) := by decide +kernel
theorem dX4_addPair_102 : decode cX4_addPair 102 = .ok (.lload 7, 2) := by decide +kernel
theorem dX4_addPair_104 : decode cX4_addPair 104 = .ok (.lmul, 1) := by decide +kernel
theorem dX4_addPair_105 : decode cX4_addPair 105 = .ok (.aload_n 0, 1) := by decide +kernel
theorem dX4_addPair_106 : decode cX4_addPair 106 = .ok (.getfield 27, 3) := by decide +kernel
theorem dX4_addPair_109 : decode cX4_addPair 109 = .ok (.iload 5, 2) := by decide +kernel
theorem dX4_addPair_111 : decode cX4_addPair 111 = .ok (.iload 11, 2) := by decide +kernel
theorem dX4_addPair_113 : decode cX4_addPair 113 = .ok (.iadd, 1) := by decide +kernel
theorem dX4_addPair_114 : decode cX4_addPair 114 = .ok (.iaload, 1) := by decide +kernel
theorem dX4_addPair_115 : decode cX4_addPair 115 = .ok (.i2l, 1) := by decide +kernel
theorem dX4_addPair_116 : decode cX4_addPair 116 = .ok (.ldc2_w 35, 3) := by decide +kernel
theorem dX4_addPair_119 : decode cX4_addPair 119 = .ok (.land, 1) := by decide +kernel
theorem dX4_addPair_120 : decode cX4_addPair 120 = .ok (.ladd, 1) := by decide +kernel
theorem dX4_addPair_121 : decode cX4_addPair 121 = .ok (.ladd, 1) := by decide +kernel
theorem dX4_addPair_122 : decode cX4_addPair 122 = .ok (.lstore 9, 2) := by decide +kernel
theorem dX4_addPair_124 : decode cX4_addPair 124 = .ok (.aload_n 0, 1) := by decide +kernel
theorem dX4_addPair_125 : decode cX4_addPair 125 = .ok (.getfield 27, 3) := by decide +kernel
theorem dX4_addPair_128 : decode cX4_addPair 128 = .ok (.iload 5, 2) := by decide +kernel
theorem dX4_addPair_130 : decode cX4_addPair 130 = .ok (.iload 11, 2) := by decide +kernel
theorem dX4_addPair_132 : decode cX4_addPair 132 = .ok (.iadd, 1) := by decide +kernel
theorem dX4_addPair_133 : decode cX4_addPair 133 = .ok (.lload 9, 2) := by decide +kernel
theorem dX4_addPair_135 : decode cX4_addPair 135 = .ok (.l2i, 1) := by decide +kernel
theorem dX4_addPair_136 : decode cX4_addPair 136 = .ok (.iastore, 1) := by decide +kernel
theorem dX4_addPair_137 : decode cX4_addPair 137 = .ok (.lload 9, 2) := by decide +kernel
theorem dX4_addPair_139 : decode cX4_addPair 139 = .ok (.bipush 32, 2) := by decide +kernel
theorem dX4_addPair_141 : decode cX4_addPair 141 = .ok (.lushr, 1) := by decide +kernel
theorem dX4_addPair_142 : decode cX4_addPair 142 = .ok (.lstore 9, 2) := by decide +kernel
theorem dX4_addPair_144 : decode cX4_addPair 144 = .ok (.iinc 11 1, 3) := by decide +kernel
theorem dX4_addPair_147 : decode cX4_addPair 147 = .ok (.goto (-96), 3) := by decide +kernel
theorem dX4_addPair_150 : decode cX4_addPair 150 = .ok (.iinc 6 1, 3) := by decide +kernel
theorem dX4_addPair_153 : decode cX4_addPair 153 = .ok (.goto (-127), 3) := by decide +kernel
theorem dX4_addPair_156 : decode cX4_addPair 156 = .ok (.return_, 1) := by decide +kernel
theorem dX5_init_0 : decode cX5_init 0 = .ok (.aload_n 0, 1) := by decide +kernel
theorem dX5_init_1 : decode cX5_init 1 = .ok (.invokespecial 3, 3) := by decide +kernel
theorem dX5_init_4 : decode cX5_init 4 = .ok (.aload_n 0, 1) := by decide +kernel
theorem dX5_init_5 : decode cX5_init 5 = .ok (.new 9, 3) := by decide +kernel
theorem dX5_init_8 : decode cX5_init 8 = .ok (.dup, 1) := by decide +kernel
theorem dX5_init_9 : decode cX5_init 9 = .ok (.bipush 8, 2) := by decide +kernel
theorem dX5_init_11 : decode cX5_init 11 = .ok (.invokespecial 11, 3) := by decide +kernel
theorem dX5_init_14 : decode cX5_init 14 = .ok (.putfield 14, 3) := by decide +kernel
theorem dX5_init_17 : decode cX5_init 17 = .ok (.aload_n 0, 1) := by decide +kernel
theorem dX5_init_18 : decode cX5_init 18 = .ok (.new 20, 3) := by decide +kernel
theorem dX5_init_21 : decode cX5_init 21 = .ok (.dup, 1) := by decide +kernel
theorem dX5_init_22 : decode cX5_init 22 = .ok (.bipush 9, 2) := by decide +kernel
theorem dX5_init_24 : decode cX5_init 24 = .ok (.invokespecial 22, 3) := by decide +kernel
theorem dX5_init_27 : decode cX5_init 27 = .ok (.putfield 23, 3) := by decide +kernel
theorem dX5_init_30 : decode cX5_init 30 = .ok (.aload_n 0, 1) := by decide +kernel
theorem dX5_init_31 : decode cX5_init 31 = .ok (.iload_n 1, 1) := by decide +kernel
theorem dX5_init_32 : decode cX5_init 32 = .ok (.putfield 27, 3) := by decide +kernel
theorem dX5_init_35 : decode cX5_init 35 = .ok (.aload_n 0, 1) := by decide +kernel
theorem dX5_init_36 : decode cX5_init 36 = .ok (.aload_n 2, 1) := by decide +kernel
theorem dX5_init_37 : decode cX5_init 37 = .ok (.putfield 31, 3) := by decide +kernel
theorem dX5_init_40 : decode cX5_init 40 = .ok (.return_, 1) := by decide +kernel
theorem dX6_init_0 : decode cX6_init 0 = .ok (.aload_n 0, 1) := by decide +kernel
theorem dX6_init_1 : decode cX6_init 1 = .ok (.invokespecial 3, 3) := by decide +kernel
theorem dX6_init_4 : decode cX6_init 4 = .ok (.aload_n 0, 1) := by decide +kernel
theorem dX6_init_5 : decode cX6_init 5 = .ok (.new 9, 3) := by decide +kernel
theorem dX6_init_8 : decode cX6_init 8 = .ok (.dup, 1) := by decide +kernel
theorem dX6_init_9 : decode cX6_init 9 = .ok (.bipush 8, 2) := by decide +kernel
theorem dX6_init_11 : decode cX6_init 11 = .ok (.invokespecial 11, 3) := by decide +kernel
theorem dX6_init_14 : decode cX6_init 14 = .ok (.putfield 14, 3) := by decide +kernel
theorem dX6_init_17 : decode cX6_init 17 = .ok (.aload_n 0, 1) := by decide +kernel
theorem dX6_init_18 : decode cX6_init 18 = .ok (.new 20, 3) := by decide +kernel
theorem dX6_init_21 : decode cX6_init 21 = .ok (.dup, 1) := by decide +kernel
theorem dX6_init_22 : decode cX6_init 22 = .ok (.bipush 40, 2) := by decide +kernel
theorem dX6_init_24 : decode cX6_init 24 = .ok (.bipush 8, 2) := by decide +kernel
theorem dX6_init_26 : decode cX6_init 26 = .ok (.invokespecial 22, 3) := by decide +kernel
theorem dX6_init_29 : decode cX6_init 29 = .ok (.putfield 25, 3) := by decide +kernel
theorem dX6_init_32 : decode cX6_init 32 = .ok (.aload_n 0, 1) := by decide +kernel
theorem dX6_init_33 : decode cX6_init 33 = .ok (.new 9, 3) := by decide +kernel
theorem dX6_init_36 : decode cX6_init 36 = .ok (.dup, 1) := by decide +kernel
theorem dX6_init_37 : decode cX6_init 37 = .ok (.bipush 10, 2) := by decide +kernel
theorem dX6_init_39 : decode cX6_init 39 = .ok (.invokespecial 11, 3) := by decide +kernel
theorem dX6_init_42 : decode cX6_init 42 = .ok (.putfield 29, 3) := by decide +kernel
theorem dX6_init_45 : decode cX6_init 45 = .ok (.aload_n 0, 1) := by decide +kernel
theorem dX6_init_46 : decode cX6_init 46 = .ok (.new 9, 3) := by decide +kernel
theorem dX6_init_49 : decode cX6_init 49 = .ok (.dup, 1) := by decide +kernel
theorem dX6_init_50 : decode cX6_init 50 = .ok (.bipush 10, 2) := by decide +kernel
theorem dX6_init_52 : decode cX6_init 52 = .ok (.invokespecial 11, 3) := by decide +kernel
theorem dX6_init_55 : decode cX6_init 55 = .ok (.putfield 32, 3) := by decide +kernel
theorem dX6_init_58 : decode cX6_init 58 = .ok (.aload_n 0, 1) := by decide +kernel
theorem dX6_init_59 : decode cX6_init 59 = .ok (.iconst 2, 1) := by decide +kernel
theorem dX6_init_60 : decode cX6_init 60 = .ok (.newarray .int, 2) := by decide +kernel
theorem dX6_init_62 : decode cX6_init 62 = .ok (.putfield 35, 3) := by decide +kernel
theorem dX6_init_65 : decode cX6_init 65 = .ok (.aload_n 0, 1) := by decide +kernel
theorem dX6_init_66 : decode cX6_init 66 = .ok (.iconst 0, 1) := by decide +kernel
theorem dX6_init_67 : decode cX6_init 67 = .ok (.putfield 39, 3) := by decide +kernel
theorem dX6_init_70 : decode cX6_init 70 = .ok (.return_, 1) := by decide +kernel
theorem dX6_start_0 : decode cX6_start 0 = .ok (.aload_n 0, 1) := by decide +kernel
theorem dX6_start_1 : decode cX6_start 1 = .ok (.getfield 35, 3) := by decide +kernel
theorem dX6_start_4 : decode cX6_start 4 = .ok (.iconst 0, 1) := by decide +kernel
theorem dX6_start_5 : decode cX6_start 5 = .ok (.iload_n 2, 1) := by decide +kernel
theorem dX6_start_6 : decode cX6_start 6 = .ok (.iload_n 1, 1) := by decide +kernel
theorem dX6_start_7 : decode cX6_start 7 = .ok (.isub, 1) := by decide +kernel
theorem dX6_start_8 : decode cX6_start 8 = .ok (.iastore, 1) := by decide +kernel
theorem dX6_start_9 : decode cX6_start 9 = .ok (.aload_n 0, 1) := by decide +kernel
theorem dX6_start_10 : decode cX6_start 10 = .ok (.getfield 35, 3) := by decide +kernel
theorem dX6_start_13 : decode cX6_start 13 = .ok (.iconst 1, 1) := by decide +kernel
theorem dX6_start_14 : decode cX6_start 14 = .ok (.iload_n 1, 1) := by decide +kernel
theorem dX6_start_15 : decode cX6_start 15 = .ok (.iastore, 1) := by decide +kernel
theorem dX6_start_16 : decode cX6_start 16 = .ok (.aload_n 0, 1) := by decide +kernel
theorem dX6_start_17 : decode cX6_start 17 = .ok (.iconst 0, 1) := by decide +kernel
theorem dX6_start_18 : decode cX6_start 18 = .ok (.putfield 39, 3) := by decide +kernel
theorem dX6_start_21 : decode cX6_start 21 = .ok (.aload_n 0, 1) := by decide +kernel
theorem dX6_start_22 : decode cX6_start 22 = .ok (.getfield 14, 3) := by decide +kernel
theorem dX6_start_25 : decode cX6_start 25 = .ok (.lconst 1, 1) := by decide +kernel
theorem dX6_start_26 : decode cX6_start 26 = .ok (.invokevirtual 43, 3) := by decide +kernel
theorem dX6_start_29 : decode cX6_start 29 = .ok (.aload_n 0, 1) := by decide +kernel
theorem dX6_start_30 : decode cX6_start 30 = .ok (.getfield 25, 3) := by decide +kernel
theorem dX6_start_33 : decode cX6_start 33 = .ok (.invokevirtual 47, 3) := by decide +kernel
theorem dX6_start_36 : decode cX6_start 36 = .ok (.return_, 1) := by decide +kernel
theorem dX6_tossNext_0 : decode cX6_tossNext 0 = .ok (.aload_n 0, 1) := by decide +kernel
theorem dX6_tossNext_1 : decode cX6_tossNext 1 = .ok (.dup, 1) := by decide +kernel
theorem dX6_tossNext_2 : decode cX6_tossNext 2 = .ok (.getfield 39, 3) := by decide +kernel
theorem dX6_tossNext_5 : decode cX6_tossNext 5 = .ok (.iconst 1, 1) := by decide +kernel
theorem dX6_tossNext_6 : decode cX6_tossNext 6 = .ok (.iadd, 1) := by decide +kernel
theorem dX6_tossNext_7 : decode cX6_tossNext 7 = .ok (.putfield 39, 3) := by decide +kernel
theorem dX6_tossNext_10 : decode cX6_tossNext 10 = .ok (.aload_n 0, 1) := by decide +kernel
theorem dX6_tossNext_11 : decode cX6_tossNext 11 = .ok (.getfield 25, 3) := by decide +kernel
theorem dX6_tossNext_14 : decode cX6_tossNext 14 = .ok (.aload_n 0, 1) := by decide +kernel
theorem dX6_tossNext_15 : decode cX6_tossNext 15 = .ok (.getfield 35, 3) := by decide +kernel
theorem dX6_tossNext_18 : decode cX6_tossNext 18 = .ok (.iconst 2, 1) := by decide +kernel
theorem dX6_tossNext_19 : decode cX6_tossNext 19 = .ok (.aload_n 0, 1) := by decide +kernel
theorem dX6_tossNext_20 : decode cX6_tossNext 20 = .ok (.getfield 39, 3) := by decide +kernel
theorem dX6_tossNext_23 : decode cX6_tossNext 23 = .ok (.invokevirtual 50, 3) := by decide +kernel
theorem dX6_tossNext_26 : decode cX6_tossNext 26 = .ok (.aload_n 0, 1) := by decide +kernel
theorem dX6_tossNext_27 : decode cX6_tossNext 27 = .ok (.getfield 14, 3) := by decide +kernel
theorem dX6_tossNext_30 : decode cX6_tossNext 30 = .ok (.aload_n 0, 1) := by decide +kernel
theorem dX6_tossNext_31 : decode cX6_tossNext 31 = .ok (.getfield 35, 3) := by decide +kernel
theorem dX6_tossNext_34 : decode cX6_tossNext 34 = .ok (.iconst 0, 1) := by decide +kernel
theorem dX6_tossNext_35 : decode cX6_tossNext 35 = .ok (.iaload, 1) := by decide +kernel
theorem dX6_tossNext_36 : decode cX6_tossNext 36 = .ok (.aload_n 0, 1) := by decide +kernel
theorem dX6_tossNext_37 : decode cX6_tossNext 37 = .ok (.getfield 35, 3) := by decide +kernel
theorem dX6_tossNext_40 : decode cX6_tossNext 40 = .ok (.iconst 1, 1) := by decide +kernel
theorem dX6_tossNext_41 : decode cX6_tossNext 41 = .ok (.iaload, 1) := by decide +kernel
theorem dX6_tossNext_42 : decode cX6_tossNext 42 = .ok (.iadd, 1) := by decide +kernel
theorem dX6_tossNext_43 : decode cX6_tossNext 43 = .ok (.i2l, 1) := by decide +kernel
theorem dX6_tossNext_44 : decode cX6_tossNext 44 = .ok (.invokevirtual 54, 3) := by decide +kernel
theorem dX6_tossNext_47 : decode cX6_tossNext 47 = .ok (.return_, 1) := by decide +kernel
theorem dX6_addFrom_0 : decode cX6_addFrom 0 = .ok (.iload_n 1, 1) := by decide +kernel
theorem dX6_addFrom_1 : decode cX6_addFrom 1 = .ok (.iconst 0, 1) := by decide +kernel
theorem dX6_addFrom_2 : decode cX6_addFrom 2 = .ok (.invokestatic 57, 3) := by decide +kernel
theorem dX6_addFrom_5 : decode cX6_addFrom 5 = .ok (.istore 4, 2) := by decide +kernel
theorem dX6_addFrom_7 : decode cX6_addFrom 7 = .ok (.iload 4, 2) := by decide +kernel
theorem dX6_addFrom_9 : decode cX6_addFrom 9 = .ok (.aload_n 0, 1) := by decide +kernel
theorem dX6_addFrom_10 : decode cX6_addFrom 10 = .ok (.getfield 39, 3) := by decide +kernel
theorem dX6_addFrom_13 : decode cX6_addFrom 13 = .ok (.if_icmp .gt 33, 3) := by decide +kernel
theorem dX6_addFrom_16 : decode cX6_addFrom 16 = .ok (.aload_n 0, 1) := by decide +kernel
theorem dX6_addFrom_17 : decode cX6_addFrom 17 = .ok (.getfield 25, 3) := by decide +kernel
theorem dX6_addFrom_20 : decode cX6_addFrom 20 = .ok (.aload_n 3, 1) := by decide +kernel
theorem dX6_addFrom_21 : decode cX6_addFrom 21 = .ok (.iload 4, 2) := by decide +kernel
theorem dX6_addFrom_23 : decode cX6_addFrom 23 = .ok (.iconst 1, 1) := by decide +kernel
theorem dX6_addFrom_24 : decode cX6_addFrom 24 = .ok (.invokevirtual 63, 3) := by decide +kernel
theorem dX6_addFrom_27 : decode cX6_addFrom 27 = .ok (.iload_n 2, 1) := by decide +kernel
theorem dX6_addFrom_28 : decode cX6_addFrom 28 = .ok (.ifCond .eq 12, 3) := by decide +kernel
theorem dX6_addFrom_31 : decode cX6_addFrom 31 = .ok (.aload_n 0, 1) := by decide +kernel
theorem dX6_addFrom_32 : decode cX6_addFrom 32 = .ok (.getfield 25, 3) := by decide +kernel
theorem dX6_addFrom_35 : decode cX6_addFrom 35 = .ok (.iload 4, 2) := by decide +kernel
theorem dX6_addFrom_37 : decode cX6_addFrom 37 = .ok (.invokevirtual 67, 3) := by decide +kernel
theorem dX6_addFrom_40 : decode cX6_addFrom 40 = .ok (.iinc 4 1, 3) := by decide +kernel
theorem dX6_addFrom_43 : decode cX6_addFrom 43 = .ok (.goto (-36), 3) := by decide +kernel
theorem dX6_addFrom_46 : decode cX6_addFrom 46 = .ok (.return_, 1) := by decide +kernel
theorem dX6_isRareNext_0 : decode cX6_isRareNext 0 = .ok (.aload_n 0, 1) := by decide +kernel
theorem dX6_isRareNext_1 : decode cX6_isRareNext 1 = .ok (.invokevirtual 70, 3) := by decide +kernel
theorem dX6_isRareNext_4 : decode cX6_isRareNext 4 = .ok (.aload_n 0, 1) := by decide +kernel
theorem dX6_isRareNext_5 : decode cX6_isRareNext 5 = .ok (.getfield 35, 3) := by decide +kernel
theorem dX6_isRareNext_8 : decode cX6_isRareNext 8 = .ok (.iconst 0, 1) := by decide +kernel
theorem dX6_isRareNext_9 : decode cX6_isRareNext 9 = .ok (.iaload, 1) := by decide +kernel
theorem dX6_isRareNext_10 : decode cX6_isRareNext 10 = .ok (.aload_n 0, 1) := by decide +kernel
theorem dX6_isRareNext_11 : decode cX6_isRareNext 11 = .ok (.getfield 35, 3) := by decide +kernel
theorem dX6_isRareNext_14 : decode cX6_isRareNext 14 = .ok (.iconst 1, 1) := by decide +kernel
theorem dX6_isRareNext_15 : decode cX6_isRareNext 15 = .ok (.iaload, 1) := by decide +kernel
theorem dX6_isRareNext_16 : decode cX6_isRareNext 16 = .ok (.iadd, 1) := by decide +kernel
theorem dX6_isRareNext_17 : decode cX6_isRareNext 17 = .ok (.istore 4, 2) := by decide +kernel
theorem dX6_isRareNext_19 : decode cX6_isRareNext 19 = .ok (.aload_n 0, 1) := by decide +kernel
theorem dX6_isRareNext_20 : decode cX6_isRareNext 20 = .ok (.getfield 29, 3) := by decide +kernel
theorem dX6_isRareNext_23 : decode cX6_isRareNext 23 = .ok (.invokevirtual 73, 3) := by decide +kernel
theorem dX6_isRareNext_26 : decode cX6_isRareNext 26 = .ok (.iconst 0, 1) := by decide +kernel
theorem dX6_isRareNext_27 : decode cX6_isRareNext 27 = .ok (.istore 5, 2) := by decide +kernel
theorem dX6_isRareNext_29 : decode cX6_isRareNext 29 = .ok (.iload 5, 2) := by decide +kernel
theorem dX6_isRareNext_31 : decode cX6_isRareNext 31 = .ok (.aload_n 0, 1) := by decide +kernel
theorem dX6_isRareNext_32 : decode cX6_isRareNext 32 = .ok (.getfield 39, 3) := by decide +kernel
theorem dX6_isRareNext_35 : decode cX6_isRareNext 35 = .ok (.if_icmp .gt 58, 3) := by decide +kernel
theorem dX6_isRareNext_38 : decode cX6_isRareNext 38 = .ok (.iload 5, 2) := by decide +kernel
theorem dX6_isRareNext_40 : decode cX6_isRareNext 40 = .ok (.iload 4, 2) := by decide +kernel
theorem dX6_isRareNext_42 : decode cX6_isRareNext 42 = .ok (.imul, 1) := by decide +kernel
theorem dX6_isRareNext_43 : decode cX6_isRareNext 43 = .ok (.aload_n 0, 1) := by decide +kernel
theorem dX6_isRareNext_44 : decode cX6_isRareNext 44 = .ok (.getfield 35, 3) := by decide +kernel
theorem dX6_isRareNext_47 : decode cX6_isRareNext 47 = .ok (.iconst 1, 1) := by decide +kernel
theorem dX6_isRareNext_48 : decode cX6_isRareNext 48 = .ok (.iaload, 1) := by decide +kernel
theorem dX6_isRareNext_49 : decode cX6_isRareNext 49 = .ok (.aload_n 0, 1) := by decide +kernel
theorem dX6_isRareNext_50 : decode cX6_isRareNext 50 = .ok (.getfield 39, 3) := by decide +kernel
theorem dX6_isRareNext_53 : decode cX6_isRareNext 53 = .ok (.imul, 1) := by decide +kernel
theorem dX6_isRareNext_54 : decode cX6_isRareNext 54 = .ok (.isub, 1) := by decide +kernel
theorem dX6_isRareNext_55 : decode cX6_isRareNext 55 = .ok (.invokestatic 76, 3) := by decide +kernel
theorem dX6_isRareNext_58 : decode cX6_isRareNext 58 = .ok (.bipush 100, 2) := by decide +kernel
theorem dX6_isRareNext_60 : decode cX6_isRareNext 60 = .ok (.imul, 1) := by decide +kernel
theorem dX6_isRareNext_61 : decode cX6_isRareNext 61 = .ok (.iload_n 1, 1) := by decide +kernel
theorem dX6_isRareNext_62 : decode cX6_isRareNext 62 = .ok (.aload_n 0, 1) := by decide +kernel
theorem dX6_isRareNext_63 : decode cX6_isRareNext 63 = .ok (.getfield 39, 3) := by decide +kernel
theorem dX6_isRareNext_66 : decode cX6_isRareNext 66 = .ok (.imul, 1) := by decide +kernel
theorem dX6_isRareNext_67 : decode cX6_isRareNext 67 = .ok (.iload 4, 2) := by decide +kernel
theorem dX6_isRareNext_69 : decode cX6_isRareNext 69 = .ok (.imul, 1) := by decide +kernel
theorem dX6_isRareNext_70 : decode cX6_isRareNext 70 = .ok (.if_icmp .lt 17, 3) := by decide +kernel
theorem dX6_isRareNext_73 : decode cX6_isRareNext 73 = .ok (.aload_n 0, 1) := by decide +kernel
theorem dX6_isRareNext_74 : decode cX6_isRareNext 74 = .ok (.getfield 25, 3) := by decide +kernel
theorem dX6_isRareNext_77 : decode cX6_isRareNext 77 = .ok (.aload_n 0, 1) := by decide +kernel
theorem dX6_isRareNext_78 : decode cX6_isRareNext 78 = .ok (.getfield 29, 3) := by decide +kernel
theorem dX6_isRareNext_81 : decode cX6_isRareNext 81 = .ok (.iload 5, 2) := by decide +kernel
theorem dX6_isRareNext_83 : decode cX6_isRareNext 83 = .ok (.iconst 1, 1) := by decide +kernel
theorem dX6_isRareNext_84 : decode cX6_isRareNext 84 = .ok (.invokevirtual 63, 3) := by decide +kernel
theorem dX6_isRareNext_87 : decode cX6_isRareNext 87 = .ok (.iinc 5 1, 3) := by decide +kernel
theorem dX6_isRareNext_90 : decode cX6_isRareNext 90 = .ok (.goto (-61), 3) := by decide +kernel
theorem dX6_isRareNext_93 : decode cX6_isRareNext 93 = .ok (.aload_n 0, 1) := by decide +kernel
theorem dX6_isRareNext_94 : decode cX6_isRareNext 94 = .ok (.getfield 29, 3) := by decide +kernel
theorem dX6_isRareNext_97 : decode cX6_isRareNext 97 = .ok (.iload_n 3, 1) := by decide +kernel
theorem dX6_isRareNext_98 : decode cX6_isRareNext 98 = .ok (.i2l, 1) := by decide +kernel
theorem dX6_isRareNext_99 : decode cX6_isRareNext 99 = .ok (.invokevirtual 54, 3) := by decide +kernel
theorem dX6_isRareNext_102 : decode cX6_isRareNext 102 = .ok (.aload_n 0, 1) := by decide +kernel
theorem dX6_isRareNext_103 : decode cX6_isRareNext 103 = .ok (.getfield 32, 3) := by decide +kernel
theorem dX6_isRareNext_106 : decode cX6_isRareNext 106 = .ok (.aload_n 0, 1) := by decide +kernel
theorem dX6_isRareNext_107 : decode cX6_isRareNext 107 = .ok (.getfield 14, 3) := by decide +kernel
theorem dX6_isRareNext_110 : decode cX6_isRareNext 110 = .ok (.invokevirtual 80, 3) := by decide +kernel
theorem dX6_isRareNext_113 : decode cX6_isRareNext 113 = .ok (.aload_n 0, 1) := by decide +kernel
theorem dX6_isRareNext_114 : decode cX6_isRareNext 114 = .ok (.getfield 32, 3) := by decide +kernel
theorem dX6_isRareNext_117 : decode cX6_isRareNext 117 = .ok (.iload_n 2, 1) := by decide +kernel
theorem dX6_isRareNext_118 : decode cX6_isRareNext 118 = .ok (.i2l, 1) := by decide +kernel
theorem dX6_isRareNext_119 : decode cX6_isRareNext 119 = .ok (.invokevirtual 54, 3) := by decide +kernel
theorem dX6_isRareNext_122 : decode cX6_isRareNext 122 = .ok (.aload_n 0, 1) := by decide +kernel
theorem dX6_isRareNext_123 : decode cX6_isRareNext 123 = .ok (.getfield 29, 3) := by decide +kernel
theorem dX6_isRareNext_126 : decode cX6_isRareNext 126 = .ok (.aload_n 0, 1) := by decide +kernel
theorem dX6_isRareNext_127 : decode cX6_isRareNext 127 = .ok (.getfield 32, 3) := by decide +kernel
theorem dX6_isRareNext_130 : decode cX6_isRareNext 130 = .ok (.invokevirtual 84, 3) := by decide +kernel
theorem dX6_isRareNext_133 : decode cX6_isRareNext 133 = .ok (.ifCond .gt 7, 3) := by decide +kernel
theorem dX6_isRareNext_136 : decode cX6_isRareNext 136 = .ok (.iconst 1, 1) := by decide +kernel
theorem dX6_isRareNext_137 : decode cX6_isRareNext 137 = .ok (.goto 4, 3) := by decide +kernel
theorem dX6_isRareNext_140 : decode cX6_isRareNext 140 = .ok (.iconst 0, 1) := by decide +kernel
theorem dX6_isRareNext_141 : decode cX6_isRareNext 141 = .ok (.ireturn, 1) := by decide +kernel
theorem dX0_init_0 : decode cX0_init 0 = .ok (.aload_n 0, 1) := by decide +kernel
theorem dX0_init_1 : decode cX0_init 1 = .ok (.invokespecial 3, 3) := by decide +kernel
theorem dX0_init_4 : decode cX0_init 4 = .ok (.aload_n 0, 1) := by decide +kernel
theorem dX0_init_5 : decode cX0_init 5 = .ok (.new 9, 3) := by decide +kernel
theorem dX0_init_8 : decode cX0_init 8 = .ok (.dup, 1) := by decide +kernel
theorem dX0_init_9 : decode cX0_init 9 = .ok (.bipush 72, 2) := by decide +kernel
theorem dX0_init_11 : decode cX0_init 11 = .ok (.invokespecial 11, 3) := by decide +kernel
theorem dX0_init_14 : decode cX0_init 14 = .ok (.putfield 14, 3) := by decide +kernel
theorem dX0_init_17 : decode cX0_init 17 = .ok (.aload_n 0, 1) := by decide +kernel
theorem dX0_init_18 : decode cX0_init 18 = .ok (.new 9, 3) := by decide +kernel
theorem dX0_init_21 : decode cX0_init 21 = .ok (.dup, 1) := by decide +kernel
theorem dX0_init_22 : decode cX0_init 22 = .ok (.bipush 72, 2) := by decide +kernel
theorem dX0_init_24 : decode cX0_init 24 = .ok (.invokespecial 11, 3) := by decide +kernel
theorem dX0_init_27 : decode cX0_init 27 = .ok (.putfield 20, 3) := by decide +kernel
theorem dX0_init_30 : decode cX0_init 30 = .ok (.aload_n 0, 1) := by decide +kernel
theorem dX0_init_31 : decode cX0_init 31 = .ok (.new 9, 3) := by decide +kernel
theorem dX0_init_34 : decode cX0_init 34 = .ok (.dup, 1) := by decide +kernel
theorem dX0_init_35 : decode cX0_init 35 = .ok (.bipush 72, 2) := by decide +kernel
theorem dX0_init_37 : decode cX0_init 37 = .ok (.invokespecial 11, 3) := by decide +kernel
theorem dX0_init_40 : decode cX0_init 40 = .ok (.putfield 23, 3) := by decide +kernel
theorem dX0_init_43 : decode cX0_init 43 = .ok (.aload_n 0, 1) := by decide +kernel
theorem dX0_init_44 : decode cX0_init 44 = .ok (.new 9, 3) := by decide +kernel
theorem dX0_init_47 : decode cX0_init 47 = .ok (.dup, 1) := by decide +kernel
theorem dX0_init_48 : decode cX0_init 48 = .ok (.bipush 72, 2) := by decide +kernel
theorem dX0_init_50 : decode cX0_init 50 = .ok (.invokespecial 11, 3) := by decide +kernel
theorem dX0_init_53 : decode cX0_init 53 = .ok (.putfield 26, 3) := by decide +kernel
theorem dX0_init_56 : decode cX0_init 56 = .ok (.aload_n 0, 1) := by decide +kernel
theorem dX0_init_57 : decode cX0_init 57 = .ok (.new 9, 3) := by decide +kernel
theorem dX0_init_60 : decode cX0_init 60 = .ok (.dup, 1) := by decide +kernel
theorem dX0_init_61 : decode cX0_init 61 = .ok (.bipush 72, 2) := by decide +kernel
theorem dX0_init_63 : decode cX0_init 63 = .ok (.invokespecial 11, 3) := by decide +kernel
theorem dX0_init_66 : decode cX0_init 66 = .ok (.putfield 29, 3) := by decide +kernel
theorem dX0_init_69 : decode cX0_init 69 = .ok (.aload_n 0, 1) := by decide +kernel
theorem dX0_init_70 : decode cX0_init 70 = .ok (.lconst 1, 1) := by decide +kernel
theorem dX0_init_71 : decode cX0_init 71 = .ok (.putfield 32, 3) := by decide +kernel
theorem dX0_init_74 : decode cX0_init 74 = .ok (.aload_n 0, 1) := by decide +kernel
theorem dX0_init_75 : decode cX0_init 75 = .ok (.lconst 0, 1) := by decide +kernel
theorem dX0_init_76 : decode cX0_init 76 = .ok (.putfield 36, 3) := by decide +kernel
theorem dX0_init_79 : decode cX0_init 79 = .ok (.aload_n 0, 1) := by decide +kernel
theorem dX0_init_80 : decode cX0_init 80 = .ok (.lconst 0, 1) := by decide +kernel
theorem dX0_init_81 : decode cX0_init 81 = .ok (.putfield 39, 3) := by decide +kernel
theorem dX0_init_84 : decode cX0_init 84 = .ok (.aload_n 0, 1) := by decide +kernel
theorem dX0_init_85 : decode cX0_init 85 = .ok (.lconst 1, 1) := by decide +kernel
theorem dX0_init_86 : decode cX0_init 86 = .ok (.putfield 42, 3) := by decide +kernel
theorem dX0_init_89 : decode cX0_init 89 = .ok (.return_, 1) := by decide +kernel
theorem dX0_toLowestTerms_0 : decode cX0_toLowestTerms 0 = .ok (.aload_n 0, 1) := by decide +kernel
theorem dX0_toLowestTerms_1 : decode cX0_toLowestTerms 1 = .ok (.aload_n 1, 1) := by decide +kernel
theorem dX0_toLowestTerms_2 : decode cX0_toLowestTerms 2 = .ok (.getfield 45, 3) := by decide +kernel
theorem dX0_toLowestTerms_5 : decode cX0_toLowestTerms 5 = .ok (.aload_n 1, 1) := by decide +kernel
theorem dX0_toLowestTerms_6 : decode cX0_toLowestTerms 6 = .ok (.getfield 50, 3) := by decide +kernel
theorem dX0_toLowestTerms_9 : decode cX0_toLowestTerms 9 = .ok (.invokevirtual 53, 3) := by decide +kernel
theorem dX0_toLowestTerms_12 : decode cX0_toLowestTerms 12 = .ok (.aload_n 0, 1) := by decide +kernel
theorem dX0_toLowestTerms_13 : decode cX0_toLowestTerms 13 = .ok (.getfield 26, 3) := by decide +kernel
theorem dX0_toLowestTerms_16 : decode cX0_toLowestTerms 16 = .ok (.invokevirtual 57, 3) := by decide +kernel
theorem dX0_toLowestTerms_19 : decode cX0_toLowestTerms 19 = .ok (.ifCond .eq 4, 3) := by decide +kernel
theorem dX0_toLowestTerms_22 : decode cX0_toLowestTerms 22 = .ok (.return_, 1) := by decide +kernel
theorem dX0_toLowestTerms_23 : decode cX0_toLowestTerms 23 = .ok (.aload_n 1, 1) := by decide +kernel
theorem dX0_toLowestTerms_24 : decode cX0_toLowestTerms 24 = .ok (.getfield 45, 3) := by decide +kernel
theorem dX0_toLowestTerms_27 : decode cX0_toLowestTerms 27 = .ok (.aload_n 0, 1) := by decide +kernel
theorem dX0_toLowestTerms_28 : decode cX0_toLowestTerms 28 = .ok (.aload_n 1, 1) := by decide +kernel
theorem dX0_toLowestTerms_29 : decode cX0_toLowestTerms 29 = .ok (.getfield 45, 3) := by decide +kernel
theorem dX0_toLowestTerms_32 : decode cX0_toLowestTerms 32 = .ok (.aload_n 0, 1) := by decide +kernel
theorem dX0_toLowestTerms_33 : decode cX0_toLowestTerms 33 = .ok (.getfield 26, 3) := by decide +kernel
theorem dX0_toLowestTerms_36 : decode cX0_toLowestTerms 36 = .ok (.invokevirtual 61, 3) := by decide +kernel
theorem dX0_toLowestTerms_39 : decode cX0_toLowestTerms 39 = .ok (.invokevirtual 65, 3) := by decide +kernel
theorem dX0_toLowestTerms_42 : decode cX0_toLowestTerms 42 = .ok (.aload_n 1, 1) := by decide +kernel
theorem dX0_toLowestTerms_43 : decode cX0_toLowestTerms 43 = .ok (.getfield 50, 3) := by decide +kernel
theorem dX0_toLowestTerms_46 : decode cX0_toLowestTerms 46 = .ok (.aload_n 0, 1) := by decide +kernel
theorem dX0_toLowestTerms_47 : decode cX0_toLowestTerms 47 = .ok (.aload_n 1, 1) := by decide +kernel
theorem dX0_toLowestTerms_48 : decode cX0_toLowestTerms 48 = .ok (.getfield 50, 3) := by decide +kernel
theorem dX0_toLowestTerms_51 : decode cX0_toLowestTerms 51 = .ok (.aload_n 0, 1) := by decide +kernel
theorem dX0_toLowestTerms_52 : decode cX0_toLowestTerms 52 = .ok (.getfield 26, 3) := by decide +kernel
theorem dX0_toLowestTerms_55 : decode cX0_toLowestTerms 55 = .ok (.invokevirtual 61, 3) := by decide +kernel
theorem dX0_toLowestTerms_58 : decode cX0_toLowestTerms 58 = .ok (.invokevirtual 65, 3) := by decide +kernel
theorem dX0_toLowestTerms_61 : decode cX0_toLowestTerms 61 = .ok (.return_, 1) := by decide +kernel
theorem dX0_divide_0 : decode cX0_divide 0 = .ok (.aload_n 0, 1) := by decide +kernel
theorem dX0_divide_1 : decode cX0_divide 1 = .ok (.getfield 14, 3) := by decide +kernel
theorem dX0_divide_4 : decode cX0_divide 4 = .ok (.invokevirtual 69, 3) := by decide +kernel
theorem dX0_divide_7 : decode cX0_divide 7 = .ok (.aload_n 2, 1) := by decide +kernel
theorem dX0_divide_8 : decode cX0_divide 8 = .ok (.getfield 72, 3) := by decide +kernel
theorem dX0_divide_11 : decode cX0_divide 11 = .ok (.bipush 32, 2) := by decide +kernel
theorem dX0_divide_13 : decode cX0_divide 13 = .ok (.imul, 1) := by decide +kernel
theorem dX0_divide_14 : decode cX0_divide 14 = .ok (.aload_n 2, 1) := by decide +kernel
theorem dX0_divide_15 : decode cX0_divide 15 = .ok (.invokevirtual 76, 3) := by decide +kernel
theorem dX0_divide_18 : decode cX0_divide 18 = .ok (.isub, 1) := by decide +kernel
theorem dX0_divide_19 : decode cX0_divide 19 = .ok (.istore_n 3, 1) := by decide +kernel
theorem dX0_divide_20 : decode cX0_divide 20 = .ok (.aload_n 0, 1) := by decide +kernel
theorem dX0_divide_21 : decode cX0_divide 21 = .ok (.getfield 20, 3) := by decide +kernel
theorem dX0_divide_24 : decode cX0_divide 24 = .ok (.aload_n 2, 1) := by decide +kernel
theorem dX0_divide_25 : decode cX0_divide 25 = .ok (.iload_n 3, 1) := by decide +kernel
theorem dX0_divide_26 : decode cX0_divide 26 = .ok (.invokevirtual 80, 3) := by decide +kernel
theorem dX0_divide_29 : decode cX0_divide 29 = .ok (.aload_n 0, 1) := by decide +kernel
theorem dX0_divide_30 : decode cX0_divide 30 = .ok (.getfield 23, 3) := by decide +kernel
theorem dX0_divide_33 : decode cX0_divide 33 = .ok (.aload_n 1, 1) := by decide +kernel
theorem dX0_divide_34 : decode cX0_divide 34 = .ok (.iload_n 3, 1) := by decide +kernel
theorem dX0_divide_35 : decode cX0_divide 35 = .ok (.invokevirtual 80, 3) := by decide +kernel
theorem dX0_divide_38 : decode cX0_divide 38 = .ok (.aload_n 0, 1) := by decide +kernel
theorem dX0_divide_39 : decode cX0_divide 39 = .ok (.getfield 23, 3) := by decide +kernel
theorem dX0_divide_42 : decode cX0_divide 42 = .ok (.getfield 72, 3) := by decide +kernel
theorem dX0_divide_45 : decode cX0_divide 45 = .ok (.aload_n 0, 1) := by decide +kernel
theorem dX0_divide_46 : decode cX0_divide 46 = .ok (.getfield 20, 3) := by decide +kernel
theorem dX0_divide_49 : decode cX0_divide 49 = .ok (.getfield 72, 3) := by decide +kernel
theorem dX0_divide_52 : decode cX0_divide 52 = .ok (.isub, 1) := by decide +kernel
theorem dX0_divide_53 : decode cX0_divide 53 = .ok (.istore 4, 2) := by decide +kernel
theorem dX0_divide_55 : decode cX0_divide 55 = .ok (.aload_n 0, 1) := by decide +kernel
theorem dX0_divide_56 : decode cX0_divide 56 = .ok (.getfield 20, 3) := by decide +kernel
theorem dX0_divide_59 : decode cX0_divide 59 = .ok (.getfield 72, 3) := by decide +kernel
theorem dX0_divide_62 : decode cX0_divide 62 = .ok (.ifCond .le 121, 3) := by decide +kernel
theorem dX0_divide_65 : decode cX0_divide 65 = .ok (.iload 4, 2) := by decide +kernel
theorem dX0_divide_67 : decode cX0_divide 67 = .ok (.ifCond .lt 116, 3) := by decide +kernel
theorem dX0_divide_70 : decode cX0_divide 70 = .ok (.iload 4, 2) := by decide +kernel
theorem dX0_divide_72 : decode cX0_divide 72 = .ok (.aload_n 0, 1) := by decide +kernel
theorem dX0_divide_73 : decode cX0_divide 73 = .ok (.getfield 14, 3) := by decide +kernel
theorem dX0_divide_76 : decode cX0_divide 76 = .ok (.getfield 84, 3) := by decide +kernel
theorem dX0_divide_79 : decode cX0_divide 79 = .ok (.arraylength, 1) := by decide +kernel
theorem dX0_divide_80 : decode cX0_divide 80 = .ok (.if_icmp .ge 103, 3) := by decide +kernel
theorem dX0_divide_83 : decode cX0_divide 83 = .ok (.aload_n 0, 1) := by decide +kernel
theorem dX0_divide_84 : decode cX0_divide 84 = .ok (.getfield 23, 3) := by decide +kernel
theorem dX0_divide_87 : decode cX0_divide 87 = .ok (.aload_n 0, 1) := by decide +kernel
theorem dX0_divide_88 : decode cX0_divide 88 = .ok (.getfield 23, 3) := by decide +kernel
theorem dX0_divide_91 : decode cX0_divide 91 = .ok (.getfield 72, 3) := by decide +kernel
theorem dX0_divide_94 : decode cX0_divide 94 = .ok (.iconst 1, 1) := by decide +kernel
theorem dX0_divide_95 : decode cX0_divide 95 = .ok (.iadd, 1) := by decide +kernel
theorem dX0_divide_96 : decode cX0_divide 96 = .ok (.invokevirtual 88, 3) := by decide +kernel
theorem dX0_divide_99 : decode cX0_divide 99 = .ok (.aload_n 0, 1) := by decide +kernel
theorem dX0_divide_100 : decode cX0_divide 100 = .ok (.getfield 14, 3) := by decide +kernel
theorem dX0_divide_103 : decode cX0_divide 103 = .ok (.iload 4, 2) := by decide +kernel
theorem dX0_divide_105 : decode cX0_divide 105 = .ok (.iconst 1, 1) := by decide +kernel
theorem dX0_divide_106 : decode cX0_divide 106 = .ok (.iadd, 1) := by decide +kernel
theorem dX0_divide_107 : decode cX0_divide 107 = .ok (.invokevirtual 88, 3) := by decide +kernel
theorem dX0_divide_110 : decode cX0_divide 110 = .ok (.iload 4, 2) := by decide +kernel
theorem dX0_divide_112 : decode cX0_divide 112 = .ok (.istore 5, 2) := by decide +kernel
theorem dX0_divide_114 : decode cX0_divide 114 = .ok (.iload 5, 2) := by decide +kernel
theorem dX0_divide_116 : decode cX0_divide 116 = .ok (.ifCond .lt 53, 3) := by decide +kernel
theorem dX0_divide_119 : decode cX0_divide 119 = .ok (.aload_n 0, 1) := by decide +kernel
theorem dX0_divide_120 : decode cX0_divide 120 = .ok (.iload 5, 2) := by decide +kernel
theorem dX0_divide_122 : decode cX0_divide 122 = .ok (.invokevirtual 91, 3) := by decide +kernel
theorem dX0_divide_125 : decode cX0_divide 125 = .ok (.lstore 6, 2) := by decide +kernel
theorem dX0_divide_127 : decode cX0_divide 127 = .ok (.aload_n 0, 1) := by decide +kernel
theorem dX0_divide_128 : decode cX0_divide 128 = .ok (.iload 5, 2) := by decide +kernel
theorem dX0_divide_130 : decode cX0_divide 130 = .ok (.lload 6, 2) := by decide +kernel
theorem dX0_divide_132 : decode cX0_divide 132 = .ok (.invokevirtual 95, 3) := by decide +kernel
theorem dX0_divide_135 : decode cX0_divide 135 = .ok (.ifCond .eq 15, 3) := by decide +kernel
theorem dX0_divide_138 : decode cX0_divide 138 = .ok (.aload_n 0, 1) := by decide +kernel
theorem dX0_divide_139 : decode cX0_divide 139 = .ok (.iload 5, 2) := by decide +kernel
theorem dX0_divide_141 : decode cX0_divide 141 = .ok (.invokevirtual 99, 3) := by decide +kernel
theorem dX0_divide_144 : decode cX0_divide 144 = .ok (.lload 6, 2) := by decide +kernel
theorem dX0_divide_146 : decode cX0_divide 146 = .ok (.lconst 1, 1) := by decide +kernel
theorem dX0_divide_147 : decode cX0_divide 147 = .ok (.lsub, 1) := by decide +kernel
theorem dX0_divide_148 : decode cX0_divide 148 = .ok (.lstore 6, 2) := by decide +kernel
theorem dX0_divide_150 : decode cX0_divide 150 = .ok (.aload_n 0, 1) := by decide +kernel
theorem dX0_divide_151 : decode cX0_divide 151 = .ok (.getfield 14, 3) := by decide +kernel
theorem dX0_divide_154 : decode cX0_divide 154 = .ok (.getfield 84, 3) := by decide +kernel
theorem dX0_divide_157 : decode cX0_divide 157 = .ok (.iload 5, 2) := by decide +kernel
theorem dX0_divide_159 : decode cX0_divide 159 = .ok (.lload 6, 2) := by decide +kernel
theorem dX0_divide_161 : decode cX0_divide 161 = .ok (.l2i, 1) := by decide +kernel
theorem dX0_divide_162 : decode cX0_divide 162 = .ok (.iastore, 1) := by decide +kernel
theorem dX0_divide_163 : decode cX0_divide 163 = .ok (.iinc 5 (-1), 3) := by decide +kernel
theorem dX0_divide_166 : decode cX0_divide 166 = .ok (.goto (-52), 3) := by decide +kernel
theorem dX0_divide_169 : decode cX0_divide 169 = .ok (.aload_n 0, 1) := by decide +kernel
theorem dX0_divide_170 : decode cX0_divide 170 = .ok (.getfield 14, 3) := by decide +kernel
theorem dX0_divide_173 : decode cX0_divide 173 = .ok (.invokevirtual 102, 3) := by decide +kernel
theorem dX0_divide_176 : decode cX0_divide 176 = .ok (.aload_n 0, 1) := by decide +kernel
theorem dX0_divide_177 : decode cX0_divide 177 = .ok (.getfield 23, 3) := by decide +kernel
theorem dX0_divide_180 : decode cX0_divide 180 = .ok (.invokevirtual 102, 3) := by decide +kernel
theorem dX0_divide_183 : decode cX0_divide 183 = .ok (.aload_n 0, 1) := by decide +kernel
theorem dX0_divide_184 : decode cX0_divide 184 = .ok (.getfield 23, 3) := by decide +kernel
theorem dX0_divide_187 : decode cX0_divide 187 = .ok (.iload_n 3, 1) := by decide +kernel
theorem dX0_divide_188 : decode cX0_divide 188 = .ok (.invokevirtual 105, 3) := by decide +kernel
theorem dX0_divide_191 : decode cX0_divide 191 = .ok (.aload_n 0, 1) := by decide +kernel
theorem dX0_divide_192 : decode cX0_divide 192 = .ok (.getfield 14, 3) := by decide +kernel
theorem dX0_divide_195 : decode cX0_divide 195 = .ok (.areturn, 1) := by decide +kernel
theorem dX0_guessAt_0 : decode cX0_guessAt 0 = .ok (.aload_n 0, 1) := by decide +kernel
theorem dX0_guessAt_1 : decode cX0_guessAt 1 = .ok (.getfield 20, 3) := by decide +kernel
theorem dX0_guessAt_4 : decode cX0_guessAt 4 = .ok (.getfield 72, 3) := by decide +kernel
theorem dX0_guessAt_7 : decode cX0_guessAt 7 = .ok (.istore_n 2, 1) := by decide +kernel
theorem dX0_guessAt_8 : decode cX0_guessAt 8 = .ok (.aload_n 0, 1) := by decide +kernel
theorem dX0_guessAt_9 : decode cX0_guessAt 9 = .ok (.getfield 20, 3) := by decide +kernel
theorem dX0_guessAt_12 : decode cX0_guessAt 12 = .ok (.iload_n 2, 1) := by decide +kernel
theorem dX0_guessAt_13 : decode cX0_guessAt 13 = .ok (.iconst 1, 1) := by decide +kernel
theorem dX0_guessAt_14 : decode cX0_guessAt 14 = .ok (.isub, 1) := by decide +kernel
theorem dX0_guessAt_15 : decode cX0_guessAt 15 = .ok (.invokevirtual 108, 3) := by decide +kernel
theorem dX0_guessAt_18 : decode cX0_guessAt 18 = .ok (.lstore_n 3, 1) := by decide +kernel
theorem dX0_guessAt_19 : decode cX0_guessAt 19 = .ok (.aload_n 0, 1) := by decide +kernel
theorem dX0_guessAt_20 : decode cX0_guessAt 20 = .ok (.getfield 20, 3) := by decide +kernel
theorem dX0_guessAt_23 : decode cX0_guessAt 23 = .ok (.iload_n 2, 1) := by decide +kernel
theorem dX0_guessAt_24 : decode cX0_guessAt 24 = .ok (.iconst 2, 1) := by decide +kernel
theorem dX0_guessAt_25 : decode cX0_guessAt 25 = .ok (.isub, 1) := by decide +kernel
theorem dX0_guessAt_26 : decode cX0_guessAt 26 = .ok (.invokevirtual 108, 3) := by decide +kernel
theorem dX0_guessAt_29 : decode cX0_guessAt 29 = .ok (.lstore 5, 2) := by decide +kernel
theorem dX0_guessAt_31 : decode cX0_guessAt 31 = .ok (.aload_n 0, 1) := by decide +kernel
theorem dX0_guessAt_32 : decode cX0_guessAt 32 = .ok (.getfield 23, 3) := by decide +kernel
theorem dX0_guessAt_35 : decode cX0_guessAt 35 = .ok (.iload_n 1, 1) := by decide +kernel
theorem dX0_guessAt_36 : decode cX0_guessAt 36 = .ok (.iload_n 2, 1) := by decide +kernel
theorem dX0_guessAt_37 : decode cX0_guessAt 37 = .ok (.iadd, 1) := by decide +kernel
theorem dX0_guessAt_38 : decode cX0_guessAt 38 = .ok (.invokevirtual 108, 3) := by decide +kernel
theorem dX0_guessAt_41 : decode cX0_guessAt 41 = .ok (.lstore 7, 2) := by decide +kernel
theorem dX0_guessAt_43 : decode cX0_guessAt 43 = .ok (.aload_n 0, 1) := by decide +kernel
theorem dX0_guessAt_44 : decode cX0_guessAt 44 = .ok (.getfield 23, 3) := by decide +kernel
theorem dX0_guessAt_47 : decode cX0_guessAt 47 = .ok (.iload_n 1, 1) := by decide +kernel
theorem dX0_guessAt_48 : decode cX0_guessAt 48 = .ok (.iload_n 2, 1) := by decide +kernel
theorem dX0_guessAt_49 : decode cX0_guessAt 49 = .ok (.iadd, 1) := by decide +kernel
theorem dX0_guessAt_50 : decode cX0_guessAt 50 = .ok (.iconst 1, 1) := by decide +kernel
theorem dX0_guessAt_51 : decode cX0_guessAt 51 = .ok (.isub, 1) := by decide +kernel
theorem dX0_guessAt_52 : decode cX0_guessAt 52 = .ok (.invokevirtual 108, 3) := by decide +kernel
theorem dX0_guessAt_55 : decode cX0_guessAt 55 = .ok (.lstore 9, 2) := by decide +kernel
theorem dX0_guessAt_57 : decode cX0_guessAt 57 = .ok (.lload 7, 2) := by decide +kernel
theorem dX0_guessAt_59 : decode cX0_guessAt 59 = .ok (.lload_n 3, 1) := by decide +kernel
theorem dX0_guessAt_60 : decode cX0_guessAt 60 = .ok (.lcmp, 1) := by decide +kernel
theorem dX0_guessAt_61 : decode cX0_guessAt 61 = .ok (.ifCond .lt 9, 3) := by decide +kernel
theorem dX0_guessAt_64 : decode cX0_guessAt 64 = .ok (.ldc2_w 111, 3) := by decide +kernel
theorem dX0_guessAt_67 : decode cX0_guessAt 67 = .ok (.goto 15, 3) := by decide +kernel
theorem dX0_guessAt_70 : decode cX0_guessAt 70 = .ok (.lload 7, 2) := by decide +kernel
theorem dX0_guessAt_72 : decode cX0_guessAt 72 = .ok (.bipush 32, 2) := by decide +kernel
theorem dX0_guessAt_74 : decode cX0_guessAt 74 = .ok (.lshl, 1) := by decide +kernel
theorem dX0_guessAt_75 : decode cX0_guessAt 75 = .ok (.lload 9, 2) := by decide +kernel
theorem dX0_guessAt_77 : decode cX0_guessAt 77 = .ok (.lor, 1) := by decide +kernel
theorem dX0_guessAt_78 : decode cX0_guessAt 78 = .ok (.lload_n 3, 1) := by decide +kernel
theorem dX0_guessAt_79 : decode cX0_guessAt 79 = .ok (.invokestatic 113, 3) := by decide +kernel
theorem dX0_guessAt_82 : decode cX0_guessAt 82 = .ok (.lstore 11, 2) := by decide +kernel
theorem dX0_guessAt_84 : decode cX0_guessAt 84 = .ok (.lload 7, 2) := by decide +kernel
theorem dX0_guessAt_86 : decode cX0_guessAt 86 = .ok (.bipush 32, 2) := by decide +kernel
theorem dX0_guessAt_88 : decode cX0_guessAt 88 = .ok (.lshl, 1) := by decide +kernel
theorem dX0_guessAt_89 : decode cX0_guessAt 89 = .ok (.lload 9, 2) := by decide +kernel
theorem dX0_guessAt_91 : decode cX0_guessAt 91 = .ok (.lor, 1) := by decide +kernel
theorem dX0_guessAt_92 : decode cX0_guessAt 92 = .ok (.lload 11, 2) := by decide +kernel
theorem dX0_guessAt_94 : decode cX0_guessAt 94 = .ok (.lload_n 3, 1) := by decide +kernel
theorem dX0_guessAt_95 : decode cX0_guessAt 95 = .ok (.lmul, 1) := by decide +kernel
theorem dX0_guessAt_96 : decode cX0_guessAt 96 = .ok (.lsub, 1) := by decide +kernel
theorem dX0_guessAt_97 : decode cX0_guessAt 97 = .ok (.lstore 13, 2) := by decide +kernel
theorem dX0_guessAt_99 : decode cX0_guessAt 99 = .ok (.iconst 0, 1) := by decide +kernel
theorem dX0_guessAt_100 : decode cX0_guessAt 100 = .ok (.istore 15, 2) := by decide +kernel
theorem dX0_guessAt_102 : decode cX0_guessAt 102 = .ok (.iload 15, 2) := by decide +kernel
theorem dX0_guessAt_104 : decode cX0_guessAt 104 = .ok (.iconst 2, 1) := by decide +kernel
theorem dX0_guessAt_105 : decode cX0_guessAt 105 = .ok (.if_icmp .ge 75, 3) := by decide +kernel
theorem dX0_guessAt_108 : decode cX0_guessAt 108 = .ok (.lload 13, 2) := by decide +kernel
theorem dX0_guessAt_110 : decode cX0_guessAt 110 = .ok (.lconst 0, 1) := by decide +kernel
theorem dX0_guessAt_111 : decode cX0_guessAt 111 = .ok (.lcmp, 1) := by decide +kernel
theorem dX0_guessAt_112 : decode cX0_guessAt 112 = .ok (.ifCond .lt 68, 3) := by decide +kernel
theorem dX0_guessAt_115 : decode cX0_guessAt 115 = .ok (.lload 13, 2) := by decide +kernel
theorem dX0_guessAt_117 : decode cX0_guessAt 117 = .ok (.ldc2_w 111, 3) := by decide +kernel
theorem dX0_guessAt_120 : decode cX0_guessAt 120 = .ok (.lcmp, 1) := by decide +kernel
theorem dX0_guessAt_121 : decode cX0_guessAt 121 = .ok (.ifCond .gt 59, 3) := by decide +kernel
theorem dX0_guessAt_124 : decode cX0_guessAt 124 = .ok (.lload 11, 2) := by decide +kernel
theorem dX0_guessAt_126 : decode cX0_guessAt 126 = .ok (.lload 5, 2) := by decide +kernel
theorem dX0_guessAt_128 : decode cX0_guessAt 128 = .ok (.lmul, 1) := by decide +kernel
theorem dX0_guessAt_129 : decode cX0_guessAt 129 = .ok (.ldc2_w 117, 3) := by decide +kernel
theorem dX0_guessAt_132 : decode cX0_guessAt 132 = .ok (.ladd, 1) := by decide +kernel
theorem dX0_guessAt_133 : decode cX0_guessAt 133 = .ok (.lload 13, 2) := by decide +kernel
theorem dX0_guessAt_135 : decode cX0_guessAt 135 = .ok (.bipush 32, 2) := by decide +kernel
theorem dX0_guessAt_137 : decode cX0_guessAt 137 = .ok (.lshl, 1) := by decide +kernel
theorem dX0_guessAt_138 : decode cX0_guessAt 138 = .ok (.aload_n 0, 1) := by decide +kernel
theorem dX0_guessAt_139 : decode cX0_guessAt 139 = .ok (.getfield 23, 3) := by decide +kernel
theorem dX0_guessAt_142 : decode cX0_guessAt 142 = .ok (.iload_n 1, 1) := by decide +kernel
theorem dX0_guessAt_143 : decode cX0_guessAt 143 = .ok (.iload_n 2, 1) := by decide +kernel
theorem dX0_guessAt_144 : decode cX0_guessAt 144 = .ok (.iadd, 1) := by decide +kernel
theorem dX0_guessAt_145 : decode cX0_guessAt 145 = .ok (.iconst 2, 1) := by decide +kernel
theorem dX0_guessAt_146 : decode cX0_guessAt 146 = .ok (.isub, 1) := by decide +kernel
theorem dX0_guessAt_147 : decode cX0_guessAt 147 = .ok (.invokevirtual 108, 3) := by decide +kernel
theorem dX0_guessAt_150 : decode cX0_guessAt 150 = .ok (.lor, 1) := by decide +kernel
theorem dX0_guessAt_151 : decode cX0_guessAt 151 = .ok (.ldc2_w 117, 3) := by decide +kernel
theorem dX0_guessAt_154 : decode cX0_guessAt 154 = .ok (.ladd, 1) := by decide +kernel
theorem dX0_guessAt_155 : decode cX0_guessAt 155 = .ok (.lcmp, 1) := by decide +kernel
theorem dX0_guessAt_156 : decode cX0_guessAt 156 = .ok (.ifCond .gt 6, 3) := by decide +kernel
theorem dX0_guessAt_159 : decode cX0_guessAt 159 = .ok (.goto 21, 3) := by decide +kernel
theorem dX0_guessAt_162 : decode cX0_guessAt 162 = .ok (.lload 11, 2) := by decide +kernel
theorem dX0_guessAt_164 : decode cX0_guessAt 164 = .ok (.lconst 1, 1) := by decide +kernel
theorem dX0_guessAt_165 : decode cX0_guessAt 165 = .ok (.lsub, 1) := by decide +kernel
theorem dX0_guessAt_166 : decode cX0_guessAt 166 = .ok (.lstore 11, 2) := by decide +kernel
theorem dX0_guessAt_168 : decode cX0_guessAt 168 = .ok (.lload 13, 2) := by decide +kernel
theorem dX0_guessAt_170 : decode cX0_guessAt 170 = .ok (.lload_n 3, 1) := by decide +kernel
theorem dX0_guessAt_171 : decode cX0_guessAt 171 = .ok (.ladd, 1) := by decide +kernel
theorem dX0_guessAt_172 : decode cX0_guessAt 172 = .ok (.lstore 13, 2) := by decide +kernel
theorem dX0_guessAt_174 : decode cX0_guessAt 174 = .ok (.iinc 15 1, 3) := by decide +kernel
theorem dX0_guessAt_177 : decode cX0_guessAt 177 = .ok (.goto (-75), 3) := by decide +kernel
theorem dX0_guessAt_180 : decode cX0_guessAt 180 = .ok (.lload 11, 2) := by decide +kernel
theorem dX0_guessAt_182 : decode cX0_guessAt 182 = .ok (.lreturn, 1) := by decide +kernel
theorem dX0_unsignedQuotient_0 : decode cX0_unsignedQuotient 0 = .ok (.lload_n 2, 1) := by decide +kernel
theorem dX0_unsignedQuotient_1 : decode cX0_unsignedQuotient 1 = .ok (.lconst 0, 1) := by decide +kernel
theorem dX0_unsignedQuotient_2 : decode cX0_unsignedQuotient 2 = .ok (.lcmp, 1) := by decide +kernel
theorem dX0_unsignedQuotient_3 : decode cX0_unsignedQuotient 3 = .ok (.ifCond .gt 5, 3) := by decide +kernel
theorem dX0_unsignedQuotient_6 : decode cX0_unsignedQuotient 6 = .ok (.lconst 0, 1) := by decide +kernel
theorem dX0_unsignedQuotient_7 : decode cX0_unsignedQuotient 7 = .ok (.lreturn, 1) := by decide +kernel
theorem dX0_unsignedQuotient_8 : decode cX0_unsignedQuotient 8 = .ok (.lload_n 0, 1) := by decide +kernel
theorem dX0_unsignedQuotient_9 : decode cX0_unsignedQuotient 9 = .ok (.lconst 0, 1) := by decide +kernel
theorem dX0_unsignedQuotient_10 : decode cX0_unsignedQuotient 10 = .ok (.lcmp, 1) := by decide +kernel
theorem dX0_unsignedQuotient_11 : decode cX0_unsignedQuotient 11 = .ok (.ifCond .lt 7, 3) := by decide +kernel
theorem dX0_unsignedQuotient_14 : decode cX0_unsignedQuotient 14 = .ok (.lload_n 0, 1) := by decide +kernel
theorem dX0_unsignedQuotient_15 : decode cX0_unsignedQuotient 15 = .ok (.lload_n 2, 1) := by decide +kernel
theorem dX0_unsignedQuotient_16 : decode cX0_unsignedQuotient 16 = .ok (.ldiv, 1) := by decide +kernel
theorem dX0_unsignedQuotient_17 : decode cX0_unsignedQuotient 17 = .ok (.lreturn, 1) := by decide +kernel
theorem dX0_unsignedQuotient_18 : decode cX0_unsignedQuotient 18 = .ok (.lload_n 0, 1) := by decide +kernel
theorem dX0_unsignedQuotient_19 : decode cX0_unsignedQuotient 19 = .ok (.iconst 1, 1) := by decide +kernel
theorem dX0_unsignedQuotient_20 : decode cX0_unsignedQuotient 20 = .ok (.lushr, 1) := by decide +kernel
theorem dX0_unsignedQuotient_21 : decode cX0_unsignedQuotient 21 = .ok (.lload_n 2, 1) := by decide +kernel
theorem dX0_unsignedQuotient_22 : decode cX0_unsignedQuotient 22 = .ok (.ldiv, 1) := by decide +kernel
theorem dX0_unsignedQuotient_23 : decode cX0_unsignedQuotient 23 = .ok (.iconst 1, 1) := by decide +kernel
theorem dX0_unsignedQuotient_24 : decode cX0_unsignedQuotient 24 = .ok (.lshl, 1) := by decide +kernel
theorem dX0_unsignedQuotient_25 : decode cX0_unsignedQuotient 25 = .ok (.lstore 4, 2) := by decide +kernel
theorem dX0_unsignedQuotient_27 : decode cX0_unsignedQuotient 27 = .ok (.lload_n 0, 1) := by decide +kernel
theorem dX0_unsignedQuotient_28 : decode cX0_unsignedQuotient 28 = .ok (.lload 4, 2) := by decide +kernel
theorem dX0_unsignedQuotient_30 : decode cX0_unsignedQuotient 30 = .ok (.lload_n 2, 1) := by decide +kernel
theorem dX0_unsignedQuotient_31 : decode cX0_unsignedQuotient 31 = .ok (.lmul, 1) := by decide +kernel
theorem dX0_unsignedQuotient_32 : decode cX0_unsignedQuotient 32 = .ok (.lsub, 1) := by decide +kernel
theorem dX0_unsignedQuotient_33 : decode cX0_unsignedQuotient 33 = .ok (.lload_n 2, 1) := by decide +kernel
theorem dX0_unsignedQuotient_34 : decode cX0_unsignedQuotient 34 = .ok (.lcmp, 1) := by decide +kernel
theorem dX0_unsignedQuotient_35 : decode cX0_unsignedQuotient 35 = .ok (.ifCond .lt 10, 3) := by decide +kernel
theorem dX0_unsignedQuotient_38 : decode cX0_unsignedQuotient 38 = .ok (.lload 4, 2) := by decide +kernel
theorem dX0_unsignedQuotient_40 : decode cX0_unsignedQuotient 40 = .ok (.lconst 1, 1) := by decide +kernel
theorem dX0_unsignedQuotient_41 : decode cX0_unsignedQuotient 41 = .ok (.ladd, 1) := by decide +kernel
theorem dX0_unsignedQuotient_42 : decode cX0_unsignedQuotient 42 = .ok (.goto 5, 3) := by decide +kernel
theorem dX0_unsignedQuotient_45 : decode cX0_unsignedQuotient 45 = .ok (.lload 4, 2) := by decide +kernel
theorem dX0_unsignedQuotient_47 : decode cX0_unsignedQuotient 47 = .ok (.lreturn, 1) := by decide +kernel
theorem dX0_takeAway_0 : decode cX0_takeAway 0 = .ok (.aload_n 0, 1) := by decide +kernel
theorem dX0_takeAway_1 : decode cX0_takeAway 1 = .ok (.getfield 20, 3) := by decide +kernel
theorem dX0_takeAway_4 : decode cX0_takeAway 4 = .ok (.getfield 72, 3) := by decide +kernel
theorem dX0_takeAway_7 : decode cX0_takeAway 7 = .ok (.istore 4, 2) := by decide +kernel
theorem dX0_takeAway_9 : decode cX0_takeAway 9 = .ok (.iload_n 1, 1) := by decide +kernel
theorem dX0_takeAway_10 : decode cX0_takeAway 10 = .ok (.ifCond .lt 17, 3) := by decide +kernel
theorem dX0_takeAway_13 : decode cX0_takeAway 13 = .ok (.iload_n 1, 1) := by decide +kernel
theorem dX0_takeAway_14 : decode cX0_takeAway 14 = .ok (.iload 4, 2) := by decide +kernel
theorem dX0_takeAway_16 : decode cX0_takeAway 16 = .ok (.iadd, 1) := by decide +kernel
theorem dX0_takeAway_17 : decode cX0_takeAway 17 = .ok (.aload_n 0, 1) := by decide +kernel
theorem dX0_takeAway_18 : decode cX0_takeAway 18 = .ok (.getfield 23, 3) := by decide +kernel
theorem dX0_takeAway_21 : decode cX0_takeAway 21 = .ok (.getfield 72, 3) := by decide +kernel
theorem dX0_takeAway_24 : decode cX0_takeAway 24 = .ok (.if_icmp .lt 5, 3) := by decide +kernel
theorem dX0_takeAway_27 : decode cX0_takeAway 27 = .ok (.iconst 0, 1) := by decide +kernel
theorem dX0_takeAway_28 : decode cX0_takeAway 28 = .ok (.ireturn, 1) := by decide +kernel
theorem dX0_takeAway_29 : decode cX0_takeAway 29 = .ok (.lconst 0, 1) := by decide +kernel
theorem dX0_takeAway_30 : decode cX0_takeAway 30 = .ok (.lstore 5, 2) := by decide +kernel
theorem dX0_takeAway_32 : decode cX0_takeAway 32 = .ok (.iconst 0, 1) := by decide +kernel
theorem dX0_takeAway_33 : decode cX0_takeAway 33 = .ok (.istore 7, 2) := by decide +kernel
theorem dX0_takeAway_35 : decode cX0_takeAway 35 = .ok (.iload 7, 2) := by decide +kernel
theorem dX0_takeAway_37 : decode cX0_takeAway 37 = .ok (.iload 4, 2) := by decide +kernel
theorem dX0_takeAway_39 : decode cX0_takeAway 39 = .ok (.if_icmp .ge 87, 3) := by decide +kernel
theorem dX0_takeAway_42 : decode cX0_takeAway 42 = .ok (.lload 5, 2) := by decide +kernel
theorem dX0_takeAway_44 : decode cX0_takeAway 44 = .ok (.aload_n 0, 1) := by decide +kernel
theorem dX0_takeAway_45 : decode cX0_takeAway 45 = .ok (.getfield 20, 3) := by decide +kernel
theorem dX0_takeAway_48 : decode cX0_takeAway 48 = .ok (.iload 7, 2) := by decide +kernel
theorem dX0_takeAway_50 : decode cX0_takeAway 50 = .ok (.invokevirtual 108, 3) := by decide +kernel
theorem dX0_takeAway_53 : decode cX0_takeAway 53 = .ok (.lload_n 2, 1) := by decide +kernel
theorem dX0_takeAway_54 : decode cX0_takeAway 54 = .ok (.lmul, 1) := by decide +kernel
theorem dX0_takeAway_55 : decode cX0_takeAway 55 = .ok (.ladd, 1) := by decide +kernel
theorem dX0_takeAway_56 : decode cX0_takeAway 56 = .ok (.lstore 5, 2) := by decide +kernel
theorem dX0_takeAway_58 : decode cX0_takeAway 58 = .ok (.aload_n 0, 1) := by decide +kernel
theorem dX0_takeAway_59 : decode cX0_takeAway 59 = .ok (.getfield 23, 3) := by decide +kernel
theorem dX0_takeAway_62 : decode cX0_takeAway 62 = .ok (.getfield 84, 3) := by decide +kernel
theorem dX0_takeAway_65 : decode cX0_takeAway 65 = .ok (.iload_n 1, 1) := by decide +kernel
theorem dX0_takeAway_66 : decode cX0_takeAway 66 = .ok (.iload 7, 2) := by decide +kernel
theorem dX0_takeAway_68 : decode cX0_takeAway 68 = .ok (.iadd, 1) := by decide +kernel
theorem dX0_takeAway_69 : decode cX0_takeAway 69 = .ok (.iaload, 1) := by decide +kernel
theorem dX0_takeAway_70 : decode cX0_takeAway 70 = .ok (.i2l, 1) := by decide +kernel
theorem dX0_takeAway_71 : decode cX0_takeAway 71 = .ok (.ldc2_w 111, 3) := by decide +kernel
theorem dX0_takeAway_74 : decode cX0_takeAway 74 = .ok (.land, 1) := by decide +kernel
theorem dX0_takeAway_75 : decode cX0_takeAway 75 = .ok (.lload 5, 2) := by decide +kernel
theorem dX0_takeAway_77 : decode cX0_takeAway 77 = .ok (.ldc2_w 111, 3) := by decide +kernel
theorem dX0_takeAway_80 : decode cX0_takeAway 80 = .ok (.land, 1) := by decide +kernel
theorem dX0_takeAway_81 : decode cX0_takeAway 81 = .ok (.lsub, 1) := by decide +kernel
theorem dX0_takeAway_82 : decode cX0_takeAway 82 = .ok (.lstore 8, 2) := by decide +kernel
theorem dX0_takeAway_84 : decode cX0_takeAway 84 = .ok (.aload_n 0, 1) := by decide +kernel
theorem dX0_takeAway_85 : decode cX0_takeAway 85 = .ok (.getfield 23, 3) := by decide +kernel
theorem dX0_takeAway_88 : decode cX0_takeAway 88 = .ok (.getfield 84, 3) := by decide +kernel
theorem dX0_takeAway_91 : decode cX0_takeAway 91 = .ok (.iload_n 1, 1) := by decide +kernel
theorem dX0_takeAway_92 : decode cX0_takeAway 92 = .ok (.iload 7, 2) := by decide +kernel
theorem dX0_takeAway_94 : decode cX0_takeAway 94 = .ok (.iadd, 1) := by decide +kernel
theorem dX0_takeAway_95 : decode cX0_takeAway 95 = .ok (.lload 8, 2) := by decide +kernel
theorem dX0_takeAway_97 : decode cX0_takeAway 97 = .ok (.l2i, 1) := by decide +kernel
theorem dX0_takeAway_98 : decode cX0_takeAway 98 = .ok (.iastore, 1) := by decide +kernel
theorem dX0_takeAway_99 : decode cX0_takeAway 99 = .ok (.lload 5, 2) := by decide +kernel
theorem dX0_takeAway_101 : decode cX0_takeAway 101 = .ok (.bipush 32, 2) := by decide +kernel
theorem dX0_takeAway_103 : decode cX0_takeAway 103 = .ok (.lushr, 1) := by decide +kernel
theorem dX0_takeAway_104 : decode cX0_takeAway 104 = .ok (.lload 8, 2) := by decide +kernel
theorem dX0_takeAway_106 : decode cX0_takeAway 106 = .ok (.lconst 0, 1) := by decide +kernel
theorem dX0_takeAway_107 : decode cX0_takeAway 107 = .ok (.lcmp, 1) := by decide +kernel
theorem dX0_takeAway_108 : decode cX0_takeAway 108 = .ok (.ifCond .ge 7, 3) := by decide +kernel
theorem dX0_takeAway_111 : decode cX0_takeAway 111 = .ok (.iconst 1, 1) := by decide +kernel
theorem dX0_takeAway_112 : decode cX0_takeAway 112 = .ok (.goto 4, 3) := by decide +kernel
theorem dX0_takeAway_115 : decode cX0_takeAway 115 = .ok (.iconst 0, 1) := by decide +kernel
theorem dX0_takeAway_116 : decode cX0_takeAway 116 = .ok (.i2l, 1) := by decide +kernel
theorem dX0_takeAway_117 : decode cX0_takeAway 117 = .ok (.ladd, 1) := by decide +kernel
theorem dX0_takeAway_118 : decode cX0_takeAway 118 = .ok (.lstore 5, 2) := by decide +kernel
theorem dX0_takeAway_120 : decode cX0_takeAway 120 = .ok (.iinc 7 1, 3) := by decide +kernel
theorem dX0_takeAway_123 : decode cX0_takeAway 123 = .ok (.goto (-88), 3) := by decide +kernel
theorem dX0_takeAway_126 : decode cX0_takeAway 126 = .ok (.aload_n 0, 1) := by decide +kernel
theorem dX0_takeAway_127 : decode cX0_takeAway 127 = .ok (.getfield 23, 3) := by decide +kernel
theorem dX0_takeAway_130 : decode cX0_takeAway 130 = .ok (.getfield 84, 3) := by decide +kernel
theorem dX0_takeAway_133 : decode cX0_takeAway 133 = .ok (.iload_n 1, 1) := by decide +kernel
theorem dX0_takeAway_134 : decode cX0_takeAway 134 = .ok (.iload 4, 2) := by decide +kernel
theorem dX0_takeAway_136 : decode cX0_takeAway 136 = .ok (.iadd, 1) := by decide +kernel
theorem dX0_takeAway_137 : decode cX0_takeAway 137 = .ok (.iaload, 1) := by decide +kernel
theorem dX0_takeAway_138 : decode cX0_takeAway 138 = .ok (.i2l, 1) := by decide +kernel
theorem dX0_takeAway_139 : decode cX0_takeAway 139 = .ok (.ldc2_w 111, 3) := by decide +kernel
theorem dX0_takeAway_142 : decode cX0_takeAway 142 = .ok (.land, 1) := by decide +kernel
theorem dX0_takeAway_143 : decode cX0_takeAway 143 = .ok (.lload 5, 2) := by decide +kernel
theorem dX0_takeAway_145 : decode cX0_takeAway 145 = .ok (.lsub, 1) := by decide +kernel
theorem dX0_takeAway_146 : decode cX0_takeAway 146 = .ok (.lstore 7, 2) := by decide +kernel
theorem dX0_takeAway_148 : decode cX0_takeAway 148 = .ok (.aload_n 0, 1) := by decide +kernel
theorem dX0_takeAway_149 : decode cX0_takeAway 149 = .ok (.getfield 23, 3) := by decide +kernel
theorem dX0_takeAway_152 : decode cX0_takeAway 152 = .ok (.getfield 84, 3) := by decide +kernel
theorem dX0_takeAway_155 : decode cX0_takeAway 155 = .ok (.iload_n 1, 1) := by decide +kernel
theorem dX0_takeAway_156 : decode cX0_takeAway 156 = .ok (.iload 4, 2) := by decide +kernel
theorem dX0_takeAway_158 : decode cX0_takeAway 158 = .ok (.iadd, 1) := by decide +kernel
theorem dX0_takeAway_159 : decode cX0_takeAway 159 = .ok (.lload 7, 2) := by decide +kernel
theorem dX0_takeAway_161 : decode cX0_takeAway 161 = .ok (.l2i, 1) := by decide +kernel
theorem dX0_takeAway_162 : decode cX0_takeAway 162 = .ok (.iastore, 1) := by decide +kernel
theorem dX0_takeAway_163 : decode cX0_takeAway 163 = .ok (.lload 7, 2) := by decide +kernel
theorem dX0_takeAway_165 : decode cX0_takeAway 165 = .ok (.lconst 0, 1) := by decide +kernel
theorem dX0_takeAway_166 : decode cX0_takeAway 166 = .ok (.lcmp, 1) := by decide +kernel
theorem dX0_takeAway_167 : decode cX0_takeAway 167 = .ok (.ifCond .ge 7, 3) := by decide +kernel
theorem dX0_takeAway_170 : decode cX0_takeAway 170 = .ok (.iconst 1, 1) := by decide +kernel
theorem dX0_takeAway_171 : decode cX0_takeAway 171 = .ok (.goto 4, 3) := by decide +kernel
theorem dX0_takeAway_174 : decode cX0_takeAway 174 = .ok (.iconst 0, 1) := by decide +kernel
theorem dX0_takeAway_175 : decode cX0_takeAway 175 = .ok (.ireturn, 1) := by decide +kernel
theorem dX0_giveBack_0 : decode cX0_giveBack 0 = .ok (.aload_n 0, 1) := by decide +kernel
theorem dX0_giveBack_1 : decode cX0_giveBack 1 = .ok (.getfield 20, 3) := by decide +kernel
theorem dX0_giveBack_4 : decode cX0_giveBack 4 = .ok (.getfield 72, 3) := by decide +kernel
theorem dX0_giveBack_7 : decode cX0_giveBack 7 = .ok (.istore_n 2, 1) := by decide +kernel
theorem dX0_giveBack_8 : decode cX0_giveBack 8 = .ok (.iload_n 1, 1) := by decide +kernel
theorem dX0_giveBack_9 : decode cX0_giveBack 9 = .ok (.ifCond .lt 16, 3) := by decide +kernel
theorem dX0_giveBack_12 : decode cX0_giveBack 12 = .ok (.iload_n 1, 1) := by decide +kernel
theorem dX0_giveBack_13 : decode cX0_giveBack 13 = .ok (.iload_n 2, 1) := by decide +kernel
theorem dX0_giveBack_14 : decode cX0_giveBack 14 = .ok (.iadd, 1) := by decide +kernel
theorem dX0_giveBack_15 : decode cX0_giveBack 15 = .ok (.aload_n 0, 1) := by decide +kernel
theorem dX0_giveBack_16 : decode cX0_giveBack 16 = .ok (.getfield 23, 3) := by decide +kernel
theorem dX0_giveBack_19 : decode cX0_giveBack 19 = .ok (.getfield 72, 3) := by decide +kernel
theorem dX0_giveBack_22 : decode cX0_giveBack 22 = .ok (.if_icmp .lt 4, 3) := by decide +kernel
theorem dX0_giveBack_25 : decode cX0_giveBack 25 = .ok (.return_, 1) := by decide +kernel
theorem dX0_giveBack_26 : decode cX0_giveBack 26 = .ok (.lconst 0, 1) := by decide +kernel
theorem dX0_giveBack_27 : decode cX0_giveBack 27 = .ok (.lstore_n 3, 1) := by decide +kernel
theorem dX0_giveBack_28 : decode cX0_giveBack 28 = .ok (.iconst 0, 1) := by decide +kernel
theorem dX0_giveBack_29 : decode cX0_giveBack 29 = .ok (.istore 5, 2) := by decide +kernel
theorem dX0_giveBack_31 : decode cX0_giveBack 31 = .ok (.iload 5, 2) := by decide +kernel
theorem dX0_giveBack_33 : decode cX0_giveBack 33 = .ok (.iload_n 2, 1) := by decide +kernel
theorem dX0_giveBack_34 : decode cX0_giveBack 34 = .ok (.if_icmp .gt 58, 3) := by decide +kernel
theorem dX0_giveBack_37 : decode cX0_giveBack 37 = .ok (.lload_n 3, 1) := by decide +kernel
theorem dX0_giveBack_38 : decode cX0_giveBack 38 = .ok (.aload_n 0, 1) := by decide +kernel
theorem dX0_giveBack_39 : decode cX0_giveBack 39 = .ok (.getfield 23, 3) := by decide +kernel
theorem dX0_giveBack_42 : decode cX0_giveBack 42 = .ok (.getfield 84, 3) := by decide +kernel
theorem dX0_giveBack_45 : decode cX0_giveBack 45 = .ok (.iload_n 1, 1) := by decide +kernel
theorem dX0_giveBack_46 : decode cX0_giveBack 46 = .ok (.iload 5, 2) := by decide +kernel
theorem dX0_giveBack_48 : decode cX0_giveBack 48 = .ok (.iadd, 1) := by decide +kernel
theorem dX0_giveBack_49 : decode cX0_giveBack 49 = .ok (.iaload, 1) := by decide +kernel
theorem dX0_giveBack_50 : decode cX0_giveBack 50 = .ok (.i2l, 1) := by decide +kernel
theorem dX0_giveBack_51 : decode cX0_giveBack 51 = .ok (.ldc2_w 111, 3) := by decide +kernel
theorem dX0_giveBack_54 : decode cX0_giveBack 54 = .ok (.land, 1) := by decide +kernel
theorem dX0_giveBack_55 : decode cX0_giveBack 55 = .ok (.aload_n 0, 1) := by decide +kernel
theorem dX0_giveBack_56 : decode cX0_giveBack 56 = .ok (.getfield 20, 3) := by decide +kernel
theorem dX0_giveBack_59 : decode cX0_giveBack 59 = .ok (.iload 5, 2) := by decide +kernel
theorem dX0_giveBack_61 : decode cX0_giveBack 61 = .ok (.invokevirtual 108, 3) := by decide +kernel
theorem dX0_giveBack_64 : decode cX0_giveBack 64 = .ok (.ladd, 1) := by decide +kernel
theorem dX0_giveBack_65 : decode cX0_giveBack 65 = .ok (.ladd, 1) := by decide +kernel
theorem dX0_giveBack_66 : decode cX0_giveBack 66 = .ok (.lstore_n 3, 1) := by decide +kernel
theorem dX0_giveBack_67 : decode cX0_giveBack 67 = .ok (.aload_n 0, 1) := by decide +kernel
theorem dX0_giveBack_68 : decode cX0_giveBack 68 = .ok (.getfield 23, 3) := by decide +kernel
theorem dX0_giveBack_71 : decode cX0_giveBack 71 = .ok (.getfield 84, 3) := by decide +kernel
theorem dX0_giveBack_74 : decode cX0_giveBack 74 = .ok (.iload_n 1, 1) := by decide +kernel
theorem dX0_giveBack_75 : decode cX0_giveBack 75 = .ok (.iload 5, 2) := by decide +kernel
theorem dX0_giveBack_77 : decode cX0_giveBack 77 = .ok (.iadd, 1) := by decide +kernel
theorem dX0_giveBack_78 : decode cX0_giveBack 78 = .ok (.lload_n 3, 1) := by decide +kernel
theorem dX0_giveBack_79 : decode cX0_giveBack 79 = .ok (.l2i, 1) := by decide +kernel
theorem dX0_giveBack_80 : decode cX0_giveBack 80 = .ok (.iastore, 1) := by decide +kernel
theorem dX0_giveBack_81 : decode cX0_giveBack 81 = .ok (.lload_n 3, 1) := by decide +kernel
theorem dX0_giveBack_82 : decode cX0_giveBack 82 = .ok (.bipush 32, 2) := by decide +kernel
theorem dX0_giveBack_84 : decode cX0_giveBack 84 = .ok (.lushr, 1) := by decide +kernel
theorem dX0_giveBack_85 : decode cX0_giveBack 85 = .ok (.lstore_n 3, 1) := by decide +kernel
theorem dX0_giveBack_86 : decode cX0_giveBack 86 = .ok (.iinc 5 1, 3) := by decide +kernel
theorem dX0_giveBack_89 : decode cX0_giveBack 89 = .ok (.goto (-58), 3) := by decide +kernel
theorem dX0_giveBack_92 : decode cX0_giveBack 92 = .ok (.return_, 1) := by decide +kernel
theorem dX0_findCommon_0 : decode cX0_findCommon 0 = .ok (.aload_n 1, 1) := by decide +kernel
theorem dX0_findCommon_1 : decode cX0_findCommon 1 = .ok (.aload_n 2, 1) := by decide +kernel
theorem dX0_findCommon_2 : decode cX0_findCommon 2 = .ok (.invokevirtual 119, 3) := by decide +kernel
theorem dX0_findCommon_5 : decode cX0_findCommon 5 = .ok (.ifCond .lt 7, 3) := by decide +kernel
theorem dX0_findCommon_8 : decode cX0_findCommon 8 = .ok (.iconst 1, 1) := by decide +kernel
theorem dX0_findCommon_9 : decode cX0_findCommon 9 = .ok (.goto 4, 3) := by decide +kernel
theorem dX0_findCommon_12 : decode cX0_findCommon 12 = .ok (.iconst 0, 1) := by decide +kernel
theorem dX0_findCommon_13 : decode cX0_findCommon 13 = .ok (.istore_n 3, 1) := by decide +kernel
theorem dX0_findCommon_14 : decode cX0_findCommon 14 = .ok (.aload_n 0, 1) := by decide +kernel
theorem dX0_findCommon_15 : decode cX0_findCommon 15 = .ok (.getfield 26, 3) := by decide +kernel
theorem dX0_findCommon_18 : decode cX0_findCommon 18 = .ok (.iload_n 3, 1) := by decide +kernel
theorem dX0_findCommon_19 : decode cX0_findCommon 19 = .ok (.ifCond .eq 7, 3) := by decide +kernel
theorem dX0_findCommon_22 : decode cX0_findCommon 22 = .ok (.aload_n 1, 1) := by decide +kernel
theorem dX0_findCommon_23 : decode cX0_findCommon 23 = .ok (.goto 4, 3) := by decide +kernel
theorem dX0_findCommon_26 : decode cX0_findCommon 26 = .ok (.aload_n 2, 1) := by decide +kernel
theorem dX0_findCommon_27 : decode cX0_findCommon 27 = .ok (.invokevirtual 65, 3) := by decide +kernel
theorem dX0_findCommon_30 : decode cX0_findCommon 30 = .ok (.aload_n 0, 1) := by decide +kernel
theorem dX0_findCommon_31 : decode cX0_findCommon 31 = .ok (.getfield 29, 3) := by decide +kernel
theorem dX0_findCommon_34 : decode cX0_findCommon 34 = .ok (.iload_n 3, 1) := by decide +kernel
theorem dX0_findCommon_35 : decode cX0_findCommon 35 = .ok (.ifCond .eq 7, 3) := by decide +kernel
theorem dX0_findCommon_38 : decode cX0_findCommon 38 = .ok (.aload_n 2, 1) := by decide +kernel
theorem dX0_findCommon_39 : decode cX0_findCommon 39 = .ok (.goto 4, 3) := by decide +kernel
theorem dX0_findCommon_42 : decode cX0_findCommon 42 = .ok (.aload_n 1, 1) := by decide +kernel
theorem dX0_findCommon_43 : decode cX0_findCommon 43 = .ok (.invokevirtual 65, 3) := by decide +kernel
theorem dX0_findCommon_46 : decode cX0_findCommon 46 = .ok (.iconst 0, 1) := by decide +kernel
theorem dX0_findCommon_47 : decode cX0_findCommon 47 = .ok (.istore 4, 2) := by decide +kernel
theorem dX0_findCommon_49 : decode cX0_findCommon 49 = .ok (.iload 4, 2) := by decide +kernel
theorem dX0_findCommon_51 : decode cX0_findCommon 51 = .ok (.ldc 123, 2) := by decide +kernel
theorem dX0_findCommon_53 : decode cX0_findCommon 53 = .ok (.if_icmp .ge 69, 3) := by decide +kernel
theorem dX0_findCommon_56 : decode cX0_findCommon 56 = .ok (.aload_n 0, 1) := by decide +kernel
theorem dX0_findCommon_57 : decode cX0_findCommon 57 = .ok (.getfield 29, 3) := by decide +kernel
theorem dX0_findCommon_60 : decode cX0_findCommon 60 = .ok (.getfield 72, 3) := by decide +kernel
theorem dX0_findCommon_63 : decode cX0_findCommon 63 = .ok (.ifCond .le 59, 3) := by decide +kernel
theorem dX0_findCommon_66 : decode cX0_findCommon 66 = .ok (.aload_n 0, 1) := by decide +kernel
theorem dX0_findCommon_67 : decode cX0_findCommon 67 = .ok (.getfield 26, 3) := by decide +kernel
theorem dX0_findCommon_70 : decode cX0_findCommon 70 = .ok (.invokevirtual 76, 3) := by decide +kernel
theorem dX0_findCommon_73 : decode cX0_findCommon 73 = .ok (.bipush 62, 2) := by decide +kernel
theorem dX0_findCommon_75 : decode cX0_findCommon 75 = .ok (.if_icmp .gt 10, 3) := by decide +kernel
theorem dX0_findCommon_78 : decode cX0_findCommon 78 = .ok (.aload_n 0, 1) := by decide +kernel
theorem dX0_findCommon_79 : decode cX0_findCommon 79 = .ok (.invokevirtual 124, 3) := by decide +kernel
theorem dX0_findCommon_82 : decode cX0_findCommon 82 = .ok (.goto 34, 3) := by decide +kernel
theorem dX0_findCommon_85 : decode cX0_findCommon 85 = .ok (.aload_n 0, 1) := by decide +kernel
theorem dX0_findCommon_86 : decode cX0_findCommon 86 = .ok (.invokevirtual 127, 3) := by decide +kernel
theorem dX0_findCommon_89 : decode cX0_findCommon 89 = .ok (.ifCond .eq 10, 3) := by decide +kernel
theorem dX0_findCommon_92 : decode cX0_findCommon 92 = .ok (.aload_n 0, 1) := by decide +kernel
theorem dX0_findCommon_93 : decode cX0_findCommon 93 = .ok (.invokevirtual 130, 3) := by decide +kernel
theorem dX0_findCommon_96 : decode cX0_findCommon 96 = .ok (.goto 20, 3) := by decide +kernel
theorem dX0_findCommon_99 : decode cX0_findCommon 99 = .ok (.aload_n 0, 1) := by decide +kernel
theorem dX0_findCommon_100 : decode cX0_findCommon 100 = .ok (.aload_n 0, 1) := by decide +kernel
theorem dX0_findCommon_101 : decode cX0_findCommon 101 = .ok (.getfield 26, 3) := by decide +kernel
theorem dX0_findCommon_104 : decode cX0_findCommon 104 = .ok (.aload_n 0, 1) := by decide +kernel
theorem dX0_findCommon_105 : decode cX0_findCommon 105 = .ok (.getfield 29, 3) := by decide +kernel
theorem dX0_findCommon_108 : decode cX0_findCommon 108 = .ok (.invokevirtual 61, 3) := by decide +kernel
theorem dX0_findCommon_111 : decode cX0_findCommon 111 = .ok (.pop, 1) := by decide +kernel
theorem dX0_findCommon_112 : decode cX0_findCommon 112 = .ok (.aload_n 0, 1) := by decide +kernel
theorem dX0_findCommon_113 : decode cX0_findCommon 113 = .ok (.invokevirtual 133, 3) := by decide +kernel
theorem dX0_findCommon_116 : decode cX0_findCommon 116 = .ok (.iinc 4 1, 3) := by decide +kernel
theorem dX0_findCommon_119 : decode cX0_findCommon 119 = .ok (.goto (-70), 3) := by decide +kernel
theorem dX0_findCommon_122 : decode cX0_findCommon 122 = .ok (.return_, 1) := by decide +kernel
theorem dX0_finish_0 : decode cX0_finish 0 = .ok (.aload_n 0, 1) := by decide +kernel
theorem dX0_finish_1 : decode cX0_finish 1 = .ok (.getfield 26, 3) := by decide +kernel
theorem dX0_finish_4 : decode cX0_finish 4 = .ok (.invokevirtual 136, 3) := by decide +kernel
theorem dX0_finish_7 : decode cX0_finish 7 = .ok (.lstore_n 1, 1) := by decide +kernel
theorem dX0_finish_8 : decode cX0_finish 8 = .ok (.aload_n 0, 1) := by decide +kernel
theorem dX0_finish_9 : decode cX0_finish 9 = .ok (.getfield 29, 3) := by decide +kernel
theorem dX0_finish_12 : decode cX0_finish 12 = .ok (.invokevirtual 136, 3) := by decide +kernel
theorem dX0_finish_15 : decode cX0_finish 15 = .ok (.lstore_n 3, 1) := by decide +kernel
theorem dX0_finish_16 : decode cX0_finish 16 = .ok (.iconst 0, 1) := by decide +kernel
theorem dX0_finish_17 : decode cX0_finish 17 = .ok (.istore 5, 2) := by decide +kernel
theorem dX0_finish_19 : decode cX0_finish 19 = .ok (.iload 5, 2) := by decide +kernel
theorem dX0_finish_21 : decode cX0_finish 21 = .ok (.ldc 123, 2) := by decide +kernel
theorem dX0_finish_23 : decode cX0_finish 23 = .ok (.if_icmp .ge 25, 3) := by decide +kernel
theorem dX0_finish_26 : decode cX0_finish 26 = .ok (.lload_n 3, 1) := by decide +kernel
theorem dX0_finish_27 : decode cX0_finish 27 = .ok (.lconst 0, 1) := by decide +kernel
theorem dX0_finish_28 : decode cX0_finish 28 = .ok (.lcmp, 1) := by decide +kernel
theorem dX0_finish_29 : decode cX0_finish 29 = .ok (.ifCond .eq 19, 3) := by decide +kernel
theorem dX0_finish_32 : decode cX0_finish 32 = .ok (.lload_n 1, 1) := by decide +kernel
theorem dX0_finish_33 : decode cX0_finish 33 = .ok (.lload_n 3, 1) := by decide +kernel
theorem dX0_finish_34 : decode cX0_finish 34 = .ok (.lrem, 1) := by decide +kernel
theorem dX0_finish_35 : decode cX0_finish 35 = .ok (.lstore 6, 2) := by decide +kernel
theorem dX0_finish_37 : decode cX0_finish 37 = .ok (.lload_n 3, 1) := by decide +kernel
theorem dX0_finish_38 : decode cX0_finish 38 = .ok (.lstore_n 1, 1) := by decide +kernel
theorem dX0_finish_39 : decode cX0_finish 39 = .ok (.lload 6, 2) := by decide +kernel
theorem dX0_finish_41 : decode cX0_finish 41 = .ok (.lstore_n 3, 1) := by decide +kernel
theorem dX0_finish_42 : decode cX0_finish 42 = .ok (.iinc 5 1, 3) := by decide +kernel
theorem dX0_finish_45 : decode cX0_finish 45 = .ok (.goto (-26), 3) := by decide +kernel
theorem dX0_finish_48 : decode cX0_finish 48 = .ok (.aload_n 0, 1) := by decide +kernel
theorem dX0_finish_49 : decode cX0_finish 49 = .ok (.getfield 26, 3) := by decide +kernel
theorem dX0_finish_52 : decode cX0_finish 52 = .ok (.lload_n 1, 1) := by decide +kernel
theorem dX0_finish_53 : decode cX0_finish 53 = .ok (.invokevirtual 140, 3) := by decide +kernel
theorem dX0_finish_56 : decode cX0_finish 56 = .ok (.aload_n 0, 1) := by decide +kernel
theorem dX0_finish_57 : decode cX0_finish 57 = .ok (.getfield 29, 3) := by decide +kernel
theorem dX0_finish_60 : decode cX0_finish 60 = .ok (.invokevirtual 69, 3) := by decide +kernel
theorem dX0_finish_63 : decode cX0_finish 63 = .ok (.return_, 1) := by decide +kernel
theorem dX0_moveOn_0 : decode cX0_moveOn 0 = .ok (.aload_n 0, 1) := by decide +kernel
theorem dX0_moveOn_1 : decode cX0_moveOn 1 = .ok (.getfield 26, 3) := by decide +kernel
theorem dX0_moveOn_4 : decode cX0_moveOn 4 = .ok (.astore_n 1, 1) := by decide +kernel
theorem dX0_moveOn_5 : decode cX0_moveOn 5 = .ok (.aload_n 0, 1) := by decide +kernel
theorem dX0_moveOn_6 : decode cX0_moveOn 6 = .ok (.aload_n 0, 1) := by decide +kernel
theorem dX0_moveOn_7 : decode cX0_moveOn 7 = .ok (.getfield 29, 3) := by decide +kernel
theorem dX0_moveOn_10 : decode cX0_moveOn 10 = .ok (.putfield 26, 3) := by decide +kernel
theorem dX0_moveOn_13 : decode cX0_moveOn 13 = .ok (.aload_n 0, 1) := by decide +kernel
theorem dX0_moveOn_14 : decode cX0_moveOn 14 = .ok (.aload_n 0, 1) := by decide +kernel
theorem dX0_moveOn_15 : decode cX0_moveOn 15 = .ok (.getfield 23, 3) := by decide +kernel
theorem dX0_moveOn_18 : decode cX0_moveOn 18 = .ok (.putfield 29, 3) := by decide +kernel
theorem dX0_moveOn_21 : decode cX0_moveOn 21 = .ok (.aload_n 0, 1) := by decide +kernel
theorem dX0_moveOn_22 : decode cX0_moveOn 22 = .ok (.aload_n 1, 1) := by decide +kernel
theorem dX0_moveOn_23 : decode cX0_moveOn 23 = .ok (.putfield 23, 3) := by decide +kernel
theorem dX0_moveOn_26 : decode cX0_moveOn 26 = .ok (.return_, 1) := by decide +kernel
theorem dX0_findLeap_0 : decode cX0_findLeap 0 = .ok (.aload_n 0, 1) := by decide +kernel
theorem dX0_findLeap_1 : decode cX0_findLeap 1 = .ok (.getfield 26, 3) := by decide +kernel
theorem dX0_findLeap_4 : decode cX0_findLeap 4 = .ok (.invokevirtual 76, 3) := by decide +kernel
theorem dX0_findLeap_7 : decode cX0_findLeap 7 = .ok (.bipush 62, 2) := by decide +kernel
theorem dX0_findLeap_9 : decode cX0_findLeap 9 = .ok (.isub, 1) := by decide +kernel
theorem dX0_findLeap_10 : decode cX0_findLeap 10 = .ok (.istore_n 1, 1) := by decide +kernel
theorem dX0_findLeap_11 : decode cX0_findLeap 11 = .ok (.aload_n 0, 1) := by decide +kernel
theorem dX0_findLeap_12 : decode cX0_findLeap 12 = .ok (.getfield 26, 3) := by decide +kernel
theorem dX0_findLeap_15 : decode cX0_findLeap 15 = .ok (.iload_n 1, 1) := by decide +kernel
theorem dX0_findLeap_16 : decode cX0_findLeap 16 = .ok (.invokevirtual 144, 3) := by decide +kernel
theorem dX0_findLeap_19 : decode cX0_findLeap 19 = .ok (.lstore_n 2, 1) := by decide +kernel
theorem dX0_findLeap_20 : decode cX0_findLeap 20 = .ok (.aload_n 0, 1) := by decide +kernel
theorem dX0_findLeap_21 : decode cX0_findLeap 21 = .ok (.getfield 29, 3) := by decide +kernel
theorem dX0_findLeap_24 : decode cX0_findLeap 24 = .ok (.iload_n 1, 1) := by decide +kernel
theorem dX0_findLeap_25 : decode cX0_findLeap 25 = .ok (.invokevirtual 144, 3) := by decide +kernel
theorem dX0_findLeap_28 : decode cX0_findLeap 28 = .ok (.lstore 4, 2) := by decide +kernel
theorem dX0_findLeap_30 : decode cX0_findLeap 30 = .ok (.aload_n 0, 1) := by decide +kernel
theorem dX0_findLeap_31 : decode cX0_findLeap 31 = .ok (.lconst 1, 1) := by decide +kernel
theorem dX0_findLeap_32 : decode cX0_findLeap 32 = .ok (.putfield 32, 3) := by decide +kernel
theorem dX0_findLeap_35 : decode cX0_findLeap 35 = .ok (.aload_n 0, 1) := by decide +kernel
theorem dX0_findLeap_36 : decode cX0_findLeap 36 = .ok (.lconst 0, 1) := by decide +kernel
theorem dX0_findLeap_37 : decode cX0_findLeap 37 = .ok (.putfield 36, 3) := by decide +kernel
theorem dX0_findLeap_40 : decode cX0_findLeap 40 = .ok (.aload_n 0, 1) := by decide +kernel
theorem dX0_findLeap_41 : decode cX0_findLeap 41 = .ok (.lconst 0, 1) := by decide +kernel
theorem dX0_findLeap_42 : decode cX0_findLeap 42 = .ok (.putfield 39, 3) := by decide +kernel
theorem dX0_findLeap_45 : decode cX0_findLeap 45 = .ok (.aload_n 0, 1) := by decide +kernel
theorem dX0_findLeap_46 : decode cX0_findLeap 46 = .ok (.lconst 1, 1) := by decide +kernel
theorem dX0_findLeap_47 : decode cX0_findLeap 47 = .ok (.putfield 42, 3) := by decide +kernel
theorem dX0_findLeap_50 : decode cX0_findLeap 50 = .ok (.iconst 0, 1) := by decide +kernel
theorem dX0_findLeap_51 : decode cX0_findLeap 51 = .ok (.istore 6, 2) := by decide +kernel
theorem dX0_findLeap_53 : decode cX0_findLeap 53 = .ok (.iload 6, 2) := by decide +kernel
theorem dX0_findLeap_55 : decode cX0_findLeap 55 = .ok (.ldc 123, 2) := by decide +kernel
theorem dX0_findLeap_57 : decode cX0_findLeap 57 = .ok (.if_icmp .ge 180, 3) := by decide +kernel
theorem dX0_findLeap_60 : decode cX0_findLeap 60 = .ok (.lload 4, 2) := by decide +kernel
theorem dX0_findLeap_62 : decode cX0_findLeap 62 = .ok (.aload_n 0, 1) := by decide +kernel
theorem dX0_findLeap_63 : decode cX0_findLeap 63 = .ok (.getfield 39, 3) := by decide +kernel
theorem dX0_findLeap_66 : decode cX0_findLeap 66 = .ok (.ladd, 1) := by decide +kernel
theorem dX0_findLeap_67 : decode cX0_findLeap 67 = .ok (.lconst 0, 1) := by decide +kernel
theorem dX0_findLeap_68 : decode cX0_findLeap 68 = .ok (.lcmp, 1) := by decide +kernel
theorem dX0_findLeap_69 : decode cX0_findLeap 69 = .ok (.ifCond .le 168, 3) := by decide +kernel
theorem dX0_findLeap_72 : decode cX0_findLeap 72 = .ok (.lload 4, 2) := by decide +kernel
theorem dX0_findLeap_74 : decode cX0_findLeap 74 = .ok (.aload_n 0, 1) := by decide +kernel
theorem dX0_findLeap_75 : decode cX0_findLeap 75 = .ok (.getfield 42, 3) := by decide +kernel
theorem dX0_findLeap_78 : decode cX0_findLeap 78 = .ok (.ladd, 1) := by decide +kernel
theorem dX0_findLeap_79 : decode cX0_findLeap 79 = .ok (.lconst 0, 1) := by decide +kernel
theorem dX0_findLeap_80 : decode cX0_findLeap 80 = .ok (.lcmp, 1) := by decide +kernel
theorem dX0_findLeap_81 : decode cX0_findLeap 81 = .ok (.ifCond .le 156, 3) := by decide +kernel
theorem dX0_findLeap_84 : decode cX0_findLeap 84 = .ok (.lload_n 2, 1) := by decide +kernel
theorem dX0_findLeap_85 : decode cX0_findLeap 85 = .ok (.aload_n 0, 1) := by decide +kernel
theorem dX0_findLeap_86 : decode cX0_findLeap 86 = .ok (.getfield 32, 3) := by decide +kernel
theorem dX0_findLeap_89 : decode cX0_findLeap 89 = .ok (.ladd, 1) := by decide +kernel
theorem dX0_findLeap_90 : decode cX0_findLeap 90 = .ok (.lload 4, 2) := by decide +kernel
theorem dX0_findLeap_92 : decode cX0_findLeap 92 = .ok (.aload_n 0, 1) := by decide +kernel
theorem dX0_findLeap_93 : decode cX0_findLeap 93 = .ok (.getfield 39, 3) := by decide +kernel
theorem dX0_findLeap_96 : decode cX0_findLeap 96 = .ok (.ladd, 1) := by decide +kernel
theorem dX0_findLeap_97 : decode cX0_findLeap 97 = .ok (.ldiv, 1) := by decide +kernel
theorem dX0_findLeap_98 : decode cX0_findLeap 98 = .ok (.lstore 7, 2) := by decide +kernel
theorem dX0_findLeap_100 : decode cX0_findLeap 100 = .ok (.lload 7, 2) := by decide +kernel
theorem dX0_findLeap_102 : decode cX0_findLeap 102 = .ok (.ldc2_w 147, 3) := by decide +kernel
theorem dX0_findLeap_105 : decode cX0_findLeap 105 = .ok (.lcmp, 1) := by decide +kernel
theorem dX0_findLeap_106 : decode cX0_findLeap 106 = .ok (.ifCond .gt 131, 3) := by decide +kernel
theorem dX0_findLeap_109 : decode cX0_findLeap 109 = .ok (.lload 7, 2) := by decide +kernel
theorem dX0_findLeap_111 : decode cX0_findLeap 111 = .ok (.lload_n 2, 1) := by decide +kernel
theorem dX0_findLeap_112 : decode cX0_findLeap 112 = .ok (.aload_n 0, 1) := by decide +kernel
theorem dX0_findLeap_113 : decode cX0_findLeap 113 = .ok (.getfield 36, 3) := by decide +kernel
theorem dX0_findLeap_116 : decode cX0_findLeap 116 = .ok (.ladd, 1) := by decide +kernel
theorem dX0_findLeap_117 : decode cX0_findLeap 117 = .ok (.lload 4, 2) := by decide +kernel
theorem dX0_findLeap_119 : decode cX0_findLeap 119 = .ok (.aload_n 0, 1) := by decide +kernel
theorem dX0_findLeap_120 : decode cX0_findLeap 120 = .ok (.getfield 42, 3) := by decide +kernel
theorem dX0_findLeap_123 : decode cX0_findLeap 123 = .ok (.ladd, 1) := by decide +kernel
theorem dX0_findLeap_124 : decode cX0_findLeap 124 = .ok (.ldiv, 1) := by decide +kernel
theorem dX0_findLeap_125 : decode cX0_findLeap 125 = .ok (.lcmp, 1) := by decide +kernel
theorem dX0_findLeap_126 : decode cX0_findLeap 126 = .ok (.ifCond .eq 6, 3) := by decide +kernel
theorem dX0_findLeap_129 : decode cX0_findLeap 129 = .ok (.goto 108, 3) := by decide +kernel
theorem dX0_findLeap_132 : decode cX0_findLeap 132 = .ok (.aload_n 0, 1) := by decide +kernel
theorem dX0_findLeap_133 : decode cX0_findLeap 133 = .ok (.getfield 32, 3) := by decide +kernel
theorem dX0_findLeap_136 : decode cX0_findLeap 136 = .ok (.lload 7, 2) := by decide +kernel
theorem dX0_findLeap_138 : decode cX0_findLeap 138 = .ok (.aload_n 0, 1) := by decide +kernel
theorem dX0_findLeap_139 : decode cX0_findLeap 139 = .ok (.getfield 39, 3) := by decide +kernel
theorem dX0_findLeap_142 : decode cX0_findLeap 142 = .ok (.lmul, 1) := by decide +kernel
theorem dX0_findLeap_143 : decode cX0_findLeap 143 = .ok (.lsub, 1) := by decide +kernel
theorem dX0_findLeap_144 : decode cX0_findLeap 144 = .ok (.lstore 9, 2) := by decide +kernel
theorem dX0_findLeap_146 : decode cX0_findLeap 146 = .ok (.aload_n 0, 1) := by decide +kernel
theorem dX0_findLeap_147 : decode cX0_findLeap 147 = .ok (.getfield 36, 3) := by decide +kernel
theorem dX0_findLeap_150 : decode cX0_findLeap 150 = .ok (.lload 7, 2) := by decide +kernel
theorem dX0_findLeap_152 : decode cX0_findLeap 152 = .ok (.aload_n 0, 1) := by decide +kernel
theorem dX0_findLeap_153 : decode cX0_findLeap 153 = .ok (.getfield 42, 3) := by decide +kernel
theorem dX0_findLeap_156 : decode cX0_findLeap 156 = .ok (.lmul, 1) := by decide +kernel
theorem dX0_findLeap_157 : decode cX0_findLeap 157 = .ok (.lsub, 1) := by decide +kernel
theorem dX0_findLeap_158 : decode cX0_findLeap 158 = .ok (.lstore 11, 2) := by decide +kernel
theorem dX0_findLeap_160 : decode cX0_findLeap 160 = .ok (.lload 9, 2) := by decide +kernel
theorem dX0_findLeap_162 : decode cX0_findLeap 162 = .ok (.invokestatic 149, 3) := by decide +kernel
theorem dX0_findLeap_165 : decode cX0_findLeap 165 = .ok (.ldc2_w 147, 3) := by decide +kernel
theorem dX0_findLeap_168 : decode cX0_findLeap 168 = .ok (.lcmp, 1) := by decide +kernel
theorem dX0_findLeap_169 : decode cX0_findLeap 169 = .ok (.ifCond .gt 68, 3) := by decide +kernel
theorem dX0_findLeap_172 : decode cX0_findLeap 172 = .ok (.lload 11, 2) := by decide +kernel
theorem dX0_findLeap_174 : decode cX0_findLeap 174 = .ok (.invokestatic 149, 3) := by decide +kernel
theorem dX0_findLeap_177 : decode cX0_findLeap 177 = .ok (.ldc2_w 147, 3) := by decide +kernel
theorem dX0_findLeap_180 : decode cX0_findLeap 180 = .ok (.lcmp, 1) := by decide +kernel
theorem dX0_findLeap_181 : decode cX0_findLeap 181 = .ok (.ifCond .le 6, 3) := by decide +kernel
theorem dX0_findLeap_184 : decode cX0_findLeap 184 = .ok (.goto 53, 3) := by decide +kernel
theorem dX0_findLeap_187 : decode cX0_findLeap 187 = .ok (.aload_n 0, 1) := by decide +kernel
theorem dX0_findLeap_188 : decode cX0_findLeap 188 = .ok (.aload_n 0, 1) := by decide +kernel
theorem dX0_findLeap_189 : decode cX0_findLeap 189 = .ok (.getfield 39, 3) := by decide +kernel
theorem dX0_findLeap_192 : decode cX0_findLeap 192 = .ok (.putfield 32, 3) := by decide +kernel
theorem dX0_findLeap_195 : decode cX0_findLeap 195 = .ok (.aload_n 0, 1) := by decide +kernel
theorem dX0_findLeap_196 : decode cX0_findLeap 196 = .ok (.aload_n 0, 1) := by decide +kernel
theorem dX0_findLeap_197 : decode cX0_findLeap 197 = .ok (.getfield 42, 3) := by decide +kernel
theorem dX0_findLeap_200 : decode cX0_findLeap 200 = .ok (.putfield 36, 3) := by decide +kernel
theorem dX0_findLeap_203 : decode cX0_findLeap 203 = .ok (.aload_n 0, 1) := by decide +kernel
theorem dX0_findLeap_204 : decode cX0_findLeap 204 = .ok (.lload 9, 2) := by decide +kernel
theorem dX0_findLeap_206 : decode cX0_findLeap 206 = .ok (.putfield 39, 3) := by decide +kernel
theorem dX0_findLeap_209 : decode cX0_findLeap 209 = .ok (.aload_n 0, 1) := by decide +kernel
theorem dX0_findLeap_210 : decode cX0_findLeap 210 = .ok (.lload 11, 2) := by decide +kernel
theorem dX0_findLeap_212 : decode cX0_findLeap 212 = .ok (.putfield 42, 3) := by decide +kernel
theorem dX0_findLeap_215 : decode cX0_findLeap 215 = .ok (.lload_n 2, 1) := by decide +kernel
theorem dX0_findLeap_216 : decode cX0_findLeap 216 = .ok (.lload 7, 2) := by decide +kernel
theorem dX0_findLeap_218 : decode cX0_findLeap 218 = .ok (.lload 4, 2) := by decide +kernel
theorem dX0_findLeap_220 : decode cX0_findLeap 220 = .ok (.lmul, 1) := by decide +kernel
theorem dX0_findLeap_221 : decode cX0_findLeap 221 = .ok (.lsub, 1) := by decide +kernel
theorem dX0_findLeap_222 : decode cX0_findLeap 222 = .ok (.lstore 13, 2) := by decide +kernel
theorem dX0_findLeap_224 : decode cX0_findLeap 224 = .ok (.lload 4, 2) := by decide +kernel
theorem dX0_findLeap_226 : decode cX0_findLeap 226 = .ok (.lstore_n 2, 1) := by decide +kernel
theorem dX0_findLeap_227 : decode cX0_findLeap 227 = .ok (.lload 13, 2) := by decide +kernel
theorem dX0_findLeap_229 : decode cX0_findLeap 229 = .ok (.lstore 4, 2) := by decide +kernel
theorem dX0_findLeap_231 : decode cX0_findLeap 231 = .ok (.iinc 6 1, 3) := by decide +kernel
theorem dX0_findLeap_234 : decode cX0_findLeap 234 = .ok (.goto (-181), 3) := by decide +kernel
theorem dX0_findLeap_237 : decode cX0_findLeap 237 = .ok (.aload_n 0, 1) := by decide +kernel
theorem dX0_findLeap_238 : decode cX0_findLeap 238 = .ok (.getfield 36, 3) := by decide +kernel
theorem dX0_findLeap_241 : decode cX0_findLeap 241 = .ok (.lconst 0, 1) := by decide +kernel
theorem dX0_findLeap_242 : decode cX0_findLeap 242 = .ok (.lcmp, 1) := by decide +kernel
theorem dX0_findLeap_243 : decode cX0_findLeap 243 = .ok (.ifCond .eq 7, 3) := by decide +kernel
theorem dX0_findLeap_246 : decode cX0_findLeap 246 = .ok (.iconst 1, 1) := by decide +kernel
theorem dX0_findLeap_247 : decode cX0_findLeap 247 = .ok (.goto 4, 3) := by decide +kernel
theorem dX0_findLeap_250 : decode cX0_findLeap 250 = .ok (.iconst 0, 1) := by decide +kernel
theorem dX0_findLeap_251 : decode cX0_findLeap 251 = .ok (.ireturn, 1) := by decide +kernel
theorem dX0_leap_0 : decode cX0_leap 0 = .ok (.aload_n 0, 1) := by decide +kernel
theorem dX0_leap_1 : decode cX0_leap 1 = .ok (.getfield 26, 3) := by decide +kernel
theorem dX0_leap_4 : decode cX0_leap 4 = .ok (.getfield 72, 3) := by decide +kernel
theorem dX0_leap_7 : decode cX0_leap 7 = .ok (.istore_n 1, 1) := by decide +kernel
theorem dX0_leap_8 : decode cX0_leap 8 = .ok (.aload_n 0, 1) := by decide +kernel
theorem dX0_leap_9 : decode cX0_leap 9 = .ok (.getfield 29, 3) := by decide +kernel
theorem dX0_leap_12 : decode cX0_leap 12 = .ok (.iload_n 1, 1) := by decide +kernel
theorem dX0_leap_13 : decode cX0_leap 13 = .ok (.invokevirtual 88, 3) := by decide +kernel
theorem dX0_leap_16 : decode cX0_leap 16 = .ok (.lconst 0, 1) := by decide +kernel
theorem dX0_leap_17 : decode cX0_leap 17 = .ok (.lstore_n 2, 1) := by decide +kernel
theorem dX0_leap_18 : decode cX0_leap 18 = .ok (.lconst 0, 1) := by decide +kernel
theorem dX0_leap_19 : decode cX0_leap 19 = .ok (.lstore 4, 2) := by decide +kernel
theorem dX0_leap_21 : decode cX0_leap 21 = .ok (.iconst 0, 1) := by decide +kernel
theorem dX0_leap_22 : decode cX0_leap 22 = .ok (.istore 6, 2) := by decide +kernel
theorem dX0_leap_24 : decode cX0_leap 24 = .ok (.iload 6, 2) := by decide +kernel
theorem dX0_leap_26 : decode cX0_leap 26 = .ok (.iload_n 1, 1) := by decide +kernel
theorem dX0_leap_27 : decode cX0_leap 27 = .ok (.if_icmp .ge 118, 3) := by decide +kernel
theorem dX0_leap_30 : decode cX0_leap 30 = .ok (.iload 6, 2) := by decide +kernel
theorem dX0_leap_32 : decode cX0_leap 32 = .ok (.aload_n 0, 1) := by decide +kernel
theorem dX0_leap_33 : decode cX0_leap 33 = .ok (.getfield 29, 3) := by decide +kernel
theorem dX0_leap_36 : decode cX0_leap 36 = .ok (.getfield 72, 3) := by decide +kernel
theorem dX0_leap_39 : decode cX0_leap 39 = .ok (.if_icmp .ge 106, 3) := by decide +kernel
theorem dX0_leap_42 : decode cX0_leap 42 = .ok (.aload_n 0, 1) := by decide +kernel
theorem dX0_leap_43 : decode cX0_leap 43 = .ok (.getfield 26, 3) := by decide +kernel
theorem dX0_leap_46 : decode cX0_leap 46 = .ok (.iload 6, 2) := by decide +kernel
theorem dX0_leap_48 : decode cX0_leap 48 = .ok (.invokevirtual 108, 3) := by decide +kernel
theorem dX0_leap_51 : decode cX0_leap 51 = .ok (.lstore 7, 2) := by decide +kernel
theorem dX0_leap_53 : decode cX0_leap 53 = .ok (.aload_n 0, 1) := by decide +kernel
theorem dX0_leap_54 : decode cX0_leap 54 = .ok (.getfield 29, 3) := by decide +kernel
theorem dX0_leap_57 : decode cX0_leap 57 = .ok (.iload 6, 2) := by decide +kernel
theorem dX0_leap_59 : decode cX0_leap 59 = .ok (.invokevirtual 108, 3) := by decide +kernel
theorem dX0_leap_62 : decode cX0_leap 62 = .ok (.lstore 9, 2) := by decide +kernel
theorem dX0_leap_64 : decode cX0_leap 64 = .ok (.lload_n 2, 1) := by decide +kernel
theorem dX0_leap_65 : decode cX0_leap 65 = .ok (.aload_n 0, 1) := by decide +kernel
theorem dX0_leap_66 : decode cX0_leap 66 = .ok (.getfield 32, 3) := by decide +kernel
theorem dX0_leap_69 : decode cX0_leap 69 = .ok (.lload 7, 2) := by decide +kernel
theorem dX0_leap_71 : decode cX0_leap 71 = .ok (.lmul, 1) := by decide +kernel
theorem dX0_leap_72 : decode cX0_leap 72 = .ok (.aload_n 0, 1) := by decide +kernel
theorem dX0_leap_73 : decode cX0_leap 73 = .ok (.getfield 36, 3) := by decide +kernel
theorem dX0_leap_76 : decode cX0_leap 76 = .ok (.lload 9, 2) := by decide +kernel
theorem dX0_leap_78 : decode cX0_leap 78 = .ok (.lmul, 1) := by decide +kernel
theorem dX0_leap_79 : decode cX0_leap 79 = .ok (.ladd, 1) := by decide +kernel
theorem dX0_leap_80 : decode cX0_leap 80 = .ok (.ladd, 1) := by decide +kernel
theorem dX0_leap_81 : decode cX0_leap 81 = .ok (.lstore_n 2, 1) := by decide +kernel
theorem dX0_leap_82 : decode cX0_leap 82 = .ok (.lload 4, 2) := by decide +kernel
theorem dX0_leap_84 : decode cX0_leap 84 = .ok (.aload_n 0, 1) := by decide +kernel
theorem dX0_leap_85 : decode cX0_leap 85 = .ok (.getfield 39, 3) := by decide +kernel
theorem dX0_leap_88 : decode cX0_leap 88 = .ok (.lload 7, 2) := by decide +kernel
theorem dX0_leap_90 : decode cX0_leap 90 = .ok (.lmul, 1) := by decide +kernel
theorem dX0_leap_91 : decode cX0_leap 91 = .ok (.aload_n 0, 1) := by decide +kernel
theorem dX0_leap_92 : decode cX0_leap 92 = .ok (.getfield 42, 3) := by decide +kernel
theorem dX0_leap_95 : decode cX0_leap 95 = .ok (.lload 9, 2) := by decide +kernel
theorem dX0_leap_97 : decode cX0_leap 97 = .ok (.lmul, 1) := by decide +kernel
theorem dX0_leap_98 : decode cX0_leap 98 = .ok (.ladd, 1) := by decide +kernel
theorem dX0_leap_99 : decode cX0_leap 99 = .ok (.ladd, 1) := by decide +kernel
theorem dX0_leap_100 : decode cX0_leap 100 = .ok (.lstore 4, 2) := by decide +kernel
theorem dX0_leap_102 : decode cX0_leap 102 = .ok (.aload_n 0, 1) := by decide +kernel
theorem dX0_leap_103 : decode cX0_leap 103 = .ok (.getfield 26, 3) := by decide +kernel
theorem dX0_leap_106 : decode cX0_leap 106 = .ok (.getfield 84, 3) := by decide +kernel
theorem dX0_leap_109 : decode cX0_leap 109 = .ok (.iload 6, 2) := by decide +kernel
theorem dX0_leap_111 : decode cX0_leap 111 = .ok (.lload_n 2, 1) := by decide +kernel
theorem dX0_leap_112 : decode cX0_leap 112 = .ok (.l2i, 1) := by decide +kernel
theorem dX0_leap_113 : decode cX0_leap 113 = .ok (.iastore, 1) := by decide +kernel
theorem dX0_leap_114 : decode cX0_leap 114 = .ok (.aload_n 0, 1) := by decide +kernel
theorem dX0_leap_115 : decode cX0_leap 115 = .ok (.getfield 29, 3) := by decide +kernel
theorem dX0_leap_118 : decode cX0_leap 118 = .ok (.getfield 84, 3) := by decide +kernel
theorem dX0_leap_121 : decode cX0_leap 121 = .ok (.iload 6, 2) := by decide +kernel
theorem dX0_leap_123 : decode cX0_leap 123 = .ok (.lload 4, 2) := by decide +kernel
theorem dX0_leap_125 : decode cX0_leap 125 = .ok (.l2i, 1) := by decide +kernel
theorem dX0_leap_126 : decode cX0_leap 126 = .ok (.iastore, 1) := by decide +kernel
theorem dX0_leap_127 : decode cX0_leap 127 = .ok (.lload_n 2, 1) := by decide +kernel
theorem dX0_leap_128 : decode cX0_leap 128 = .ok (.bipush 32, 2) := by decide +kernel
theorem dX0_leap_130 : decode cX0_leap 130 = .ok (.lshr, 1) := by decide +kernel
theorem dX0_leap_131 : decode cX0_leap 131 = .ok (.lstore_n 2, 1) := by decide +kernel
theorem dX0_leap_132 : decode cX0_leap 132 = .ok (.lload 4, 2) := by decide +kernel
theorem dX0_leap_134 : decode cX0_leap 134 = .ok (.bipush 32, 2) := by decide +kernel
theorem dX0_leap_136 : decode cX0_leap 136 = .ok (.lshr, 1) := by decide +kernel
theorem dX0_leap_137 : decode cX0_leap 137 = .ok (.lstore 4, 2) := by decide +kernel
theorem dX0_leap_139 : decode cX0_leap 139 = .ok (.iinc 6 1, 3) := by decide +kernel
theorem dX0_leap_142 : decode cX0_leap 142 = .ok (.goto (-118), 3) := by decide +kernel
theorem dX0_leap_145 : decode cX0_leap 145 = .ok (.aload_n 0, 1) := by decide +kernel
theorem dX0_leap_146 : decode cX0_leap 146 = .ok (.getfield 26, 3) := by decide +kernel
theorem dX0_leap_149 : decode cX0_leap 149 = .ok (.invokevirtual 102, 3) := by decide +kernel
theorem dX0_leap_152 : decode cX0_leap 152 = .ok (.aload_n 0, 1) := by decide +kernel
theorem dX0_leap_153 : decode cX0_leap 153 = .ok (.getfield 29, 3) := by decide +kernel
theorem dX0_leap_156 : decode cX0_leap 156 = .ok (.invokevirtual 102, 3) := by decide +kernel
theorem dX0_leap_159 : decode cX0_leap 159 = .ok (.return_, 1) := by decide +kernel
theorem dX2_init_0 : decode cX2_init 0 = .ok (.aload_n 0, 1) := by decide +kernel
theorem dX2_init_1 : decode cX2_init 1 = .ok (.invokespecial 3, 3) := by decide +kernel
theorem dX2_init_4 : decode cX2_init 4 = .ok (.aload_n 0, 1) := by decide +kernel
theorem dX2_init_5 : decode cX2_init 5 = .ok (.new 9, 3) := by decide +kernel
theorem dX2_init_8 : decode cX2_init 8 = .ok (.dup, 1) := by decide +kernel
theorem dX2_init_9 : decode cX2_init 9 = .ok (.bipush 72, 2) := by decide +kernel
theorem dX2_init_11 : decode cX2_init 11 = .ok (.invokespecial 11, 3) := by decide +kernel
theorem dX2_init_14 : decode cX2_init 14 = .ok (.putfield 14, 3) := by decide +kernel
theorem dX2_init_17 : decode cX2_init 17 = .ok (.aload_n 0, 1) := by decide +kernel
theorem dX2_init_18 : decode cX2_init 18 = .ok (.new 9, 3) := by decide +kernel
theorem dX2_init_21 : decode cX2_init 21 = .ok (.dup, 1) := by decide +kernel
theorem dX2_init_22 : decode cX2_init 22 = .ok (.bipush 72, 2) := by decide +kernel
theorem dX2_init_24 : decode cX2_init 24 = .ok (.invokespecial 11, 3) := by decide +kernel
theorem dX2_init_27 : decode cX2_init 27 = .ok (.putfield 20, 3) := by decide +kernel
theorem dX2_init_30 : decode cX2_init 30 = .ok (.aload_n 0, 1) := by decide +kernel
theorem dX2_init_31 : decode cX2_init 31 = .ok (.new 9, 3) := by decide +kernel
theorem dX2_init_34 : decode cX2_init 34 = .ok (.dup, 1) := by decide +kernel
theorem dX2_init_35 : decode cX2_init 35 = .ok (.bipush 72, 2) := by decide +kernel
theorem dX2_init_37 : decode cX2_init 37 = .ok (.invokespecial 11, 3) := by decide +kernel
theorem dX2_init_40 : decode cX2_init 40 = .ok (.putfield 23, 3) := by decide +kernel
theorem dX2_init_43 : decode cX2_init 43 = .ok (.aload_n 0, 1) := by decide +kernel
theorem dX2_init_44 : decode cX2_init 44 = .ok (.new 9, 3) := by decide +kernel
theorem dX2_init_47 : decode cX2_init 47 = .ok (.dup, 1) := by decide +kernel
theorem dX2_init_48 : decode cX2_init 48 = .ok (.bipush 72, 2) := by decide +kernel
theorem dX2_init_50 : decode cX2_init 50 = .ok (.invokespecial 11, 3) := by decide +kernel
theorem dX2_init_53 : decode cX2_init 53 = .ok (.putfield 26, 3) := by decide +kernel
theorem dX2_init_56 : decode cX2_init 56 = .ok (.aload_n 0, 1) := by decide +kernel
theorem dX2_init_57 : decode cX2_init 57 = .ok (.new 9, 3) := by decide +kernel
theorem dX2_init_60 : decode cX2_init 60 = .ok (.dup, 1) := by decide +kernel
theorem dX2_init_61 : decode cX2_init 61 = .ok (.bipush 72, 2) := by decide +kernel
theorem dX2_init_63 : decode cX2_init 63 = .ok (.invokespecial 11, 3) := by decide +kernel
theorem dX2_init_66 : decode cX2_init 66 = .ok (.putfield 29, 3) := by decide +kernel
theorem dX2_init_69 : decode cX2_init 69 = .ok (.aload_n 0, 1) := by decide +kernel
theorem dX2_init_70 : decode cX2_init 70 = .ok (.new 9, 3) := by decide +kernel
theorem dX2_init_73 : decode cX2_init 73 = .ok (.dup, 1) := by decide +kernel
theorem dX2_init_74 : decode cX2_init 74 = .ok (.bipush 72, 2) := by decide +kernel
theorem dX2_init_76 : decode cX2_init 76 = .ok (.invokespecial 11, 3) := by decide +kernel
theorem dX2_init_79 : decode cX2_init 79 = .ok (.putfield 32, 3) := by decide +kernel
theorem dX2_init_82 : decode cX2_init 82 = .ok (.return_, 1) := by decide +kernel
theorem dX2_findTail_0 : decode cX2_findTail 0 = .ok (.aload 4, 2) := by decide +kernel
theorem dX2_findTail_2 : decode cX2_findTail 2 = .ok (.getfield 35, 3) := by decide +kernel
theorem dX2_findTail_5 : decode cX2_findTail 5 = .ok (.invokevirtual 40, 3) := by decide +kernel
theorem dX2_findTail_8 : decode cX2_findTail 8 = .ok (.aload_n 0, 1) := by decide +kernel
theorem dX2_findTail_9 : decode cX2_findTail 9 = .ok (.getfield 14, 3) := by decide +kernel
theorem dX2_findTail_12 : decode cX2_findTail 12 = .ok (.aload_n 1, 1) := by decide +kernel
theorem dX2_findTail_13 : decode cX2_findTail 13 = .ok (.getfield 43, 3) := by decide +kernel
theorem dX2_findTail_16 : decode cX2_findTail 16 = .ok (.getfield 35, 3) := by decide +kernel
theorem dX2_findTail_19 : decode cX2_findTail 19 = .ok (.iconst 1, 1) := by decide +kernel
theorem dX2_findTail_20 : decode cX2_findTail 20 = .ok (.invokevirtual 49, 3) := by decide +kernel
theorem dX2_findTail_23 : decode cX2_findTail 23 = .ok (.iconst 0, 1) := by decide +kernel
theorem dX2_findTail_24 : decode cX2_findTail 24 = .ok (.istore 5, 2) := by decide +kernel
theorem dX2_findTail_26 : decode cX2_findTail 26 = .ok (.iload 5, 2) := by decide +kernel
theorem dX2_findTail_28 : decode cX2_findTail 28 = .ok (.aload_n 1, 1) := by decide +kernel
theorem dX2_findTail_29 : decode cX2_findTail 29 = .ok (.getfield 53, 3) := by decide +kernel
theorem dX2_findTail_32 : decode cX2_findTail 32 = .ok (.getfield 57, 3) := by decide +kernel
theorem dX2_findTail_35 : decode cX2_findTail 35 = .ok (.if_icmp .gt 36, 3) := by decide +kernel
theorem dX2_findTail_38 : decode cX2_findTail 38 = .ok (.aload_n 0, 1) := by decide +kernel
theorem dX2_findTail_39 : decode cX2_findTail 39 = .ok (.aload_n 1, 1) := by decide +kernel
theorem dX2_findTail_40 : decode cX2_findTail 40 = .ok (.iload 5, 2) := by decide +kernel
theorem dX2_findTail_42 : decode cX2_findTail 42 = .ok (.iload_n 2, 1) := by decide +kernel
theorem dX2_findTail_43 : decode cX2_findTail 43 = .ok (.iload_n 3, 1) := by decide +kernel
theorem dX2_findTail_44 : decode cX2_findTail 44 = .ok (.invokevirtual 63, 3) := by decide +kernel
theorem dX2_findTail_47 : decode cX2_findTail 47 = .ok (.ifCond .eq 18, 3) := by decide +kernel
theorem dX2_findTail_50 : decode cX2_findTail 50 = .ok (.aload_n 1, 1) := by decide +kernel
theorem dX2_findTail_51 : decode cX2_findTail 51 = .ok (.getfield 53, 3) := by decide +kernel
theorem dX2_findTail_54 : decode cX2_findTail 54 = .ok (.aload 4, 2) := by decide +kernel
theorem dX2_findTail_56 : decode cX2_findTail 56 = .ok (.getfield 35, 3) := by decide +kernel
theorem dX2_findTail_59 : decode cX2_findTail 59 = .ok (.iload 5, 2) := by decide +kernel
theorem dX2_findTail_61 : decode cX2_findTail 61 = .ok (.iconst 1, 1) := by decide +kernel
theorem dX2_findTail_62 : decode cX2_findTail 62 = .ok (.invokevirtual 67, 3) := by decide +kernel
theorem dX2_findTail_65 : decode cX2_findTail 65 = .ok (.iinc 5 1, 3) := by decide +kernel
theorem dX2_findTail_68 : decode cX2_findTail 68 = .ok (.goto (-42), 3) := by decide +kernel
theorem dX2_findTail_71 : decode cX2_findTail 71 = .ok (.aload 4, 2) := by decide +kernel
theorem dX2_findTail_73 : decode cX2_findTail 73 = .ok (.getfield 71, 3) := by decide +kernel
theorem dX2_findTail_76 : decode cX2_findTail 76 = .ok (.aload_n 1, 1) := by decide +kernel
theorem dX2_findTail_77 : decode cX2_findTail 77 = .ok (.getfield 74, 3) := by decide +kernel
theorem dX2_findTail_80 : decode cX2_findTail 80 = .ok (.invokevirtual 77, 3) := by decide +kernel
theorem dX2_findTail_83 : decode cX2_findTail 83 = .ok (.return_, 1) := by decide +kernel
theorem dX2_isInTail_0 : decode cX2_isInTail 0 = .ok (.iload 4, 2) := by decide +kernel
theorem dX2_isInTail_2 : decode cX2_isInTail 2 = .ok (.ifCond .eq 8, 3) := by decide +kernel
theorem dX2_isInTail_5 : decode cX2_isInTail 5 = .ok (.iload_n 2, 1) := by decide +kernel
theorem dX2_isInTail_6 : decode cX2_isInTail 6 = .ok (.iload_n 3, 1) := by decide +kernel
theorem dX2_isInTail_7 : decode cX2_isInTail 7 = .ok (.if_icmp .ne 14, 3) := by decide +kernel
theorem dX2_isInTail_10 : decode cX2_isInTail 10 = .ok (.iload_n 2, 1) := by decide +kernel
theorem dX2_isInTail_11 : decode cX2_isInTail 11 = .ok (.iload_n 3, 1) := by decide +kernel
theorem dX2_isInTail_12 : decode cX2_isInTail 12 = .ok (.if_icmp .lt 7, 3) := by decide +kernel
theorem dX2_isInTail_15 : decode cX2_isInTail 15 = .ok (.iconst 1, 1) := by decide +kernel
theorem dX2_isInTail_16 : decode cX2_isInTail 16 = .ok (.goto 4, 3) := by decide +kernel
theorem dX2_isInTail_19 : decode cX2_isInTail 19 = .ok (.iconst 0, 1) := by decide +kernel
theorem dX2_isInTail_20 : decode cX2_isInTail 20 = .ok (.ireturn, 1) := by decide +kernel
theorem dX2_isInTail_21 : decode cX2_isInTail 21 = .ok (.iload 4, 2) := by decide +kernel
theorem dX2_isInTail_23 : decode cX2_isInTail 23 = .ok (.iconst 1, 1) := by decide +kernel
theorem dX2_isInTail_24 : decode cX2_isInTail 24 = .ok (.if_icmp .ne 14, 3) := by decide +kernel
theorem dX2_isInTail_27 : decode cX2_isInTail 27 = .ok (.iload_n 2, 1) := by decide +kernel
theorem dX2_isInTail_28 : decode cX2_isInTail 28 = .ok (.iload_n 3, 1) := by decide +kernel
theorem dX2_isInTail_29 : decode cX2_isInTail 29 = .ok (.if_icmp .ge 7, 3) := by decide +kernel
theorem dX2_isInTail_32 : decode cX2_isInTail 32 = .ok (.iconst 1, 1) := by decide +kernel
theorem dX2_isInTail_33 : decode cX2_isInTail 33 = .ok (.goto 4, 3) := by decide +kernel
theorem dX2_isInTail_36 : decode cX2_isInTail 36 = .ok (.iconst 0, 1) := by decide +kernel
theorem dX2_isInTail_37 : decode cX2_isInTail 37 = .ok (.ireturn, 1) := by decide +kernel
theorem dX2_isInTail_38 : decode cX2_isInTail 38 = .ok (.aload_n 0, 1) := by decide +kernel
theorem dX2_isInTail_39 : decode cX2_isInTail 39 = .ok (.getfield 20, 3) := by decide +kernel
theorem dX2_isInTail_42 : decode cX2_isInTail 42 = .ok (.aload_n 1, 1) := by decide +kernel
theorem dX2_isInTail_43 : decode cX2_isInTail 43 = .ok (.getfield 43, 3) := by decide +kernel
theorem dX2_isInTail_46 : decode cX2_isInTail 46 = .ok (.getfield 71, 3) := by decide +kernel
theorem dX2_isInTail_49 : decode cX2_isInTail 49 = .ok (.invokevirtual 77, 3) := by decide +kernel
theorem dX2_isInTail_52 : decode cX2_isInTail 52 = .ok (.aload_n 0, 1) := by decide +kernel
theorem dX2_isInTail_53 : decode cX2_isInTail 53 = .ok (.getfield 20, 3) := by decide +kernel
theorem dX2_isInTail_56 : decode cX2_isInTail 56 = .ok (.iload_n 2, 1) := by decide +kernel
theorem dX2_isInTail_57 : decode cX2_isInTail 57 = .ok (.iload_n 3, 1) := by decide +kernel
theorem dX2_isInTail_58 : decode cX2_isInTail 58 = .ok (.iadd, 1) := by decide +kernel
theorem dX2_isInTail_59 : decode cX2_isInTail 59 = .ok (.i2l, 1) := by decide +kernel
theorem dX2_isInTail_60 : decode cX2_isInTail 60 = .ok (.invokevirtual 81, 3) := by decide +kernel
theorem dX2_isInTail_63 : decode cX2_isInTail 63 = .ok (.aload_n 0, 1) := by decide +kernel
theorem dX2_isInTail_64 : decode cX2_isInTail 64 = .ok (.getfield 20, 3) := by decide +kernel
theorem dX2_isInTail_67 : decode cX2_isInTail 67 = .ok (.aload_n 0, 1) := by decide +kernel
theorem dX2_isInTail_68 : decode cX2_isInTail 68 = .ok (.getfield 14, 3) := by decide +kernel
theorem dX2_isInTail_71 : decode cX2_isInTail 71 = .ok (.invokevirtual 85, 3) := by decide +kernel
theorem dX2_isInTail_74 : decode cX2_isInTail 74 = .ok (.istore 5, 2) := by decide +kernel
theorem dX2_isInTail_76 : decode cX2_isInTail 76 = .ok (.iload_n 2, 1) := by decide +kernel
theorem dX2_isInTail_77 : decode cX2_isInTail 77 = .ok (.iload_n 3, 1) := by decide +kernel
theorem dX2_isInTail_78 : decode cX2_isInTail 78 = .ok (.if_icmp .le 16, 3) := by decide +kernel
theorem dX2_isInTail_81 : decode cX2_isInTail 81 = .ok (.iload 5, 2) := by decide +kernel
theorem dX2_isInTail_83 : decode cX2_isInTail 83 = .ok (.ifCond .lt 7, 3) := by decide +kernel
theorem dX2_isInTail_86 : decode cX2_isInTail 86 = .ok (.iconst 1, 1) := by decide +kernel
theorem dX2_isInTail_87 : decode cX2_isInTail 87 = .ok (.goto 17, 3) := by decide +kernel
theorem dX2_isInTail_90 : decode cX2_isInTail 90 = .ok (.iconst 0, 1) := by decide +kernel
theorem dX2_isInTail_91 : decode cX2_isInTail 91 = .ok (.goto 13, 3) := by decide +kernel
theorem dX2_isInTail_94 : decode cX2_isInTail 94 = .ok (.iload 5, 2) := by decide +kernel
theorem dX2_isInTail_96 : decode cX2_isInTail 96 = .ok (.ifCond .gt 7, 3) := by decide +kernel
theorem dX2_isInTail_99 : decode cX2_isInTail 99 = .ok (.iconst 1, 1) := by decide +kernel
theorem dX2_isInTail_100 : decode cX2_isInTail 100 = .ok (.goto 4, 3) := by decide +kernel
theorem dX2_isInTail_103 : decode cX2_isInTail 103 = .ok (.iconst 0, 1) := by decide +kernel
theorem dX2_isInTail_104 : decode cX2_isInTail 104 = .ok (.ireturn, 1) := by decide +kernel
theorem dX2_findMoment_0 : decode cX2_findMoment 0 = .ok (.iload_n 2, 1) := by decide +kernel
theorem dX2_findMoment_1 : decode cX2_findMoment 1 = .ok (.iconst 2, 1) := by decide +kernel
theorem dX2_findMoment_2 : decode cX2_findMoment 2 = .ok (.if_icmp .ne 15, 3) := by decide +kernel
theorem dX2_findMoment_5 : decode cX2_findMoment 5 = .ok (.aload_n 0, 1) := by decide +kernel
theorem dX2_findMoment_6 : decode cX2_findMoment 6 = .ok (.aload_n 1, 1) := by decide +kernel
theorem dX2_findMoment_7 : decode cX2_findMoment 7 = .ok (.aload_n 3, 1) := by decide +kernel
theorem dX2_findMoment_8 : decode cX2_findMoment 8 = .ok (.getfield 35, 3) := by decide +kernel
theorem dX2_findMoment_11 : decode cX2_findMoment 11 = .ok (.invokevirtual 89, 3) := by decide +kernel
theorem dX2_findMoment_14 : decode cX2_findMoment 14 = .ok (.goto 12, 3) := by decide +kernel
theorem dX2_findMoment_17 : decode cX2_findMoment 17 = .ok (.aload_n 0, 1) := by decide +kernel
theorem dX2_findMoment_18 : decode cX2_findMoment 18 = .ok (.aload_n 1, 1) := by decide +kernel
theorem dX2_findMoment_19 : decode cX2_findMoment 19 = .ok (.aload_n 3, 1) := by decide +kernel
theorem dX2_findMoment_20 : decode cX2_findMoment 20 = .ok (.getfield 35, 3) := by decide +kernel
theorem dX2_findMoment_23 : decode cX2_findMoment 23 = .ok (.invokevirtual 93, 3) := by decide +kernel
theorem dX2_findMoment_26 : decode cX2_findMoment 26 = .ok (.aload_n 0, 1) := by decide +kernel
theorem dX2_findMoment_27 : decode cX2_findMoment 27 = .ok (.getfield 20, 3) := by decide +kernel
theorem dX2_findMoment_30 : decode cX2_findMoment 30 = .ok (.aload_n 1, 1) := by decide +kernel
theorem dX2_findMoment_31 : decode cX2_findMoment 31 = .ok (.getfield 43, 3) := by decide +kernel
theorem dX2_findMoment_34 : decode cX2_findMoment 34 = .ok (.getfield 71, 3) := by decide +kernel
theorem dX2_findMoment_37 : decode cX2_findMoment 37 = .ok (.invokevirtual 77, 3) := by decide +kernel
theorem dX2_findMoment_40 : decode cX2_findMoment 40 = .ok (.aload_n 0, 1) := by decide +kernel
theorem dX2_findMoment_41 : decode cX2_findMoment 41 = .ok (.aload_n 0, 1) := by decide +kernel
theorem dX2_findMoment_42 : decode cX2_findMoment 42 = .ok (.getfield 20, 3) := by decide +kernel
theorem dX2_findMoment_45 : decode cX2_findMoment 45 = .ok (.iload_n 2, 1) := by decide +kernel
theorem dX2_findMoment_46 : decode cX2_findMoment 46 = .ok (.invokevirtual 96, 3) := by decide +kernel
theorem dX2_findMoment_49 : decode cX2_findMoment 49 = .ok (.aload_n 3, 1) := by decide +kernel
theorem dX2_findMoment_50 : decode cX2_findMoment 50 = .ok (.getfield 71, 3) := by decide +kernel
theorem dX2_findMoment_53 : decode cX2_findMoment 53 = .ok (.aload_n 0, 1) := by decide +kernel
theorem dX2_findMoment_54 : decode cX2_findMoment 54 = .ok (.getfield 20, 3) := by decide +kernel
theorem dX2_findMoment_57 : decode cX2_findMoment 57 = .ok (.aload_n 1, 1) := by decide +kernel
theorem dX2_findMoment_58 : decode cX2_findMoment 58 = .ok (.getfield 74, 3) := by decide +kernel
theorem dX2_findMoment_61 : decode cX2_findMoment 61 = .ok (.invokevirtual 99, 3) := by decide +kernel
theorem dX2_findMoment_64 : decode cX2_findMoment 64 = .ok (.return_, 1) := by decide +kernel
theorem dX2_isAboveMean_0 : decode cX2_isAboveMean 0 = .ok (.aload_n 0, 1) := by decide +kernel
theorem dX2_isAboveMean_1 : decode cX2_isAboveMean 1 = .ok (.getfield 20, 3) := by decide +kernel
theorem dX2_isAboveMean_4 : decode cX2_isAboveMean 4 = .ok (.aload_n 1, 1) := by decide +kernel
theorem dX2_isAboveMean_5 : decode cX2_isAboveMean 5 = .ok (.getfield 43, 3) := by decide +kernel
theorem dX2_isAboveMean_8 : decode cX2_isAboveMean 8 = .ok (.getfield 71, 3) := by decide +kernel
theorem dX2_isAboveMean_11 : decode cX2_isAboveMean 11 = .ok (.invokevirtual 77, 3) := by decide +kernel
theorem dX2_isAboveMean_14 : decode cX2_isAboveMean 14 = .ok (.aload_n 0, 1) := by decide +kernel
theorem dX2_isAboveMean_15 : decode cX2_isAboveMean 15 = .ok (.getfield 20, 3) := by decide +kernel
theorem dX2_isAboveMean_18 : decode cX2_isAboveMean 18 = .ok (.iload_n 2, 1) := by decide +kernel
theorem dX2_isAboveMean_19 : decode cX2_isAboveMean 19 = .ok (.i2l, 1) := by decide +kernel
theorem dX2_isAboveMean_20 : decode cX2_isAboveMean 20 = .ok (.invokevirtual 81, 3) := by decide +kernel
theorem dX2_isAboveMean_23 : decode cX2_isAboveMean 23 = .ok (.aload_n 0, 1) := by decide +kernel
theorem dX2_isAboveMean_24 : decode cX2_isAboveMean 24 = .ok (.getfield 20, 3) := by decide +kernel
theorem dX2_isAboveMean_27 : decode cX2_isAboveMean 27 = .ok (.aload_n 1, 1) := by decide +kernel
theorem dX2_isAboveMean_28 : decode cX2_isAboveMean 28 = .ok (.getfield 43, 3) := by decide +kernel
theorem dX2_isAboveMean_31 : decode cX2_isAboveMean 31 = .ok (.getfield 35, 3) := by decide +kernel
theorem dX2_isAboveMean_34 : decode cX2_isAboveMean 34 = .ok (.invokevirtual 85, 3) := by decide +kernel
theorem dX2_isAboveMean_37 : decode cX2_isAboveMean 37 = .ok (.ifCond .le 7, 3) := by decide +kernel
theorem dX2_isAboveMean_40 : decode cX2_isAboveMean 40 = .ok (.iconst 1, 1) := by decide +kernel
theorem dX2_isAboveMean_41 : decode cX2_isAboveMean 41 = .ok (.goto 4, 3) := by decide +kernel
theorem dX2_isAboveMean_44 : decode cX2_isAboveMean 44 = .ok (.iconst 0, 1) := by decide +kernel
theorem dX2_isAboveMean_45 : decode cX2_isAboveMean 45 = .ok (.ireturn, 1) := by decide +kernel
theorem dX2_boundByMean_0 : decode cX2_boundByMean 0 = .ok (.aload_n 3, 1) := by decide +kernel
theorem dX2_boundByMean_1 : decode cX2_boundByMean 1 = .ok (.aload_n 1, 1) := by decide +kernel
theorem dX2_boundByMean_2 : decode cX2_boundByMean 2 = .ok (.getfield 43, 3) := by decide +kernel
theorem dX2_boundByMean_5 : decode cX2_boundByMean 5 = .ok (.invokevirtual 103, 3) := by decide +kernel
theorem dX2_boundByMean_8 : decode cX2_boundByMean 8 = .ok (.aload_n 3, 1) := by decide +kernel
theorem dX2_boundByMean_9 : decode cX2_boundByMean 9 = .ok (.getfield 71, 3) := by decide +kernel
theorem dX2_boundByMean_12 : decode cX2_boundByMean 12 = .ok (.iload_n 2, 1) := by decide +kernel
theorem dX2_boundByMean_13 : decode cX2_boundByMean 13 = .ok (.i2l, 1) := by decide +kernel
theorem dX2_boundByMean_14 : decode cX2_boundByMean 14 = .ok (.invokevirtual 81, 3) := by decide +kernel
theorem dX2_boundByMean_17 : decode cX2_boundByMean 17 = .ok (.return_, 1) := by decide +kernel
theorem dX2_boundByMoment_0 : decode cX2_boundByMoment 0 = .ok (.iload_n 3, 1) := by decide +kernel
theorem dX2_boundByMoment_1 : decode cX2_boundByMoment 1 = .ok (.iconst 2, 1) := by decide +kernel
theorem dX2_boundByMoment_2 : decode cX2_boundByMoment 2 = .ok (.if_icmp .ne 16, 3) := by decide +kernel
theorem dX2_boundByMoment_5 : decode cX2_boundByMoment 5 = .ok (.aload_n 0, 1) := by decide +kernel
theorem dX2_boundByMoment_6 : decode cX2_boundByMoment 6 = .ok (.aload_n 1, 1) := by decide +kernel
theorem dX2_boundByMoment_7 : decode cX2_boundByMoment 7 = .ok (.aload 4, 2) := by decide +kernel
theorem dX2_boundByMoment_9 : decode cX2_boundByMoment 9 = .ok (.getfield 35, 3) := by decide +kernel
theorem dX2_boundByMoment_12 : decode cX2_boundByMoment 12 = .ok (.invokevirtual 93, 3) := by decide +kernel
theorem dX2_boundByMoment_15 : decode cX2_boundByMoment 15 = .ok (.goto 13, 3) := by decide +kernel
theorem dX2_boundByMoment_18 : decode cX2_boundByMoment 18 = .ok (.aload_n 0, 1) := by decide +kernel
theorem dX2_boundByMoment_19 : decode cX2_boundByMoment 19 = .ok (.aload_n 1, 1) := by decide +kernel
theorem dX2_boundByMoment_20 : decode cX2_boundByMoment 20 = .ok (.aload 4, 2) := by decide +kernel
theorem dX2_boundByMoment_22 : decode cX2_boundByMoment 22 = .ok (.getfield 35, 3) := by decide +kernel
theorem dX2_boundByMoment_25 : decode cX2_boundByMoment 25 = .ok (.invokevirtual 89, 3) := by decide +kernel
theorem dX2_boundByMoment_28 : decode cX2_boundByMoment 28 = .ok (.aload_n 0, 1) := by decide +kernel
theorem dX2_boundByMoment_29 : decode cX2_boundByMoment 29 = .ok (.getfield 20, 3) := by decide +kernel
theorem dX2_boundByMoment_32 : decode cX2_boundByMoment 32 = .ok (.aload_n 1, 1) := by decide +kernel
theorem dX2_boundByMoment_33 : decode cX2_boundByMoment 33 = .ok (.getfield 43, 3) := by decide +kernel
theorem dX2_boundByMoment_36 : decode cX2_boundByMoment 36 = .ok (.getfield 71, 3) := by decide +kernel
theorem dX2_boundByMoment_39 : decode cX2_boundByMoment 39 = .ok (.invokevirtual 77, 3) := by decide +kernel
theorem dX2_boundByMoment_42 : decode cX2_boundByMoment 42 = .ok (.aload_n 0, 1) := by decide +kernel
theorem dX2_boundByMoment_43 : decode cX2_boundByMoment 43 = .ok (.getfield 20, 3) := by decide +kernel
theorem dX2_boundByMoment_46 : decode cX2_boundByMoment 46 = .ok (.iload_n 2, 1) := by decide +kernel
theorem dX2_boundByMoment_47 : decode cX2_boundByMoment 47 = .ok (.i2l, 1) := by decide +kernel
theorem dX2_boundByMoment_48 : decode cX2_boundByMoment 48 = .ok (.invokevirtual 81, 3) := by decide +kernel
theorem dX2_boundByMoment_51 : decode cX2_boundByMoment 51 = .ok (.aload_n 0, 1) := by decide +kernel
theorem dX2_boundByMoment_52 : decode cX2_boundByMoment 52 = .ok (.getfield 20, 3) := by decide +kernel
theorem dX2_boundByMoment_55 : decode cX2_boundByMoment 55 = .ok (.aload_n 1, 1) := by decide +kernel
theorem dX2_boundByMoment_56 : decode cX2_boundByMoment 56 = .ok (.getfield 43, 3) := by decide +kernel
theorem dX2_boundByMoment_59 : decode cX2_boundByMoment 59 = .ok (.getfield 35, 3) := by decide +kernel
theorem dX2_boundByMoment_62 : decode cX2_boundByMoment 62 = .ok (.invokevirtual 106, 3) := by decide +kernel
theorem dX2_boundByMoment_65 : decode cX2_boundByMoment 65 = .ok (.aload_n 0, 1) := by decide +kernel
theorem dX2_boundByMoment_66 : decode cX2_boundByMoment 66 = .ok (.aload_n 0, 1) := by decide +kernel
theorem dX2_boundByMoment_67 : decode cX2_boundByMoment 67 = .ok (.getfield 20, 3) := by decide +kernel
theorem dX2_boundByMoment_70 : decode cX2_boundByMoment 70 = .ok (.iload_n 3, 1) := by decide +kernel
theorem dX2_boundByMoment_71 : decode cX2_boundByMoment 71 = .ok (.iconst 2, 1) := by decide +kernel
theorem dX2_boundByMoment_72 : decode cX2_boundByMoment 72 = .ok (.if_icmp .ne 7, 3) := by decide +kernel
theorem dX2_boundByMoment_75 : decode cX2_boundByMoment 75 = .ok (.iconst 4, 1) := by decide +kernel
theorem dX2_boundByMoment_76 : decode cX2_boundByMoment 76 = .ok (.goto 4, 3) := by decide +kernel
theorem dX2_boundByMoment_79 : decode cX2_boundByMoment 79 = .ok (.iconst 2, 1) := by decide +kernel
theorem dX2_boundByMoment_80 : decode cX2_boundByMoment 80 = .ok (.invokevirtual 96, 3) := by decide +kernel
theorem dX2_boundByMoment_83 : decode cX2_boundByMoment 83 = .ok (.aload 4, 2) := by decide +kernel
theorem dX2_boundByMoment_85 : decode cX2_boundByMoment 85 = .ok (.getfield 71, 3) := by decide +kernel
theorem dX2_boundByMoment_88 : decode cX2_boundByMoment 88 = .ok (.aload_n 0, 1) := by decide +kernel
theorem dX2_boundByMoment_89 : decode cX2_boundByMoment 89 = .ok (.getfield 20, 3) := by decide +kernel
theorem dX2_boundByMoment_92 : decode cX2_boundByMoment 92 = .ok (.aload_n 1, 1) := by decide +kernel
theorem dX2_boundByMoment_93 : decode cX2_boundByMoment 93 = .ok (.getfield 74, 3) := by decide +kernel
theorem dX2_boundByMoment_96 : decode cX2_boundByMoment 96 = .ok (.invokevirtual 99, 3) := by decide +kernel
theorem dX2_boundByMoment_99 : decode cX2_boundByMoment 99 = .ok (.iload_n 3, 1) := by decide +kernel
theorem dX2_boundByMoment_100 : decode cX2_boundByMoment 100 = .ok (.iconst 3, 1) := by decide +kernel
theorem dX2_boundByMoment_101 : decode cX2_boundByMoment 101 = .ok (.if_icmp .ne 16, 3) := by decide +kernel
theorem dX2_boundByMoment_104 : decode cX2_boundByMoment 104 = .ok (.aload 4, 2) := by decide +kernel
theorem dX2_boundByMoment_106 : decode cX2_boundByMoment 106 = .ok (.getfield 71, 3) := by decide +kernel
theorem dX2_boundByMoment_109 : decode cX2_boundByMoment 109 = .ok (.aload 4, 2) := by decide +kernel
theorem dX2_boundByMoment_111 : decode cX2_boundByMoment 111 = .ok (.getfield 35, 3) := by decide +kernel
theorem dX2_boundByMoment_114 : decode cX2_boundByMoment 114 = .ok (.invokevirtual 109, 3) := by decide +kernel
theorem dX2_boundByMoment_117 : decode cX2_boundByMoment 117 = .ok (.return_, 1) := by decide +kernel
theorem dX2_raise_0 : decode cX2_raise 0 = .ok (.iconst 1, 1) := by decide +kernel
theorem dX2_raise_1 : decode cX2_raise 1 = .ok (.istore_n 3, 1) := by decide +kernel
theorem dX2_raise_2 : decode cX2_raise 2 = .ok (.iload_n 3, 1) := by decide +kernel
theorem dX2_raise_3 : decode cX2_raise 3 = .ok (.iload_n 2, 1) := by decide +kernel
theorem dX2_raise_4 : decode cX2_raise 4 = .ok (.if_icmp .ge 32, 3) := by decide +kernel
theorem dX2_raise_7 : decode cX2_raise 7 = .ok (.iload_n 3, 1) := by decide +kernel
theorem dX2_raise_8 : decode cX2_raise 8 = .ok (.iconst 4, 1) := by decide +kernel
theorem dX2_raise_9 : decode cX2_raise 9 = .ok (.if_icmp .ge 27, 3) := by decide +kernel
theorem dX2_raise_12 : decode cX2_raise 12 = .ok (.aload_n 0, 1) := by decide +kernel
theorem dX2_raise_13 : decode cX2_raise 13 = .ok (.getfield 14, 3) := by decide +kernel
theorem dX2_raise_16 : decode cX2_raise 16 = .ok (.aload_n 1, 1) := by decide +kernel
theorem dX2_raise_17 : decode cX2_raise 17 = .ok (.aload_n 1, 1) := by decide +kernel
theorem dX2_raise_18 : decode cX2_raise 18 = .ok (.invokevirtual 99, 3) := by decide +kernel
theorem dX2_raise_21 : decode cX2_raise 21 = .ok (.aload_n 1, 1) := by decide +kernel
theorem dX2_raise_22 : decode cX2_raise 22 = .ok (.aload_n 0, 1) := by decide +kernel
theorem dX2_raise_23 : decode cX2_raise 23 = .ok (.getfield 14, 3) := by decide +kernel
theorem dX2_raise_26 : decode cX2_raise 26 = .ok (.invokevirtual 77, 3) := by decide +kernel
theorem dX2_raise_29 : decode cX2_raise 29 = .ok (.iload_n 3, 1) := by decide +kernel
theorem dX2_raise_30 : decode cX2_raise 30 = .ok (.iload_n 3, 1) := by decide +kernel
theorem dX2_raise_31 : decode cX2_raise 31 = .ok (.iadd, 1) := by decide +kernel
theorem dX2_raise_32 : decode cX2_raise 32 = .ok (.istore_n 3, 1) := by decide +kernel
theorem dX2_raise_33 : decode cX2_raise 33 = .ok (.goto (-31), 3) := by decide +kernel
theorem dX2_raise_36 : decode cX2_raise 36 = .ok (.return_, 1) := by decide +kernel
theorem dX2_sumOfPowers_0 : decode cX2_sumOfPowers 0 = .ok (.aload_n 3, 1) := by decide +kernel
theorem dX2_sumOfPowers_1 : decode cX2_sumOfPowers 1 = .ok (.invokevirtual 40, 3) := by decide +kernel
theorem dX2_sumOfPowers_4 : decode cX2_sumOfPowers 4 = .ok (.iconst 1, 1) := by decide +kernel
theorem dX2_sumOfPowers_5 : decode cX2_sumOfPowers 5 = .ok (.istore 4, 2) := by decide +kernel
theorem dX2_sumOfPowers_7 : decode cX2_sumOfPowers 7 = .ok (.iload 4, 2) := by decide +kernel
theorem dX2_sumOfPowers_9 : decode cX2_sumOfPowers 9 = .ok (.aload_n 1, 1) := by decide +kernel
theorem dX2_sumOfPowers_10 : decode cX2_sumOfPowers 10 = .ok (.getfield 53, 3) := by decide +kernel
theorem dX2_sumOfPowers_13 : decode cX2_sumOfPowers 13 = .ok (.getfield 57, 3) := by decide +kernel
theorem dX2_sumOfPowers_16 : decode cX2_sumOfPowers 16 = .ok (.if_icmp .gt 46, 3) := by decide +kernel
theorem dX2_sumOfPowers_19 : decode cX2_sumOfPowers 19 = .ok (.iconst 1, 1) := by decide +kernel
theorem dX2_sumOfPowers_20 : decode cX2_sumOfPowers 20 = .ok (.istore 5, 2) := by decide +kernel
theorem dX2_sumOfPowers_22 : decode cX2_sumOfPowers 22 = .ok (.iconst 0, 1) := by decide +kernel
theorem dX2_sumOfPowers_23 : decode cX2_sumOfPowers 23 = .ok (.istore 6, 2) := by decide +kernel
theorem dX2_sumOfPowers_25 : decode cX2_sumOfPowers 25 = .ok (.iload 6, 2) := by decide +kernel
theorem dX2_sumOfPowers_27 : decode cX2_sumOfPowers 27 = .ok (.iload_n 2, 1) := by decide +kernel
theorem dX2_sumOfPowers_28 : decode cX2_sumOfPowers 28 = .ok (.if_icmp .ge 16, 3) := by decide +kernel
theorem dX2_sumOfPowers_31 : decode cX2_sumOfPowers 31 = .ok (.iload 5, 2) := by decide +kernel
theorem dX2_sumOfPowers_33 : decode cX2_sumOfPowers 33 = .ok (.iload 4, 2) := by decide +kernel
theorem dX2_sumOfPowers_35 : decode cX2_sumOfPowers 35 = .ok (.imul, 1) := by decide +kernel
theorem dX2_sumOfPowers_36 : decode cX2_sumOfPowers 36 = .ok (.istore 5, 2) := by decide +kernel
theorem dX2_sumOfPowers_38 : decode cX2_sumOfPowers 38 = .ok (.iinc 6 1, 3) := by decide +kernel
theorem dX2_sumOfPowers_41 : decode cX2_sumOfPowers 41 = .ok (.goto (-16), 3) := by decide +kernel
theorem dX2_sumOfPowers_44 : decode cX2_sumOfPowers 44 = .ok (.aload_n 1, 1) := by decide +kernel
theorem dX2_sumOfPowers_45 : decode cX2_sumOfPowers 45 = .ok (.getfield 53, 3) := by decide +kernel
theorem dX2_sumOfPowers_48 : decode cX2_sumOfPowers 48 = .ok (.aload_n 3, 1) := by decide +kernel
theorem dX2_sumOfPowers_49 : decode cX2_sumOfPowers 49 = .ok (.iload 4, 2) := by decide +kernel
theorem dX2_sumOfPowers_51 : decode cX2_sumOfPowers 51 = .ok (.iload 5, 2) := by decide +kernel
theorem dX2_sumOfPowers_53 : decode cX2_sumOfPowers 53 = .ok (.invokevirtual 67, 3) := by decide +kernel
theorem dX2_sumOfPowers_56 : decode cX2_sumOfPowers 56 = .ok (.iinc 4 1, 3) := by decide +kernel
theorem dX2_sumOfPowers_59 : decode cX2_sumOfPowers 59 = .ok (.goto (-52), 3) := by decide +kernel
theorem dX2_sumOfPowers_62 : decode cX2_sumOfPowers 62 = .ok (.return_, 1) := by decide +kernel
theorem dX2_spreadOfTwo_0 : decode cX2_spreadOfTwo 0 = .ok (.aload_n 0, 1) := by decide +kernel
theorem dX2_spreadOfTwo_1 : decode cX2_spreadOfTwo 1 = .ok (.getfield 14, 3) := by decide +kernel
theorem dX2_spreadOfTwo_4 : decode cX2_spreadOfTwo 4 = .ok (.aload_n 1, 1) := by decide +kernel
theorem dX2_spreadOfTwo_5 : decode cX2_spreadOfTwo 5 = .ok (.getfield 43, 3) := by decide +kernel
theorem dX2_spreadOfTwo_8 : decode cX2_spreadOfTwo 8 = .ok (.getfield 71, 3) := by decide +kernel
theorem dX2_spreadOfTwo_11 : decode cX2_spreadOfTwo 11 = .ok (.aload_n 1, 1) := by decide +kernel
theorem dX2_spreadOfTwo_12 : decode cX2_spreadOfTwo 12 = .ok (.getfield 43, 3) := by decide +kernel
theorem dX2_spreadOfTwo_15 : decode cX2_spreadOfTwo 15 = .ok (.getfield 71, 3) := by decide +kernel
theorem dX2_spreadOfTwo_18 : decode cX2_spreadOfTwo 18 = .ok (.invokevirtual 99, 3) := by decide +kernel
theorem dX2_spreadOfTwo_21 : decode cX2_spreadOfTwo 21 = .ok (.aload_n 0, 1) := by decide +kernel
theorem dX2_spreadOfTwo_22 : decode cX2_spreadOfTwo 22 = .ok (.aload_n 1, 1) := by decide +kernel
theorem dX2_spreadOfTwo_23 : decode cX2_spreadOfTwo 23 = .ok (.iconst 2, 1) := by decide +kernel
theorem dX2_spreadOfTwo_24 : decode cX2_spreadOfTwo 24 = .ok (.aload_n 0, 1) := by decide +kernel
theorem dX2_spreadOfTwo_25 : decode cX2_spreadOfTwo 25 = .ok (.getfield 20, 3) := by decide +kernel
theorem dX2_spreadOfTwo_28 : decode cX2_spreadOfTwo 28 = .ok (.invokevirtual 112, 3) := by decide +kernel
theorem dX2_spreadOfTwo_31 : decode cX2_spreadOfTwo 31 = .ok (.aload_n 2, 1) := by decide +kernel
theorem dX2_spreadOfTwo_32 : decode cX2_spreadOfTwo 32 = .ok (.aload_n 0, 1) := by decide +kernel
theorem dX2_spreadOfTwo_33 : decode cX2_spreadOfTwo 33 = .ok (.getfield 14, 3) := by decide +kernel
theorem dX2_spreadOfTwo_36 : decode cX2_spreadOfTwo 36 = .ok (.aload_n 0, 1) := by decide +kernel
theorem dX2_spreadOfTwo_37 : decode cX2_spreadOfTwo 37 = .ok (.getfield 20, 3) := by decide +kernel
theorem dX2_spreadOfTwo_40 : decode cX2_spreadOfTwo 40 = .ok (.invokevirtual 99, 3) := by decide +kernel
theorem dX2_spreadOfTwo_43 : decode cX2_spreadOfTwo 43 = .ok (.aload_n 0, 1) := by decide +kernel
theorem dX2_spreadOfTwo_44 : decode cX2_spreadOfTwo 44 = .ok (.getfield 14, 3) := by decide +kernel
theorem dX2_spreadOfTwo_47 : decode cX2_spreadOfTwo 47 = .ok (.aload_n 1, 1) := by decide +kernel
theorem dX2_spreadOfTwo_48 : decode cX2_spreadOfTwo 48 = .ok (.getfield 43, 3) := by decide +kernel
theorem dX2_spreadOfTwo_51 : decode cX2_spreadOfTwo 51 = .ok (.getfield 35, 3) := by decide +kernel
theorem dX2_spreadOfTwo_54 : decode cX2_spreadOfTwo 54 = .ok (.aload_n 1, 1) := by decide +kernel
theorem dX2_spreadOfTwo_55 : decode cX2_spreadOfTwo 55 = .ok (.getfield 43, 3) := by decide +kernel
theorem dX2_spreadOfTwo_58 : decode cX2_spreadOfTwo 58 = .ok (.getfield 35, 3) := by decide +kernel
theorem dX2_spreadOfTwo_61 : decode cX2_spreadOfTwo 61 = .ok (.invokevirtual 99, 3) := by decide +kernel
theorem dX2_spreadOfTwo_64 : decode cX2_spreadOfTwo 64 = .ok (.aload_n 0, 1) := by decide +kernel
theorem dX2_spreadOfTwo_65 : decode cX2_spreadOfTwo 65 = .ok (.getfield 20, 3) := by decide +kernel
theorem dX2_spreadOfTwo_68 : decode cX2_spreadOfTwo 68 = .ok (.aload_n 0, 1) := by decide +kernel
theorem dX2_spreadOfTwo_69 : decode cX2_spreadOfTwo 69 = .ok (.getfield 14, 3) := by decide +kernel
theorem dX2_spreadOfTwo_72 : decode cX2_spreadOfTwo 72 = .ok (.aload_n 1, 1) := by decide +kernel
theorem dX2_spreadOfTwo_73 : decode cX2_spreadOfTwo 73 = .ok (.getfield 74, 3) := by decide +kernel
theorem dX2_spreadOfTwo_76 : decode cX2_spreadOfTwo 76 = .ok (.invokevirtual 99, 3) := by decide +kernel
theorem dX2_spreadOfTwo_79 : decode cX2_spreadOfTwo 79 = .ok (.aload_n 2, 1) := by decide +kernel
theorem dX2_spreadOfTwo_80 : decode cX2_spreadOfTwo 80 = .ok (.aload_n 0, 1) := by decide +kernel
theorem dX2_spreadOfTwo_81 : decode cX2_spreadOfTwo 81 = .ok (.getfield 20, 3) := by decide +kernel
theorem dX2_spreadOfTwo_84 : decode cX2_spreadOfTwo 84 = .ok (.invokevirtual 106, 3) := by decide +kernel
theorem dX2_spreadOfTwo_87 : decode cX2_spreadOfTwo 87 = .ok (.return_, 1) := by decide +kernel
theorem dX2_spreadOfFour_0 : decode cX2_spreadOfFour 0 = .ok (.aload_n 1, 1) := by decide +kernel
theorem dX2_spreadOfFour_1 : decode cX2_spreadOfFour 1 = .ok (.getfield 43, 3) := by decide +kernel
theorem dX2_spreadOfFour_4 : decode cX2_spreadOfFour 4 = .ok (.getfield 35, 3) := by decide +kernel
theorem dX2_spreadOfFour_7 : decode cX2_spreadOfFour 7 = .ok (.astore_n 3, 1) := by decide +kernel
theorem dX2_spreadOfFour_8 : decode cX2_spreadOfFour 8 = .ok (.aload_n 1, 1) := by decide +kernel
theorem dX2_spreadOfFour_9 : decode cX2_spreadOfFour 9 = .ok (.getfield 43, 3) := by decide +kernel
theorem dX2_spreadOfFour_12 : decode cX2_spreadOfFour 12 = .ok (.getfield 71, 3) := by decide +kernel
theorem dX2_spreadOfFour_15 : decode cX2_spreadOfFour 15 = .ok (.astore 4, 2) := by decide +kernel
theorem dX2_spreadOfFour_17 : decode cX2_spreadOfFour 17 = .ok (.aload_n 0, 1) := by decide +kernel
theorem dX2_spreadOfFour_18 : decode cX2_spreadOfFour 18 = .ok (.getfield 14, 3) := by decide +kernel
theorem dX2_spreadOfFour_21 : decode cX2_spreadOfFour 21 = .ok (.aload 4, 2) := by decide +kernel
theorem dX2_spreadOfFour_23 : decode cX2_spreadOfFour 23 = .ok (.aload 4, 2) := by decide +kernel
theorem dX2_spreadOfFour_25 : decode cX2_spreadOfFour 25 = .ok (.invokevirtual 99, 3) := by decide +kernel
theorem dX2_spreadOfFour_28 : decode cX2_spreadOfFour 28 = .ok (.aload_n 0, 1) := by decide +kernel
theorem dX2_spreadOfFour_29 : decode cX2_spreadOfFour 29 = .ok (.getfield 20, 3) := by decide +kernel
theorem dX2_spreadOfFour_32 : decode cX2_spreadOfFour 32 = .ok (.aload_n 0, 1) := by decide +kernel
theorem dX2_spreadOfFour_33 : decode cX2_spreadOfFour 33 = .ok (.getfield 14, 3) := by decide +kernel
theorem dX2_spreadOfFour_36 : decode cX2_spreadOfFour 36 = .ok (.aload_n 0, 1) := by decide +kernel
theorem dX2_spreadOfFour_37 : decode cX2_spreadOfFour 37 = .ok (.getfield 14, 3) := by decide +kernel
theorem dX2_spreadOfFour_40 : decode cX2_spreadOfFour 40 = .ok (.invokevirtual 99, 3) := by decide +kernel
theorem dX2_spreadOfFour_43 : decode cX2_spreadOfFour 43 = .ok (.aload_n 0, 1) := by decide +kernel
theorem dX2_spreadOfFour_44 : decode cX2_spreadOfFour 44 = .ok (.aload_n 1, 1) := by decide +kernel
theorem dX2_spreadOfFour_45 : decode cX2_spreadOfFour 45 = .ok (.iconst 4, 1) := by decide +kernel
theorem dX2_spreadOfFour_46 : decode cX2_spreadOfFour 46 = .ok (.aload_n 0, 1) := by decide +kernel
theorem dX2_spreadOfFour_47 : decode cX2_spreadOfFour 47 = .ok (.getfield 23, 3) := by decide +kernel
theorem dX2_spreadOfFour_50 : decode cX2_spreadOfFour 50 = .ok (.invokevirtual 112, 3) := by decide +kernel
theorem dX2_spreadOfFour_53 : decode cX2_spreadOfFour 53 = .ok (.aload_n 2, 1) := by decide +kernel
theorem dX2_spreadOfFour_54 : decode cX2_spreadOfFour 54 = .ok (.aload_n 0, 1) := by decide +kernel
theorem dX2_spreadOfFour_55 : decode cX2_spreadOfFour 55 = .ok (.getfield 20, 3) := by decide +kernel
theorem dX2_spreadOfFour_58 : decode cX2_spreadOfFour 58 = .ok (.aload_n 0, 1) := by decide +kernel
theorem dX2_spreadOfFour_59 : decode cX2_spreadOfFour 59 = .ok (.getfield 23, 3) := by decide +kernel
theorem dX2_spreadOfFour_62 : decode cX2_spreadOfFour 62 = .ok (.invokevirtual 99, 3) := by decide +kernel
theorem dX2_spreadOfFour_65 : decode cX2_spreadOfFour 65 = .ok (.aload_n 0, 1) := by decide +kernel
theorem dX2_spreadOfFour_66 : decode cX2_spreadOfFour 66 = .ok (.getfield 20, 3) := by decide +kernel
theorem dX2_spreadOfFour_69 : decode cX2_spreadOfFour 69 = .ok (.aload_n 3, 1) := by decide +kernel
theorem dX2_spreadOfFour_70 : decode cX2_spreadOfFour 70 = .ok (.aload_n 3, 1) := by decide +kernel
theorem dX2_spreadOfFour_71 : decode cX2_spreadOfFour 71 = .ok (.invokevirtual 99, 3) := by decide +kernel
theorem dX2_spreadOfFour_74 : decode cX2_spreadOfFour 74 = .ok (.aload_n 0, 1) := by decide +kernel
theorem dX2_spreadOfFour_75 : decode cX2_spreadOfFour 75 = .ok (.getfield 23, 3) := by decide +kernel
theorem dX2_spreadOfFour_78 : decode cX2_spreadOfFour 78 = .ok (.aload_n 0, 1) := by decide +kernel
theorem dX2_spreadOfFour_79 : decode cX2_spreadOfFour 79 = .ok (.getfield 14, 3) := by decide +kernel
theorem dX2_spreadOfFour_82 : decode cX2_spreadOfFour 82 = .ok (.aload_n 0, 1) := by decide +kernel
theorem dX2_spreadOfFour_83 : decode cX2_spreadOfFour 83 = .ok (.getfield 20, 3) := by decide +kernel
theorem dX2_spreadOfFour_86 : decode cX2_spreadOfFour 86 = .ok (.invokevirtual 99, 3) := by decide +kernel
theorem dX2_spreadOfFour_89 : decode cX2_spreadOfFour 89 = .ok (.aload_n 0, 1) := by decide +kernel
theorem dX2_spreadOfFour_90 : decode cX2_spreadOfFour 90 = .ok (.aload_n 1, 1) := by decide +kernel
theorem dX2_spreadOfFour_91 : decode cX2_spreadOfFour 91 = .ok (.iconst 2, 1) := by decide +kernel
theorem dX2_spreadOfFour_92 : decode cX2_spreadOfFour 92 = .ok (.aload_n 0, 1) := by decide +kernel
theorem dX2_spreadOfFour_93 : decode cX2_spreadOfFour 93 = .ok (.getfield 20, 3) := by decide +kernel
theorem dX2_spreadOfFour_96 : decode cX2_spreadOfFour 96 = .ok (.invokevirtual 112, 3) := by decide +kernel
theorem dX2_spreadOfFour_99 : decode cX2_spreadOfFour 99 = .ok (.aload_n 0, 1) := by decide +kernel
theorem dX2_spreadOfFour_100 : decode cX2_spreadOfFour 100 = .ok (.getfield 26, 3) := by decide +kernel
theorem dX2_spreadOfFour_103 : decode cX2_spreadOfFour 103 = .ok (.aload_n 0, 1) := by decide +kernel
theorem dX2_spreadOfFour_104 : decode cX2_spreadOfFour 104 = .ok (.getfield 23, 3) := by decide +kernel
theorem dX2_spreadOfFour_107 : decode cX2_spreadOfFour 107 = .ok (.aload_n 0, 1) := by decide +kernel
theorem dX2_spreadOfFour_108 : decode cX2_spreadOfFour 108 = .ok (.getfield 20, 3) := by decide +kernel
theorem dX2_spreadOfFour_111 : decode cX2_spreadOfFour 111 = .ok (.invokevirtual 99, 3) := by decide +kernel
theorem dX2_spreadOfFour_114 : decode cX2_spreadOfFour 114 = .ok (.aload_n 0, 1) := by decide +kernel
theorem dX2_spreadOfFour_115 : decode cX2_spreadOfFour 115 = .ok (.getfield 26, 3) := by decide +kernel
theorem dX2_spreadOfFour_118 : decode cX2_spreadOfFour 118 = .ok (.ldc2_w 116, 3) := by decide +kernel
theorem dX2_spreadOfFour_121 : decode cX2_spreadOfFour 121 = .ok (.invokevirtual 81, 3) := by decide +kernel
theorem dX2_spreadOfFour_124 : decode cX2_spreadOfFour 124 = .ok (.aload_n 2, 1) := by decide +kernel
theorem dX2_spreadOfFour_125 : decode cX2_spreadOfFour 125 = .ok (.aload_n 0, 1) := by decide +kernel
theorem dX2_spreadOfFour_126 : decode cX2_spreadOfFour 126 = .ok (.getfield 26, 3) := by decide +kernel
theorem dX2_spreadOfFour_129 : decode cX2_spreadOfFour 129 = .ok (.invokevirtual 109, 3) := by decide +kernel
theorem dX2_spreadOfFour_132 : decode cX2_spreadOfFour 132 = .ok (.aload_n 0, 1) := by decide +kernel
theorem dX2_spreadOfFour_133 : decode cX2_spreadOfFour 133 = .ok (.getfield 20, 3) := by decide +kernel
theorem dX2_spreadOfFour_136 : decode cX2_spreadOfFour 136 = .ok (.aload_n 3, 1) := by decide +kernel
theorem dX2_spreadOfFour_137 : decode cX2_spreadOfFour 137 = .ok (.aload 4, 2) := by decide +kernel
theorem dX2_spreadOfFour_139 : decode cX2_spreadOfFour 139 = .ok (.invokevirtual 99, 3) := by decide +kernel
theorem dX2_spreadOfFour_142 : decode cX2_spreadOfFour 142 = .ok (.aload_n 0, 1) := by decide +kernel
theorem dX2_spreadOfFour_143 : decode cX2_spreadOfFour 143 = .ok (.getfield 23, 3) := by decide +kernel
theorem dX2_spreadOfFour_146 : decode cX2_spreadOfFour 146 = .ok (.aload_n 0, 1) := by decide +kernel
theorem dX2_spreadOfFour_147 : decode cX2_spreadOfFour 147 = .ok (.getfield 14, 3) := by decide +kernel
theorem dX2_spreadOfFour_150 : decode cX2_spreadOfFour 150 = .ok (.aload_n 0, 1) := by decide +kernel
theorem dX2_spreadOfFour_151 : decode cX2_spreadOfFour 151 = .ok (.getfield 20, 3) := by decide +kernel
theorem dX2_spreadOfFour_154 : decode cX2_spreadOfFour 154 = .ok (.invokevirtual 99, 3) := by decide +kernel
theorem dX2_spreadOfFour_157 : decode cX2_spreadOfFour 157 = .ok (.aload_n 0, 1) := by decide +kernel
theorem dX2_spreadOfFour_158 : decode cX2_spreadOfFour 158 = .ok (.aload_n 1, 1) := by decide +kernel
theorem dX2_spreadOfFour_159 : decode cX2_spreadOfFour 159 = .ok (.iconst 3, 1) := by decide +kernel
theorem dX2_spreadOfFour_160 : decode cX2_spreadOfFour 160 = .ok (.aload_n 0, 1) := by decide +kernel
theorem dX2_spreadOfFour_161 : decode cX2_spreadOfFour 161 = .ok (.getfield 20, 3) := by decide +kernel
theorem dX2_spreadOfFour_164 : decode cX2_spreadOfFour 164 = .ok (.invokevirtual 112, 3) := by decide +kernel
theorem dX2_spreadOfFour_167 : decode cX2_spreadOfFour 167 = .ok (.aload_n 0, 1) := by decide +kernel
theorem dX2_spreadOfFour_168 : decode cX2_spreadOfFour 168 = .ok (.getfield 26, 3) := by decide +kernel
theorem dX2_spreadOfFour_171 : decode cX2_spreadOfFour 171 = .ok (.aload_n 0, 1) := by decide +kernel
theorem dX2_spreadOfFour_172 : decode cX2_spreadOfFour 172 = .ok (.getfield 23, 3) := by decide +kernel
theorem dX2_spreadOfFour_175 : decode cX2_spreadOfFour 175 = .ok (.aload_n 0, 1) := by decide +kernel
theorem dX2_spreadOfFour_176 : decode cX2_spreadOfFour 176 = .ok (.getfield 20, 3) := by decide +kernel
theorem dX2_spreadOfFour_179 : decode cX2_spreadOfFour 179 = .ok (.invokevirtual 99, 3) := by decide +kernel
theorem dX2_spreadOfFour_182 : decode cX2_spreadOfFour 182 = .ok (.aload_n 0, 1) := by decide +kernel
theorem dX2_spreadOfFour_183 : decode cX2_spreadOfFour 183 = .ok (.getfield 26, 3) := by decide +kernel
theorem dX2_spreadOfFour_186 : decode cX2_spreadOfFour 186 = .ok (.ldc2_w 118, 3) := by decide +kernel
theorem dX2_spreadOfFour_189 : decode cX2_spreadOfFour 189 = .ok (.invokevirtual 81, 3) := by decide +kernel
theorem dX2_spreadOfFour_192 : decode cX2_spreadOfFour 192 = .ok (.aload_n 2, 1) := by decide +kernel
theorem dX2_spreadOfFour_193 : decode cX2_spreadOfFour 193 = .ok (.aload_n 0, 1) := by decide +kernel
theorem dX2_spreadOfFour_194 : decode cX2_spreadOfFour 194 = .ok (.getfield 26, 3) := by decide +kernel
theorem dX2_spreadOfFour_197 : decode cX2_spreadOfFour 197 = .ok (.invokevirtual 106, 3) := by decide +kernel
theorem dX2_spreadOfFour_200 : decode cX2_spreadOfFour 200 = .ok (.aload_n 0, 1) := by decide +kernel
theorem dX2_spreadOfFour_201 : decode cX2_spreadOfFour 201 = .ok (.getfield 14, 3) := by decide +kernel
theorem dX2_spreadOfFour_204 : decode cX2_spreadOfFour 204 = .ok (.aload_n 3, 1) := by decide +kernel
theorem dX2_spreadOfFour_205 : decode cX2_spreadOfFour 205 = .ok (.aload_n 3, 1) := by decide +kernel
theorem dX2_spreadOfFour_206 : decode cX2_spreadOfFour 206 = .ok (.invokevirtual 99, 3) := by decide +kernel
theorem dX2_spreadOfFour_209 : decode cX2_spreadOfFour 209 = .ok (.aload_n 0, 1) := by decide +kernel
theorem dX2_spreadOfFour_210 : decode cX2_spreadOfFour 210 = .ok (.getfield 20, 3) := by decide +kernel
theorem dX2_spreadOfFour_213 : decode cX2_spreadOfFour 213 = .ok (.aload_n 0, 1) := by decide +kernel
theorem dX2_spreadOfFour_214 : decode cX2_spreadOfFour 214 = .ok (.getfield 14, 3) := by decide +kernel
theorem dX2_spreadOfFour_217 : decode cX2_spreadOfFour 217 = .ok (.aload_n 0, 1) := by decide +kernel
theorem dX2_spreadOfFour_218 : decode cX2_spreadOfFour 218 = .ok (.getfield 14, 3) := by decide +kernel
theorem dX2_spreadOfFour_221 : decode cX2_spreadOfFour 221 = .ok (.invokevirtual 99, 3) := by decide +kernel
theorem dX2_spreadOfFour_224 : decode cX2_spreadOfFour 224 = .ok (.aload_n 0, 1) := by decide +kernel
theorem dX2_spreadOfFour_225 : decode cX2_spreadOfFour 225 = .ok (.getfield 23, 3) := by decide +kernel
theorem dX2_spreadOfFour_228 : decode cX2_spreadOfFour 228 = .ok (.aload_n 0, 1) := by decide +kernel
theorem dX2_spreadOfFour_229 : decode cX2_spreadOfFour 229 = .ok (.getfield 20, 3) := by decide +kernel
theorem dX2_spreadOfFour_232 : decode cX2_spreadOfFour 232 = .ok (.aload_n 1, 1) := by decide +kernel
theorem dX2_spreadOfFour_233 : decode cX2_spreadOfFour 233 = .ok (.getfield 74, 3) := by decide +kernel
theorem dX2_spreadOfFour_236 : decode cX2_spreadOfFour 236 = .ok (.invokevirtual 99, 3) := by decide +kernel
theorem dX2_spreadOfFour_239 : decode cX2_spreadOfFour 239 = .ok (.aload_n 0, 1) := by decide +kernel
theorem dX2_spreadOfFour_240 : decode cX2_spreadOfFour 240 = .ok (.getfield 23, 3) := by decide +kernel
theorem dX2_spreadOfFour_243 : decode cX2_spreadOfFour 243 = .ok (.ldc2_w 120, 3) := by decide +kernel
theorem dX2_spreadOfFour_246 : decode cX2_spreadOfFour 246 = .ok (.invokevirtual 81, 3) := by decide +kernel
theorem dX2_spreadOfFour_249 : decode cX2_spreadOfFour 249 = .ok (.aload_n 2, 1) := by decide +kernel
theorem dX2_spreadOfFour_250 : decode cX2_spreadOfFour 250 = .ok (.aload_n 0, 1) := by decide +kernel
theorem dX2_spreadOfFour_251 : decode cX2_spreadOfFour 251 = .ok (.getfield 23, 3) := by decide +kernel
theorem dX2_spreadOfFour_254 : decode cX2_spreadOfFour 254 = .ok (.invokevirtual 106, 3) := by decide +kernel
theorem dX2_spreadOfFour_257 : decode cX2_spreadOfFour 257 = .ok (.return_, 1) := by decide +kernel
theorem dX2_boundByPowers_0 : decode cX2_boundByPowers 0 = .ok (.iconst 0, 1) := by decide +kernel
theorem dX2_boundByPowers_1 : decode cX2_boundByPowers 1 = .ok (.istore 4, 2) := by decide +kernel
theorem dX2_boundByPowers_3 : decode cX2_boundByPowers 3 = .ok (.iconst 5, 1) := by decide +kernel
theorem dX2_boundByPowers_4 : decode cX2_boundByPowers 4 = .ok (.istore 5, 2) := by decide +kernel
theorem dX2_boundByPowers_6 : decode cX2_boundByPowers 6 = .ok (.iload 5, 2) := by decide +kernel
theorem dX2_boundByPowers_8 : decode cX2_boundByPowers 8 = .ok (.bipush 12, 2) := by decide +kernel
theorem dX2_boundByPowers_10 : decode cX2_boundByPowers 10 = .ok (.if_icmp .gt 108, 3) := by decide +kernel
theorem dX2_boundByPowers_13 : decode cX2_boundByPowers 13 = .ok (.aload_n 0, 1) := by decide +kernel
theorem dX2_boundByPowers_14 : decode cX2_boundByPowers 14 = .ok (.aload_n 1, 1) := by decide +kernel
theorem dX2_boundByPowers_15 : decode cX2_boundByPowers 15 = .ok (.iload 5, 2) := by decide +kernel
theorem dX2_boundByPowers_17 : decode cX2_boundByPowers 17 = .ok (.aload_n 3, 1) := by decide +kernel
theorem dX2_boundByPowers_18 : decode cX2_boundByPowers 18 = .ok (.getfield 35, 3) := by decide +kernel
theorem dX2_boundByPowers_21 : decode cX2_boundByPowers 21 = .ok (.invokevirtual 122, 3) := by decide +kernel
theorem dX2_boundByPowers_24 : decode cX2_boundByPowers 24 = .ok (.aload_n 3, 1) := by decide +kernel
theorem dX2_boundByPowers_25 : decode cX2_boundByPowers 25 = .ok (.getfield 71, 3) := by decide +kernel
theorem dX2_boundByPowers_28 : decode cX2_boundByPowers 28 = .ok (.iload 5, 2) := by decide +kernel
theorem dX2_boundByPowers_30 : decode cX2_boundByPowers 30 = .ok (.iload_n 2, 1) := by decide +kernel
theorem dX2_boundByPowers_31 : decode cX2_boundByPowers 31 = .ok (.invokevirtual 125, 3) := by decide +kernel
theorem dX2_boundByPowers_34 : decode cX2_boundByPowers 34 = .ok (.iload 4, 2) := by decide +kernel
theorem dX2_boundByPowers_36 : decode cX2_boundByPowers 36 = .ok (.ifCond .le 50, 3) := by decide +kernel
theorem dX2_boundByPowers_39 : decode cX2_boundByPowers 39 = .ok (.aload_n 0, 1) := by decide +kernel
theorem dX2_boundByPowers_40 : decode cX2_boundByPowers 40 = .ok (.getfield 23, 3) := by decide +kernel
theorem dX2_boundByPowers_43 : decode cX2_boundByPowers 43 = .ok (.aload_n 3, 1) := by decide +kernel
theorem dX2_boundByPowers_44 : decode cX2_boundByPowers 44 = .ok (.getfield 35, 3) := by decide +kernel
theorem dX2_boundByPowers_47 : decode cX2_boundByPowers 47 = .ok (.aload_n 0, 1) := by decide +kernel
theorem dX2_boundByPowers_48 : decode cX2_boundByPowers 48 = .ok (.getfield 32, 3) := by decide +kernel
theorem dX2_boundByPowers_51 : decode cX2_boundByPowers 51 = .ok (.invokevirtual 99, 3) := by decide +kernel
theorem dX2_boundByPowers_54 : decode cX2_boundByPowers 54 = .ok (.aload_n 0, 1) := by decide +kernel
theorem dX2_boundByPowers_55 : decode cX2_boundByPowers 55 = .ok (.getfield 26, 3) := by decide +kernel
theorem dX2_boundByPowers_58 : decode cX2_boundByPowers 58 = .ok (.aload_n 0, 1) := by decide +kernel
theorem dX2_boundByPowers_59 : decode cX2_boundByPowers 59 = .ok (.getfield 29, 3) := by decide +kernel
theorem dX2_boundByPowers_62 : decode cX2_boundByPowers 62 = .ok (.aload_n 3, 1) := by decide +kernel
theorem dX2_boundByPowers_63 : decode cX2_boundByPowers 63 = .ok (.getfield 71, 3) := by decide +kernel
theorem dX2_boundByPowers_66 : decode cX2_boundByPowers 66 = .ok (.invokevirtual 99, 3) := by decide +kernel
theorem dX2_boundByPowers_69 : decode cX2_boundByPowers 69 = .ok (.aload_n 0, 1) := by decide +kernel
theorem dX2_boundByPowers_70 : decode cX2_boundByPowers 70 = .ok (.getfield 23, 3) := by decide +kernel
theorem dX2_boundByPowers_73 : decode cX2_boundByPowers 73 = .ok (.aload_n 0, 1) := by decide +kernel
theorem dX2_boundByPowers_74 : decode cX2_boundByPowers 74 = .ok (.getfield 26, 3) := by decide +kernel
theorem dX2_boundByPowers_77 : decode cX2_boundByPowers 77 = .ok (.invokevirtual 85, 3) := by decide +kernel
theorem dX2_boundByPowers_80 : decode cX2_boundByPowers 80 = .ok (.ifCond .lt 6, 3) := by decide +kernel
theorem dX2_boundByPowers_83 : decode cX2_boundByPowers 83 = .ok (.goto 35, 3) := by decide +kernel
theorem dX2_boundByPowers_86 : decode cX2_boundByPowers 86 = .ok (.iload 5, 2) := by decide +kernel
theorem dX2_boundByPowers_88 : decode cX2_boundByPowers 88 = .ok (.istore 4, 2) := by decide +kernel
theorem dX2_boundByPowers_90 : decode cX2_boundByPowers 90 = .ok (.aload_n 0, 1) := by decide +kernel
theorem dX2_boundByPowers_91 : decode cX2_boundByPowers 91 = .ok (.getfield 29, 3) := by decide +kernel
theorem dX2_boundByPowers_94 : decode cX2_boundByPowers 94 = .ok (.aload_n 3, 1) := by decide +kernel
theorem dX2_boundByPowers_95 : decode cX2_boundByPowers 95 = .ok (.getfield 35, 3) := by decide +kernel
theorem dX2_boundByPowers_98 : decode cX2_boundByPowers 98 = .ok (.invokevirtual 77, 3) := by decide +kernel
theorem dX2_boundByPowers_101 : decode cX2_boundByPowers 101 = .ok (.aload_n 0, 1) := by decide +kernel
theorem dX2_boundByPowers_102 : decode cX2_boundByPowers 102 = .ok (.getfield 32, 3) := by decide +kernel
theorem dX2_boundByPowers_105 : decode cX2_boundByPowers 105 = .ok (.aload_n 3, 1) := by decide +kernel
theorem dX2_boundByPowers_106 : decode cX2_boundByPowers 106 = .ok (.getfield 71, 3) := by decide +kernel
theorem dX2_boundByPowers_109 : decode cX2_boundByPowers 109 = .ok (.invokevirtual 77, 3) := by decide +kernel
theorem dX2_boundByPowers_112 : decode cX2_boundByPowers 112 = .ok (.iinc 5 1, 3) := by decide +kernel
theorem dX2_boundByPowers_115 : decode cX2_boundByPowers 115 = .ok (.goto (-109), 3) := by decide +kernel
theorem dX2_boundByPowers_118 : decode cX2_boundByPowers 118 = .ok (.aload_n 1, 1) := by decide +kernel
theorem dX2_boundByPowers_119 : decode cX2_boundByPowers 119 = .ok (.getfield 53, 3) := by decide +kernel
theorem dX2_boundByPowers_122 : decode cX2_boundByPowers 122 = .ok (.getfield 57, 3) := by decide +kernel
theorem dX2_boundByPowers_125 : decode cX2_boundByPowers 125 = .ok (.istore 5, 2) := by decide +kernel
theorem dX2_boundByPowers_127 : decode cX2_boundByPowers 127 = .ok (.aload_n 0, 1) := by decide +kernel
theorem dX2_boundByPowers_128 : decode cX2_boundByPowers 128 = .ok (.getfield 23, 3) := by decide +kernel
theorem dX2_boundByPowers_131 : decode cX2_boundByPowers 131 = .ok (.aload_n 0, 1) := by decide +kernel
theorem dX2_boundByPowers_132 : decode cX2_boundByPowers 132 = .ok (.getfield 32, 3) := by decide +kernel
theorem dX2_boundByPowers_135 : decode cX2_boundByPowers 135 = .ok (.aload_n 1, 1) := by decide +kernel
theorem dX2_boundByPowers_136 : decode cX2_boundByPowers 136 = .ok (.getfield 74, 3) := by decide +kernel
theorem dX2_boundByPowers_139 : decode cX2_boundByPowers 139 = .ok (.invokevirtual 99, 3) := by decide +kernel
theorem dX2_boundByPowers_142 : decode cX2_boundByPowers 142 = .ok (.aload_n 3, 1) := by decide +kernel
theorem dX2_boundByPowers_143 : decode cX2_boundByPowers 143 = .ok (.getfield 35, 3) := by decide +kernel
theorem dX2_boundByPowers_146 : decode cX2_boundByPowers 146 = .ok (.aload_n 0, 1) := by decide +kernel
theorem dX2_boundByPowers_147 : decode cX2_boundByPowers 147 = .ok (.getfield 29, 3) := by decide +kernel
theorem dX2_boundByPowers_150 : decode cX2_boundByPowers 150 = .ok (.iconst 2, 1) := by decide +kernel
theorem dX2_boundByPowers_151 : decode cX2_boundByPowers 151 = .ok (.iload_n 2, 1) := by decide +kernel
theorem dX2_boundByPowers_152 : decode cX2_boundByPowers 152 = .ok (.iload 5, 2) := by decide +kernel
theorem dX2_boundByPowers_154 : decode cX2_boundByPowers 154 = .ok (.isub, 1) := by decide +kernel
theorem dX2_boundByPowers_155 : decode cX2_boundByPowers 155 = .ok (.iconst 0, 1) := by decide +kernel
theorem dX2_boundByPowers_156 : decode cX2_boundByPowers 156 = .ok (.invokestatic 129, 3) := by decide +kernel
theorem dX2_boundByPowers_159 : decode cX2_boundByPowers 159 = .ok (.imul, 1) := by decide +kernel
theorem dX2_boundByPowers_160 : decode cX2_boundByPowers 160 = .ok (.invokevirtual 49, 3) := by decide +kernel
theorem dX2_boundByPowers_163 : decode cX2_boundByPowers 163 = .ok (.aload_n 3, 1) := by decide +kernel
theorem dX2_boundByPowers_164 : decode cX2_boundByPowers 164 = .ok (.getfield 71, 3) := by decide +kernel
theorem dX2_boundByPowers_167 : decode cX2_boundByPowers 167 = .ok (.aload_n 0, 1) := by decide +kernel
theorem dX2_boundByPowers_168 : decode cX2_boundByPowers 168 = .ok (.getfield 23, 3) := by decide +kernel
theorem dX2_boundByPowers_171 : decode cX2_boundByPowers 171 = .ok (.iconst 2, 1) := by decide +kernel
theorem dX2_boundByPowers_172 : decode cX2_boundByPowers 172 = .ok (.iload 5, 2) := by decide +kernel
theorem dX2_boundByPowers_174 : decode cX2_boundByPowers 174 = .ok (.iload_n 2, 1) := by decide +kernel
theorem dX2_boundByPowers_175 : decode cX2_boundByPowers 175 = .ok (.isub, 1) := by decide +kernel
theorem dX2_boundByPowers_176 : decode cX2_boundByPowers 176 = .ok (.iconst 0, 1) := by decide +kernel
theorem dX2_boundByPowers_177 : decode cX2_boundByPowers 177 = .ok (.invokestatic 129, 3) := by decide +kernel
theorem dX2_boundByPowers_180 : decode cX2_boundByPowers 180 = .ok (.imul, 1) := by decide +kernel
theorem dX2_boundByPowers_181 : decode cX2_boundByPowers 181 = .ok (.invokevirtual 49, 3) := by decide +kernel
theorem dX2_boundByPowers_184 : decode cX2_boundByPowers 184 = .ok (.iload 4, 2) := by decide +kernel
theorem dX2_boundByPowers_186 : decode cX2_boundByPowers 186 = .ok (.ireturn, 1) := by decide +kernel
theorem dX2_weigh_0 : decode cX2_weigh 0 = .ok (.aload_n 3, 1) := by decide +kernel
theorem dX2_weigh_1 : decode cX2_weigh 1 = .ok (.invokevirtual 40, 3) := by decide +kernel
theorem dX2_weigh_4 : decode cX2_weigh 4 = .ok (.aload_n 1, 1) := by decide +kernel
theorem dX2_weigh_5 : decode cX2_weigh 5 = .ok (.getfield 53, 3) := by decide +kernel
theorem dX2_weigh_8 : decode cX2_weigh 8 = .ok (.getfield 57, 3) := by decide +kernel
theorem dX2_weigh_11 : decode cX2_weigh 11 = .ok (.istore 4, 2) := by decide +kernel
theorem dX2_weigh_13 : decode cX2_weigh 13 = .ok (.iload 4, 2) := by decide +kernel
theorem dX2_weigh_15 : decode cX2_weigh 15 = .ok (.ifCond .lt 37, 3) := by decide +kernel
theorem dX2_weigh_18 : decode cX2_weigh 18 = .ok (.aload_n 3, 1) := by decide +kernel
theorem dX2_weigh_19 : decode cX2_weigh 19 = .ok (.iload_n 2, 1) := by decide +kernel
theorem dX2_weigh_20 : decode cX2_weigh 20 = .ok (.i2l, 1) := by decide +kernel
theorem dX2_weigh_21 : decode cX2_weigh 21 = .ok (.invokevirtual 81, 3) := by decide +kernel
theorem dX2_weigh_24 : decode cX2_weigh 24 = .ok (.aload_n 1, 1) := by decide +kernel
theorem dX2_weigh_25 : decode cX2_weigh 25 = .ok (.getfield 53, 3) := by decide +kernel
theorem dX2_weigh_28 : decode cX2_weigh 28 = .ok (.aload_n 3, 1) := by decide +kernel
theorem dX2_weigh_29 : decode cX2_weigh 29 = .ok (.iload 4, 2) := by decide +kernel
theorem dX2_weigh_31 : decode cX2_weigh 31 = .ok (.iconst 2, 1) := by decide +kernel
theorem dX2_weigh_32 : decode cX2_weigh 32 = .ok (.aload_n 1, 1) := by decide +kernel
theorem dX2_weigh_33 : decode cX2_weigh 33 = .ok (.getfield 53, 3) := by decide +kernel
theorem dX2_weigh_36 : decode cX2_weigh 36 = .ok (.getfield 57, 3) := by decide +kernel
theorem dX2_weigh_39 : decode cX2_weigh 39 = .ok (.iload 4, 2) := by decide +kernel
theorem dX2_weigh_41 : decode cX2_weigh 41 = .ok (.isub, 1) := by decide +kernel
theorem dX2_weigh_42 : decode cX2_weigh 42 = .ok (.imul, 1) := by decide +kernel
theorem dX2_weigh_43 : decode cX2_weigh 43 = .ok (.invokevirtual 135, 3) := by decide +kernel
theorem dX2_weigh_46 : decode cX2_weigh 46 = .ok (.iinc 4 (-1), 3) := by decide +kernel
theorem dX2_weigh_49 : decode cX2_weigh 49 = .ok (.goto (-36), 3) := by decide +kernel
theorem dX2_weigh_52 : decode cX2_weigh 52 = .ok (.return_, 1) := by decide +kernel
theorem dX7_init_0 : decode cX7_init 0 = .ok (.aload_n 0, 1) := by decide +kernel
theorem dX7_init_1 : decode cX7_init 1 = .ok (.invokespecial 1, 3) := by decide +kernel
theorem dX7_init_4 : decode cX7_init 4 = .ok (.aload_n 0, 1) := by decide +kernel
theorem dX7_init_5 : decode cX7_init 5 = .ok (.bipush 8, 2) := by decide +kernel
theorem dX7_init_7 : decode cX7_init 7 = .ok (.newarray .int, 2) := by decide +kernel
theorem dX7_init_9 : decode cX7_init 9 = .ok (.putfield 9, 3) := by decide +kernel
theorem dX7_init_12 : decode cX7_init 12 = .ok (.aload_n 0, 1) := by decide +kernel
theorem dX7_init_13 : decode cX7_init 13 = .ok (.bipush 16, 2) := by decide +kernel
theorem dX7_init_15 : decode cX7_init 15 = .ok (.anewarray 13, 3) := by decide +kernel
theorem dX7_init_18 : decode cX7_init 18 = .ok (.putfield 15, 3) := by decide +kernel
theorem dX7_init_21 : decode cX7_init 21 = .ok (.aload_n 0, 1) := by decide +kernel
theorem dX7_init_22 : decode cX7_init 22 = .ok (.bipush 16, 2) := by decide +kernel
theorem dX7_init_24 : decode cX7_init 24 = .ok (.anewarray 19, 3) := by decide +kernel
theorem dX7_init_27 : decode cX7_init 27 = .ok (.putfield 21, 3) := by decide +kernel
theorem dX7_init_30 : decode cX7_init 30 = .ok (.aload_n 0, 1) := by decide +kernel
theorem dX7_init_31 : decode cX7_init 31 = .ok (.iconst 2, 1) := by decide +kernel
theorem dX7_init_32 : decode cX7_init 32 = .ok (.newarray .int, 2) := by decide +kernel
theorem dX7_init_34 : decode cX7_init 34 = .ok (.putfield 25, 3) := by decide +kernel
theorem dX7_init_37 : decode cX7_init 37 = .ok (.aload_n 0, 1) := by decide +kernel
theorem dX7_init_38 : decode cX7_init 38 = .ok (.new 19, 3) := by decide +kernel
theorem dX7_init_41 : decode cX7_init 41 = .ok (.dup, 1) := by decide +kernel
theorem dX7_init_42 : decode cX7_init 42 = .ok (.bipush 72, 2) := by decide +kernel
theorem dX7_init_44 : decode cX7_init 44 = .ok (.invokespecial 28, 3) := by decide +kernel
theorem dX7_init_47 : decode cX7_init 47 = .ok (.putfield 31, 3) := by decide +kernel
theorem dX7_init_50 : decode cX7_init 50 = .ok (.aload_n 0, 1) := by decide +kernel
theorem dX7_init_51 : decode cX7_init 51 = .ok (.new 35, 3) := by decide +kernel
theorem dX7_init_54 : decode cX7_init 54 = .ok (.dup, 1) := by decide +kernel
theorem dX7_init_55 : decode cX7_init 55 = .ok (.bipush 72, 2) := by decide +kernel
theorem dX7_init_57 : decode cX7_init 57 = .ok (.invokespecial 37, 3) := by decide +kernel
theorem dX7_init_60 : decode cX7_init 60 = .ok (.putfield 38, 3) := by decide +kernel
theorem dX7_init_63 : decode cX7_init 63 = .ok (.aload_n 0, 1) := by decide +kernel
theorem dX7_init_64 : decode cX7_init 64 = .ok (.new 42, 3) := by decide +kernel
theorem dX7_init_67 : decode cX7_init 67 = .ok (.dup, 1) := by decide +kernel
theorem dX7_init_68 : decode cX7_init 68 = .ok (.invokespecial 44, 3) := by decide +kernel
theorem dX7_init_71 : decode cX7_init 71 = .ok (.putfield 45, 3) := by decide +kernel
theorem dX7_init_74 : decode cX7_init 74 = .ok (.aload_n 0, 1) := by decide +kernel
theorem dX7_init_75 : decode cX7_init 75 = .ok (.new 49, 3) := by decide +kernel
theorem dX7_init_78 : decode cX7_init 78 = .ok (.dup, 1) := by decide +kernel
theorem dX7_init_79 : decode cX7_init 79 = .ok (.invokespecial 51, 3) := by decide +kernel
theorem dX7_init_82 : decode cX7_init 82 = .ok (.putfield 52, 3) := by decide +kernel
theorem dX7_init_85 : decode cX7_init 85 = .ok (.aload_n 0, 1) := by decide +kernel
theorem dX7_init_86 : decode cX7_init 86 = .ok (.new 56, 3) := by decide +kernel
theorem dX7_init_89 : decode cX7_init 89 = .ok (.dup, 1) := by decide +kernel
theorem dX7_init_90 : decode cX7_init 90 = .ok (.invokespecial 58, 3) := by decide +kernel
theorem dX7_init_93 : decode cX7_init 93 = .ok (.putfield 59, 3) := by decide +kernel
theorem dX7_init_96 : decode cX7_init 96 = .ok (.aload_n 0, 1) := by decide +kernel
theorem dX7_init_97 : decode cX7_init 97 = .ok (.iconst 0, 1) := by decide +kernel
theorem dX7_init_98 : decode cX7_init 98 = .ok (.putfield 63, 3) := by decide +kernel
theorem dX7_init_101 : decode cX7_init 101 = .ok (.aload_n 0, 1) := by decide +kernel
theorem dX7_init_102 : decode cX7_init 102 = .ok (.iconst 0, 1) := by decide +kernel
theorem dX7_init_103 : decode cX7_init 103 = .ok (.putfield 67, 3) := by decide +kernel
theorem dX7_init_106 : decode cX7_init 106 = .ok (.aload_n 0, 1) := by decide +kernel
theorem dX7_init_107 : decode cX7_init 107 = .ok (.iconst 0, 1) := by decide +kernel
theorem dX7_init_108 : decode cX7_init 108 = .ok (.putfield 70, 3) := by decide +kernel
theorem dX7_init_111 : decode cX7_init 111 = .ok (.aload_n 0, 1) := by decide +kernel
theorem dX7_init_112 : decode cX7_init 112 = .ok (.iconst 1, 1) := by decide +kernel
theorem dX7_init_113 : decode cX7_init 113 = .ok (.putfield 73, 3) := by decide +kernel
theorem dX7_init_116 : decode cX7_init 116 = .ok (.aload_n 0, 1) := by decide +kernel
theorem dX7_init_117 : decode cX7_init 117 = .ok (.iconst 2, 1) := by decide +kernel
theorem dX7_init_118 : decode cX7_init 118 = .ok (.putfield 76, 3) := by decide +kernel
theorem dX7_init_121 : decode cX7_init 121 = .ok (.aload_n 0, 1) := by decide +kernel
theorem dX7_init_122 : decode cX7_init 122 = .ok (.iconst 0, 1) := by decide +kernel
theorem dX7_init_123 : decode cX7_init 123 = .ok (.putfield 79, 3) := by decide +kernel
theorem dX7_init_126 : decode cX7_init 126 = .ok (.aload_n 0, 1) := by decide +kernel
theorem dX7_init_127 : decode cX7_init 127 = .ok (.iconst 1, 1) := by decide +kernel
theorem dX7_init_128 : decode cX7_init 128 = .ok (.putfield 82, 3) := by decide +kernel
theorem dX7_init_131 : decode cX7_init 131 = .ok (.aload_n 0, 1) := by decide +kernel
theorem dX7_init_132 : decode cX7_init 132 = .ok (.iconst 1, 1) := by decide +kernel
theorem dX7_init_133 : decode cX7_init 133 = .ok (.putfield 85, 3) := by decide +kernel
theorem dX7_init_136 : decode cX7_init 136 = .ok (.iconst 0, 1) := by decide +kernel
theorem dX7_init_137 : decode cX7_init 137 = .ok (.istore_n 1, 1) := by decide +kernel
theorem dX7_init_138 : decode cX7_init 138 = .ok (.iload_n 1, 1) := by decide +kernel
theorem dX7_init_139 : decode cX7_init 139 = .ok (.aload_n 0, 1) := by decide +kernel
theorem dX7_init_140 : decode cX7_init 140 = .ok (.getfield 21, 3) := by decide +kernel
theorem dX7_init_143 : decode cX7_init 143 = .ok (.arraylength, 1) := by decide +kernel
theorem dX7_init_144 : decode cX7_init 144 = .ok (.if_icmp .ge 24, 3) := by decide +kernel
theorem dX7_init_147 : decode cX7_init 147 = .ok (.aload_n 0, 1) := by decide +kernel
theorem dX7_init_148 : decode cX7_init 148 = .ok (.getfield 21, 3) := by decide +kernel
theorem dX7_init_151 : decode cX7_init 151 = .ok (.iload_n 1, 1) := by decide +kernel
theorem dX7_init_152 : decode cX7_init 152 = .ok (.new 19, 3) := by decide +kernel
theorem dX7_init_155 : decode cX7_init 155 = .ok (.dup, 1) := by decide +kernel
theorem dX7_init_156 : decode cX7_init 156 = .ok (.bipush 32, 2) := by decide +kernel
theorem dX7_init_158 : decode cX7_init 158 = .ok (.invokespecial 28, 3) := by decide +kernel
theorem dX7_init_161 : decode cX7_init 161 = .ok (.aastore, 1) := by decide +kernel
theorem dX7_init_162 : decode cX7_init 162 = .ok (.iinc 1 1, 3) := by decide +kernel
theorem dX7_init_165 : decode cX7_init 165 = .ok (.goto (-27), 3) := by decide +kernel
theorem dX7_init_168 : decode cX7_init 168 = .ok (.return_, 1) := by decide +kernel
theorem dX7_weight_0 : decode cX7_weight 0 = .ok (.iload_n 1, 1) := by decide +kernel
theorem dX7_weight_1 : decode cX7_weight 1 = .ok (.iconst 0, 1) := by decide +kernel
theorem dX7_weight_2 : decode cX7_weight 2 = .ok (.sipush 1000, 3) := by decide +kernel
theorem dX7_weight_5 : decode cX7_weight 5 = .ok (.invokestatic 88, 3) := by decide +kernel
theorem dX7_weight_8 : decode cX7_weight 8 = .ok (.ifCond .eq 5, 3) := by decide +kernel
theorem dX7_weight_11 : decode cX7_weight 11 = .ok (.iconst (-1), 1) := by decide +kernel
theorem dX7_weight_12 : decode cX7_weight 12 = .ok (.ireturn, 1) := by decide +kernel
theorem dX7_weight_13 : decode cX7_weight 13 = .ok (.aload_n 0, 1) := by decide +kernel
theorem dX7_weight_14 : decode cX7_weight 14 = .ok (.getfield 63, 3) := by decide +kernel
theorem dX7_weight_17 : decode cX7_weight 17 = .ok (.ifCond .lt 15, 3) := by decide +kernel
theorem dX7_weight_20 : decode cX7_weight 20 = .ok (.aload_n 0, 1) := by decide +kernel
theorem dX7_weight_21 : decode cX7_weight 21 = .ok (.getfield 63, 3) := by decide +kernel
theorem dX7_weight_24 : decode cX7_weight 24 = .ok (.aload_n 0, 1) := by decide +kernel
theorem dX7_weight_25 : decode cX7_weight 25 = .ok (.getfield 9, 3) := by decide +kernel
theorem dX7_weight_28 : decode cX7_weight 28 = .ok (.arraylength, 1) := by decide +kernel
theorem dX7_weight_29 : decode cX7_weight 29 = .ok (.if_icmp .lt 6, 3) := by decide +kernel
theorem dX7_weight_32 : decode cX7_weight 32 = .ok (.bipush (-3), 2) := by decide +kernel
theorem dX7_weight_34 : decode cX7_weight 34 = .ok (.ireturn, 1) := by decide +kernel
theorem dX7_weight_35 : decode cX7_weight 35 = .ok (.aload_n 0, 1) := by decide +kernel
theorem dX7_weight_36 : decode cX7_weight 36 = .ok (.getfield 9, 3) := by decide +kernel
theorem dX7_weight_39 : decode cX7_weight 39 = .ok (.aload_n 0, 1) := by decide +kernel
theorem dX7_weight_40 : decode cX7_weight 40 = .ok (.getfield 63, 3) := by decide +kernel
theorem dX7_weight_43 : decode cX7_weight 43 = .ok (.iload_n 1, 1) := by decide +kernel
theorem dX7_weight_44 : decode cX7_weight 44 = .ok (.iastore, 1) := by decide +kernel
theorem dX7_weight_45 : decode cX7_weight 45 = .ok (.aload_n 0, 1) := by decide +kernel
theorem dX7_weight_46 : decode cX7_weight 46 = .ok (.dup, 1) := by decide +kernel
theorem dX7_weight_47 : decode cX7_weight 47 = .ok (.getfield 63, 3) := by decide +kernel
theorem dX7_weight_50 : decode cX7_weight 50 = .ok (.iconst 1, 1) := by decide +kernel
theorem dX7_weight_51 : decode cX7_weight 51 = .ok (.iadd, 1) := by decide +kernel
theorem dX7_weight_52 : decode cX7_weight 52 = .ok (.putfield 63, 3) := by decide +kernel
theorem dX7_weight_55 : decode cX7_weight 55 = .ok (.aload_n 0, 1) := by decide +kernel
theorem dX7_weight_56 : decode cX7_weight 56 = .ok (.getfield 63, 3) := by decide +kernel
theorem dX7_weight_59 : decode cX7_weight 59 = .ok (.ireturn, 1) := by decide +kernel
theorem dX7_wipe_0 : decode cX7_wipe 0 = .ok (.aload_n 0, 1) := by decide +kernel
theorem dX7_wipe_1 : decode cX7_wipe 1 = .ok (.getfield 63, 3) := by decide +kernel
theorem dX7_wipe_4 : decode cX7_wipe 4 = .ok (.istore_n 1, 1) := by decide +kernel
theorem dX7_wipe_5 : decode cX7_wipe 5 = .ok (.aload_n 0, 1) := by decide +kernel
theorem dX7_wipe_6 : decode cX7_wipe 6 = .ok (.iconst 0, 1) := by decide +kernel
theorem dX7_wipe_7 : decode cX7_wipe 7 = .ok (.putfield 63, 3) := by decide +kernel
theorem dX7_wipe_10 : decode cX7_wipe 10 = .ok (.iload_n 1, 1) := by decide +kernel
theorem dX7_wipe_11 : decode cX7_wipe 11 = .ok (.ireturn, 1) := by decide +kernel
theorem dX7_coins_0 : decode cX7_coins 0 = .ok (.iload_n 1, 1) := by decide +kernel
theorem dX7_coins_1 : decode cX7_coins 1 = .ok (.iconst 0, 1) := by decide +kernel
theorem dX7_coins_2 : decode cX7_coins 2 = .ok (.bipush 40, 2) := by decide +kernel
theorem dX7_coins_4 : decode cX7_coins 4 = .ok (.invokestatic 88, 3) := by decide +kernel
theorem dX7_coins_7 : decode cX7_coins 7 = .ok (.ifCond .ne 11, 3) := by decide +kernel
theorem dX7_coins_10 : decode cX7_coins 10 = .ok (.iload_n 2, 1) := by decide +kernel
theorem dX7_coins_11 : decode cX7_coins 11 = .ok (.iload_n 3, 1) := by decide +kernel
theorem dX7_coins_12 : decode cX7_coins 12 = .ok (.invokestatic 92, 3) := by decide +kernel
theorem dX7_coins_15 : decode cX7_coins 15 = .ok (.ifCond .eq 5, 3) := by decide +kernel
theorem dX7_coins_18 : decode cX7_coins 18 = .ok (.iconst (-1), 1) := by decide +kernel
theorem dX7_coins_19 : decode cX7_coins 19 = .ok (.ireturn, 1) := by decide +kernel
theorem dX7_coins_20 : decode cX7_coins 20 = .ok (.aload_n 0, 1) := by decide +kernel
theorem dX7_coins_21 : decode cX7_coins 21 = .ok (.invokevirtual 96, 3) := by decide +kernel
theorem dX7_coins_24 : decode cX7_coins 24 = .ok (.ifCond .eq 6, 3) := by decide +kernel
theorem dX7_coins_27 : decode cX7_coins 27 = .ok (.bipush (-3), 2) := by decide +kernel
theorem dX7_coins_29 : decode cX7_coins 29 = .ok (.ireturn, 1) := by decide +kernel
theorem dX7_coins_30 : decode cX7_coins 30 = .ok (.aload_n 0, 1) := by decide +kernel
theorem dX7_coins_31 : decode cX7_coins 31 = .ok (.getfield 25, 3) := by decide +kernel
theorem dX7_coins_34 : decode cX7_coins 34 = .ok (.iconst 0, 1) := by decide +kernel
theorem dX7_coins_35 : decode cX7_coins 35 = .ok (.iload_n 3, 1) := by decide +kernel
theorem dX7_coins_36 : decode cX7_coins 36 = .ok (.iload_n 2, 1) := by decide +kernel
theorem dX7_coins_37 : decode cX7_coins 37 = .ok (.isub, 1) := by decide +kernel
theorem dX7_coins_38 : decode cX7_coins 38 = .ok (.iastore, 1) := by decide +kernel
theorem dX7_coins_39 : decode cX7_coins 39 = .ok (.aload_n 0, 1) := by decide +kernel
theorem dX7_coins_40 : decode cX7_coins 40 = .ok (.getfield 25, 3) := by decide +kernel
theorem dX7_coins_43 : decode cX7_coins 43 = .ok (.iconst 1, 1) := by decide +kernel
theorem dX7_coins_44 : decode cX7_coins 44 = .ok (.iload_n 2, 1) := by decide +kernel
theorem dX7_coins_45 : decode cX7_coins 45 = .ok (.iastore, 1) := by decide +kernel
theorem dX7_coins_46 : decode cX7_coins 46 = .ok (.aload_n 0, 1) := by decide +kernel
theorem dX7_coins_47 : decode cX7_coins 47 = .ok (.iconst 0, 1) := by decide +kernel
theorem dX7_coins_48 : decode cX7_coins 48 = .ok (.aload_n 0, 1) := by decide +kernel
theorem dX7_coins_49 : decode cX7_coins 49 = .ok (.iload_n 1, 1) := by decide +kernel
theorem dX7_coins_50 : decode cX7_coins 50 = .ok (.aload_n 0, 1) := by decide +kernel
theorem dX7_coins_51 : decode cX7_coins 51 = .ok (.getfield 25, 3) := by decide +kernel
theorem dX7_coins_54 : decode cX7_coins 54 = .ok (.iconst 2, 1) := by decide +kernel
theorem dX7_coins_55 : decode cX7_coins 55 = .ok (.invokevirtual 100, 3) := by decide +kernel
theorem dX7_coins_58 : decode cX7_coins 58 = .ok (.invokevirtual 104, 3) := by decide +kernel
theorem dX7_coins_61 : decode cX7_coins 61 = .ok (.ireturn, 1) := by decide +kernel
theorem dX7_drawn_0 : decode cX7_drawn 0 = .ok (.iload_n 1, 1) := by decide +kernel
theorem dX7_drawn_1 : decode cX7_drawn 1 = .ok (.iconst 1, 1) := by decide +kernel
theorem dX7_drawn_2 : decode cX7_drawn 2 = .ok (.bipush 60, 2) := by decide +kernel
theorem dX7_drawn_4 : decode cX7_drawn 4 = .ok (.invokestatic 88, 3) := by decide +kernel
theorem dX7_drawn_7 : decode cX7_drawn 7 = .ok (.ifCond .ne 21, 3) := by decide +kernel
theorem dX7_drawn_10 : decode cX7_drawn 10 = .ok (.iload_n 2, 1) := by decide +kernel
theorem dX7_drawn_11 : decode cX7_drawn 11 = .ok (.iconst 0, 1) := by decide +kernel
theorem dX7_drawn_12 : decode cX7_drawn 12 = .ok (.iload_n 1, 1) := by decide +kernel
theorem dX7_drawn_13 : decode cX7_drawn 13 = .ok (.invokestatic 88, 3) := by decide +kernel
theorem dX7_drawn_16 : decode cX7_drawn 16 = .ok (.ifCond .ne 12, 3) := by decide +kernel
theorem dX7_drawn_19 : decode cX7_drawn 19 = .ok (.iload_n 3, 1) := by decide +kernel
theorem dX7_drawn_20 : decode cX7_drawn 20 = .ok (.iconst 0, 1) := by decide +kernel
theorem dX7_drawn_21 : decode cX7_drawn 21 = .ok (.iload_n 1, 1) := by decide +kernel
theorem dX7_drawn_22 : decode cX7_drawn 22 = .ok (.invokestatic 88, 3) := by decide +kernel
theorem dX7_drawn_25 : decode cX7_drawn 25 = .ok (.ifCond .eq 5, 3) := by decide +kernel
theorem dX7_drawn_28 : decode cX7_drawn 28 = .ok (.iconst (-1), 1) := by decide +kernel
theorem dX7_drawn_29 : decode cX7_drawn 29 = .ok (.ireturn, 1) := by decide +kernel
theorem dX7_drawn_30 : decode cX7_drawn 30 = .ok (.aload_n 0, 1) := by decide +kernel
theorem dX7_drawn_31 : decode cX7_drawn 31 = .ok (.invokevirtual 96, 3) := by decide +kernel
theorem dX7_drawn_34 : decode cX7_drawn 34 = .ok (.ifCond .eq 6, 3) := by decide +kernel
theorem dX7_drawn_37 : decode cX7_drawn 37 = .ok (.bipush (-3), 2) := by decide +kernel
theorem dX7_drawn_39 : decode cX7_drawn 39 = .ok (.ireturn, 1) := by decide +kernel
theorem dX7_drawn_40 : decode cX7_drawn 40 = .ok (.aload_n 0, 1) := by decide +kernel
theorem dX7_drawn_41 : decode cX7_drawn 41 = .ok (.getfield 31, 3) := by decide +kernel
theorem dX7_drawn_44 : decode cX7_drawn 44 = .ok (.getfield 108, 3) := by decide +kernel
theorem dX7_drawn_47 : decode cX7_drawn 47 = .ok (.iload_n 1, 1) := by decide +kernel
theorem dX7_drawn_48 : decode cX7_drawn 48 = .ok (.iload_n 3, 1) := by decide +kernel
theorem dX7_drawn_49 : decode cX7_drawn 49 = .ok (.invokestatic 111, 3) := by decide +kernel
theorem dX7_drawn_52 : decode cX7_drawn 52 = .ok (.invokevirtual 115, 3) := by decide +kernel
theorem dX7_drawn_55 : decode cX7_drawn 55 = .ok (.new 119, 3) := by decide +kernel
theorem dX7_drawn_58 : decode cX7_drawn 58 = .ok (.dup, 1) := by decide +kernel
theorem dX7_drawn_59 : decode cX7_drawn 59 = .ok (.iload_n 3, 1) := by decide +kernel
theorem dX7_drawn_60 : decode cX7_drawn 60 = .ok (.aload_n 0, 1) := by decide +kernel
theorem dX7_drawn_61 : decode cX7_drawn 61 = .ok (.getfield 31, 3) := by decide +kernel
theorem dX7_drawn_64 : decode cX7_drawn 64 = .ok (.getfield 108, 3) := by decide +kernel
theorem dX7_drawn_67 : decode cX7_drawn 67 = .ok (.getfield 121, 3) := by decide +kernel
theorem dX7_drawn_70 : decode cX7_drawn 70 = .ok (.invokespecial 124, 3) := by decide +kernel
theorem dX7_drawn_73 : decode cX7_drawn 73 = .ok (.astore 4, 2) := by decide +kernel
theorem dX7_drawn_75 : decode cX7_drawn 75 = .ok (.iconst 0, 1) := by decide +kernel
theorem dX7_drawn_76 : decode cX7_drawn 76 = .ok (.istore 5, 2) := by decide +kernel
theorem dX7_drawn_78 : decode cX7_drawn 78 = .ok (.iload 5, 2) := by decide +kernel
theorem dX7_drawn_80 : decode cX7_drawn 80 = .ok (.iload_n 3, 1) := by decide +kernel
theorem dX7_drawn_81 : decode cX7_drawn 81 = .ok (.if_icmp .gt 33, 3) := by decide +kernel
theorem dX7_drawn_84 : decode cX7_drawn 84 = .ok (.aload 4, 2) := by decide +kernel
theorem dX7_drawn_86 : decode cX7_drawn 86 = .ok (.iload 5, 2) := by decide +kernel
theorem dX7_drawn_88 : decode cX7_drawn 88 = .ok (.iload_n 2, 1) := by decide +kernel
theorem dX7_drawn_89 : decode cX7_drawn 89 = .ok (.iload 5, 2) := by decide +kernel
theorem dX7_drawn_91 : decode cX7_drawn 91 = .ok (.invokestatic 111, 3) := by decide +kernel
theorem dX7_drawn_94 : decode cX7_drawn 94 = .ok (.iload_n 1, 1) := by decide +kernel
theorem dX7_drawn_95 : decode cX7_drawn 95 = .ok (.iload_n 2, 1) := by decide +kernel
theorem dX7_drawn_96 : decode cX7_drawn 96 = .ok (.isub, 1) := by decide +kernel
theorem dX7_drawn_97 : decode cX7_drawn 97 = .ok (.iload_n 3, 1) := by decide +kernel
theorem dX7_drawn_98 : decode cX7_drawn 98 = .ok (.iload 5, 2) := by decide +kernel
theorem dX7_drawn_100 : decode cX7_drawn 100 = .ok (.isub, 1) := by decide +kernel
theorem dX7_drawn_101 : decode cX7_drawn 101 = .ok (.invokestatic 111, 3) := by decide +kernel
theorem dX7_drawn_104 : decode cX7_drawn 104 = .ok (.lmul, 1) := by decide +kernel
theorem dX7_drawn_105 : decode cX7_drawn 105 = .ok (.invokevirtual 127, 3) := by decide +kernel
theorem dX7_drawn_108 : decode cX7_drawn 108 = .ok (.iinc 5 1, 3) := by decide +kernel
theorem dX7_drawn_111 : decode cX7_drawn 111 = .ok (.goto (-33), 3) := by decide +kernel
theorem dX7_drawn_114 : decode cX7_drawn 114 = .ok (.aload_n 0, 1) := by decide +kernel
theorem dX7_drawn_115 : decode cX7_drawn 115 = .ok (.iconst 1, 1) := by decide +kernel
theorem dX7_drawn_116 : decode cX7_drawn 116 = .ok (.aload 4, 2) := by decide +kernel
theorem dX7_drawn_118 : decode cX7_drawn 118 = .ok (.invokevirtual 104, 3) := by decide +kernel
theorem dX7_drawn_121 : decode cX7_drawn 121 = .ok (.ireturn, 1) := by decide +kernel
theorem dX7_sums_0 : decode cX7_sums 0 = .ok (.iload_n 1, 1) := by decide +kernel
theorem dX7_sums_1 : decode cX7_sums 1 = .ok (.iconst 0, 1) := by decide +kernel
theorem dX7_sums_2 : decode cX7_sums 2 = .ok (.bipush 12, 2) := by decide +kernel
theorem dX7_sums_4 : decode cX7_sums 4 = .ok (.invokestatic 88, 3) := by decide +kernel
theorem dX7_sums_7 : decode cX7_sums 7 = .ok (.ifCond .ne 17, 3) := by decide +kernel
theorem dX7_sums_10 : decode cX7_sums 10 = .ok (.aload_n 0, 1) := by decide +kernel
theorem dX7_sums_11 : decode cX7_sums 11 = .ok (.getfield 9, 3) := by decide +kernel
theorem dX7_sums_14 : decode cX7_sums 14 = .ok (.aload_n 0, 1) := by decide +kernel
theorem dX7_sums_15 : decode cX7_sums 15 = .ok (.getfield 63, 3) := by decide +kernel
theorem dX7_sums_18 : decode cX7_sums 18 = .ok (.invokestatic 131, 3) := by decide +kernel
theorem dX7_sums_21 : decode cX7_sums 21 = .ok (.ifCond .ne 5, 3) := by decide +kernel
theorem dX7_sums_24 : decode cX7_sums 24 = .ok (.iconst (-1), 1) := by decide +kernel
theorem dX7_sums_25 : decode cX7_sums 25 = .ok (.ireturn, 1) := by decide +kernel
theorem dX7_sums_26 : decode cX7_sums 26 = .ok (.aload_n 0, 1) := by decide +kernel
theorem dX7_sums_27 : decode cX7_sums 27 = .ok (.invokevirtual 96, 3) := by decide +kernel
theorem dX7_sums_30 : decode cX7_sums 30 = .ok (.ifCond .eq 8, 3) := by decide +kernel
theorem dX7_sums_33 : decode cX7_sums 33 = .ok (.bipush (-3), 2) := by decide +kernel
theorem dX7_sums_35 : decode cX7_sums 35 = .ok (.goto 21, 3) := by decide +kernel
theorem dX7_sums_38 : decode cX7_sums 38 = .ok (.aload_n 0, 1) := by decide +kernel
theorem dX7_sums_39 : decode cX7_sums 39 = .ok (.iconst 2, 1) := by decide +kernel
theorem dX7_sums_40 : decode cX7_sums 40 = .ok (.aload_n 0, 1) := by decide +kernel
theorem dX7_sums_41 : decode cX7_sums 41 = .ok (.iload_n 1, 1) := by decide +kernel
theorem dX7_sums_42 : decode cX7_sums 42 = .ok (.aload_n 0, 1) := by decide +kernel
theorem dX7_sums_43 : decode cX7_sums 43 = .ok (.getfield 9, 3) := by decide +kernel
theorem dX7_sums_46 : decode cX7_sums 46 = .ok (.aload_n 0, 1) := by decide +kernel
theorem dX7_sums_47 : decode cX7_sums 47 = .ok (.getfield 63, 3) := by decide +kernel
theorem dX7_sums_50 : decode cX7_sums 50 = .ok (.invokevirtual 100, 3) := by decide +kernel
theorem dX7_sums_53 : decode cX7_sums 53 = .ok (.invokevirtual 104, 3) := by decide +kernel
theorem dX7_sums_56 : decode cX7_sums 56 = .ok (.ireturn, 1) := by decide +kernel
theorem dX7_both_0 : decode cX7_both 0 = .ok (.aload_n 0, 1) := by decide +kernel
theorem dX7_both_1 : decode cX7_both 1 = .ok (.iload_n 1, 1) := by decide +kernel
theorem dX7_both_2 : decode cX7_both 2 = .ok (.invokevirtual 135, 3) := by decide +kernel
theorem dX7_both_5 : decode cX7_both 5 = .ok (.astore_n 3, 1) := by decide +kernel
theorem dX7_both_6 : decode cX7_both 6 = .ok (.aload_n 0, 1) := by decide +kernel
theorem dX7_both_7 : decode cX7_both 7 = .ok (.iload_n 2, 1) := by decide +kernel
theorem dX7_both_8 : decode cX7_both 8 = .ok (.invokevirtual 135, 3) := by decide +kernel
theorem dX7_both_11 : decode cX7_both 11 = .ok (.astore 4, 2) := by decide +kernel
theorem dX7_both_13 : decode cX7_both 13 = .ok (.aload_n 3, 1) := by decide +kernel
theorem dX7_both_14 : decode cX7_both 14 = .ok (.ifnull 29, 3) := by decide +kernel
theorem dX7_both_17 : decode cX7_both 17 = .ok (.aload 4, 2) := by decide +kernel
theorem dX7_both_19 : decode cX7_both 19 = .ok (.ifnull 24, 3) := by decide +kernel
theorem dX7_both_22 : decode cX7_both 22 = .ok (.aload_n 3, 1) := by decide +kernel
theorem dX7_both_23 : decode cX7_both 23 = .ok (.getfield 139, 3) := by decide +kernel
theorem dX7_both_26 : decode cX7_both 26 = .ok (.getfield 143, 3) := by decide +kernel
theorem dX7_both_29 : decode cX7_both 29 = .ok (.aload 4, 2) := by decide +kernel
theorem dX7_both_31 : decode cX7_both 31 = .ok (.getfield 139, 3) := by decide +kernel
theorem dX7_both_34 : decode cX7_both 34 = .ok (.getfield 143, 3) := by decide +kernel
theorem dX7_both_37 : decode cX7_both 37 = .ok (.iadd, 1) := by decide +kernel
theorem dX7_both_38 : decode cX7_both 38 = .ok (.bipush 120, 2) := by decide +kernel
theorem dX7_both_40 : decode cX7_both 40 = .ok (.if_icmp .le 5, 3) := by decide +kernel
theorem dX7_both_43 : decode cX7_both 43 = .ok (.iconst (-1), 1) := by decide +kernel
theorem dX7_both_44 : decode cX7_both 44 = .ok (.ireturn, 1) := by decide +kernel
theorem dX7_both_45 : decode cX7_both 45 = .ok (.aload_n 0, 1) := by decide +kernel
theorem dX7_both_46 : decode cX7_both 46 = .ok (.invokevirtual 96, 3) := by decide +kernel
theorem dX7_both_49 : decode cX7_both 49 = .ok (.ifCond .eq 6, 3) := by decide +kernel
theorem dX7_both_52 : decode cX7_both 52 = .ok (.bipush (-3), 2) := by decide +kernel
theorem dX7_both_54 : decode cX7_both 54 = .ok (.ireturn, 1) := by decide +kernel
theorem dX7_both_55 : decode cX7_both 55 = .ok (.aload_n 0, 1) := by decide +kernel
theorem dX7_both_56 : decode cX7_both 56 = .ok (.getfield 38, 3) := by decide +kernel
theorem dX7_both_59 : decode cX7_both 59 = .ok (.aload_n 3, 1) := by decide +kernel
theorem dX7_both_60 : decode cX7_both 60 = .ok (.getfield 146, 3) := by decide +kernel
theorem dX7_both_63 : decode cX7_both 63 = .ok (.aload 4, 2) := by decide +kernel
theorem dX7_both_65 : decode cX7_both 65 = .ok (.getfield 146, 3) := by decide +kernel
theorem dX7_both_68 : decode cX7_both 68 = .ok (.invokevirtual 149, 3) := by decide +kernel
theorem dX7_both_71 : decode cX7_both 71 = .ok (.aload_n 0, 1) := by decide +kernel
theorem dX7_both_72 : decode cX7_both 72 = .ok (.getfield 38, 3) := by decide +kernel
theorem dX7_both_75 : decode cX7_both 75 = .ok (.invokevirtual 153, 3) := by decide +kernel
theorem dX7_both_78 : decode cX7_both 78 = .ok (.sipush 256, 3) := by decide +kernel
theorem dX7_both_81 : decode cX7_both 81 = .ok (.if_icmp .le 6, 3) := by decide +kernel
theorem dX7_both_84 : decode cX7_both 84 = .ok (.bipush (-4), 2) := by decide +kernel
theorem dX7_both_86 : decode cX7_both 86 = .ok (.ireturn, 1) := by decide +kernel
theorem dX7_both_87 : decode cX7_both 87 = .ok (.new 119, 3) := by decide +kernel
theorem dX7_both_90 : decode cX7_both 90 = .ok (.dup, 1) := by decide +kernel
theorem dX7_both_91 : decode cX7_both 91 = .ok (.aload_n 3, 1) := by decide +kernel
theorem dX7_both_92 : decode cX7_both 92 = .ok (.getfield 139, 3) := by decide +kernel
theorem dX7_both_95 : decode cX7_both 95 = .ok (.getfield 143, 3) := by decide +kernel
theorem dX7_both_98 : decode cX7_both 98 = .ok (.aload 4, 2) := by decide +kernel
theorem dX7_both_100 : decode cX7_both 100 = .ok (.getfield 139, 3) := by decide +kernel
theorem dX7_both_103 : decode cX7_both 103 = .ok (.getfield 143, 3) := by decide +kernel
theorem dX7_both_106 : decode cX7_both 106 = .ok (.iadd, 1) := by decide +kernel
theorem dX7_both_107 : decode cX7_both 107 = .ok (.aload_n 0, 1) := by decide +kernel
theorem dX7_both_108 : decode cX7_both 108 = .ok (.getfield 38, 3) := by decide +kernel
theorem dX7_both_111 : decode cX7_both 111 = .ok (.getfield 121, 3) := by decide +kernel
theorem dX7_both_114 : decode cX7_both 114 = .ok (.invokespecial 124, 3) := by decide +kernel
theorem dX7_both_117 : decode cX7_both 117 = .ok (.astore 5, 2) := by decide +kernel
theorem dX7_both_119 : decode cX7_both 119 = .ok (.aload 5, 2) := by decide +kernel
theorem dX7_both_121 : decode cX7_both 121 = .ok (.aload_n 3, 1) := by decide +kernel
theorem dX7_both_122 : decode cX7_both 122 = .ok (.getfield 139, 3) := by decide +kernel
theorem dX7_both_125 : decode cX7_both 125 = .ok (.aload 4, 2) := by decide +kernel
theorem dX7_both_127 : decode cX7_both 127 = .ok (.getfield 139, 3) := by decide +kernel
theorem dX7_both_130 : decode cX7_both 130 = .ok (.invokevirtual 157, 3) := by decide +kernel
theorem dX7_both_133 : decode cX7_both 133 = .ok (.aload_n 0, 1) := by decide +kernel
theorem dX7_both_134 : decode cX7_both 134 = .ok (.iconst 3, 1) := by decide +kernel
theorem dX7_both_135 : decode cX7_both 135 = .ok (.aload 5, 2) := by decide +kernel
theorem dX7_both_137 : decode cX7_both 137 = .ok (.invokevirtual 104, 3) := by decide +kernel
theorem dX7_both_140 : decode cX7_both 140 = .ok (.ireturn, 1) := by decide +kernel
theorem dX7_held_0 : decode cX7_held 0 = .ok (.aload_n 0, 1) := by decide +kernel
theorem dX7_held_1 : decode cX7_held 1 = .ok (.iload_n 1, 1) := by decide +kernel
theorem dX7_held_2 : decode cX7_held 2 = .ok (.invokevirtual 135, 3) := by decide +kernel
theorem dX7_held_5 : decode cX7_held 5 = .ok (.astore 4, 2) := by decide +kernel
theorem dX7_held_7 : decode cX7_held 7 = .ok (.aload 4, 2) := by decide +kernel
theorem dX7_held_9 : decode cX7_held 9 = .ok (.ifnull 28, 3) := by decide +kernel
theorem dX7_held_12 : decode cX7_held 12 = .ok (.iload_n 3, 1) := by decide +kernel
theorem dX7_held_13 : decode cX7_held 13 = .ok (.iconst 0, 1) := by decide +kernel
theorem dX7_held_14 : decode cX7_held 14 = .ok (.aload 4, 2) := by decide +kernel
theorem dX7_held_16 : decode cX7_held 16 = .ok (.getfield 139, 3) := by decide +kernel
theorem dX7_held_19 : decode cX7_held 19 = .ok (.getfield 143, 3) := by decide +kernel
theorem dX7_held_22 : decode cX7_held 22 = .ok (.invokestatic 88, 3) := by decide +kernel
theorem dX7_held_25 : decode cX7_held 25 = .ok (.ifCond .ne 12, 3) := by decide +kernel
theorem dX7_held_28 : decode cX7_held 28 = .ok (.iload_n 2, 1) := by decide +kernel
theorem dX7_held_29 : decode cX7_held 29 = .ok (.iconst 0, 1) := by decide +kernel
theorem dX7_held_30 : decode cX7_held 30 = .ok (.iload_n 3, 1) := by decide +kernel
theorem dX7_held_31 : decode cX7_held 31 = .ok (.invokestatic 88, 3) := by decide +kernel
theorem dX7_held_34 : decode cX7_held 34 = .ok (.ifCond .eq 5, 3) := by decide +kernel
theorem dX7_held_37 : decode cX7_held 37 = .ok (.iconst (-1), 1) := by decide +kernel
theorem dX7_held_38 : decode cX7_held 38 = .ok (.ireturn, 1) := by decide +kernel
theorem dX7_held_39 : decode cX7_held 39 = .ok (.aload_n 0, 1) := by decide +kernel
theorem dX7_held_40 : decode cX7_held 40 = .ok (.invokevirtual 96, 3) := by decide +kernel
theorem dX7_held_43 : decode cX7_held 43 = .ok (.ifCond .eq 6, 3) := by decide +kernel
theorem dX7_held_46 : decode cX7_held 46 = .ok (.bipush (-3), 2) := by decide +kernel
theorem dX7_held_48 : decode cX7_held 48 = .ok (.ireturn, 1) := by decide +kernel
theorem dX7_held_49 : decode cX7_held 49 = .ok (.new 119, 3) := by decide +kernel
theorem dX7_held_52 : decode cX7_held 52 = .ok (.dup, 1) := by decide +kernel
theorem dX7_held_53 : decode cX7_held 53 = .ok (.aload 4, 2) := by decide +kernel
theorem dX7_held_55 : decode cX7_held 55 = .ok (.getfield 139, 3) := by decide +kernel
theorem dX7_held_58 : decode cX7_held 58 = .ok (.getfield 143, 3) := by decide +kernel
theorem dX7_held_61 : decode cX7_held 61 = .ok (.aload 4, 2) := by decide +kernel
theorem dX7_held_63 : decode cX7_held 63 = .ok (.getfield 139, 3) := by decide +kernel
theorem dX7_held_66 : decode cX7_held 66 = .ok (.getfield 161, 3) := by decide +kernel
theorem dX7_held_69 : decode cX7_held 69 = .ok (.invokespecial 124, 3) := by decide +kernel
theorem dX7_held_72 : decode cX7_held 72 = .ok (.astore 5, 2) := by decide +kernel
theorem dX7_held_74 : decode cX7_held 74 = .ok (.iconst 0, 1) := by decide +kernel
theorem dX7_held_75 : decode cX7_held 75 = .ok (.istore 6, 2) := by decide +kernel
theorem dX7_held_77 : decode cX7_held 77 = .ok (.iload 6, 2) := by decide +kernel
theorem dX7_held_79 : decode cX7_held 79 = .ok (.aload 4, 2) := by decide +kernel
theorem dX7_held_81 : decode cX7_held 81 = .ok (.getfield 139, 3) := by decide +kernel
theorem dX7_held_84 : decode cX7_held 84 = .ok (.getfield 143, 3) := by decide +kernel
theorem dX7_held_87 : decode cX7_held 87 = .ok (.if_icmp .gt 31, 3) := by decide +kernel
theorem dX7_held_90 : decode cX7_held 90 = .ok (.aload 5, 2) := by decide +kernel
theorem dX7_held_92 : decode cX7_held 92 = .ok (.aload 4, 2) := by decide +kernel
theorem dX7_held_94 : decode cX7_held 94 = .ok (.getfield 139, 3) := by decide +kernel
theorem dX7_held_97 : decode cX7_held 97 = .ok (.iload 6, 2) := by decide +kernel
theorem dX7_held_99 : decode cX7_held 99 = .ok (.iload_n 2, 1) := by decide +kernel
theorem dX7_held_100 : decode cX7_held 100 = .ok (.iload 6, 2) := by decide +kernel
theorem dX7_held_102 : decode cX7_held 102 = .ok (.iload_n 3, 1) := by decide +kernel
theorem dX7_held_103 : decode cX7_held 103 = .ok (.invokestatic 164, 3) := by decide +kernel
theorem dX7_held_106 : decode cX7_held 106 = .ok (.invokestatic 170, 3) := by decide +kernel
theorem dX7_held_109 : decode cX7_held 109 = .ok (.invokevirtual 173, 3) := by decide +kernel
theorem dX7_held_112 : decode cX7_held 112 = .ok (.iinc 6 1, 3) := by decide +kernel
theorem dX7_held_115 : decode cX7_held 115 = .ok (.goto (-38), 3) := by decide +kernel
theorem dX7_held_118 : decode cX7_held 118 = .ok (.aload_n 0, 1) := by decide +kernel
theorem dX7_held_119 : decode cX7_held 119 = .ok (.iconst 4, 1) := by decide +kernel
theorem dX7_held_120 : decode cX7_held 120 = .ok (.aload 5, 2) := by decide +kernel
theorem dX7_held_122 : decode cX7_held 122 = .ok (.invokevirtual 104, 3) := by decide +kernel
theorem dX7_held_125 : decode cX7_held 125 = .ok (.ireturn, 1) := by decide +kernel
theorem dX7_source_0 : decode cX7_source 0 = .ok (.aload_n 0, 1) := by decide +kernel
theorem dX7_source_1 : decode cX7_source 1 = .ok (.iload_n 1, 1) := by decide +kernel
theorem dX7_source_2 : decode cX7_source 2 = .ok (.invokevirtual 135, 3) := by decide +kernel
theorem dX7_source_5 : decode cX7_source 5 = .ok (.astore_n 3, 1) := by decide +kernel
theorem dX7_source_6 : decode cX7_source 6 = .ok (.aload_n 3, 1) := by decide +kernel
theorem dX7_source_7 : decode cX7_source 7 = .ok (.ifnonnull 5, 3) := by decide +kernel
theorem dX7_source_10 : decode cX7_source 10 = .ok (.iconst (-1), 1) := by decide +kernel
theorem dX7_source_11 : decode cX7_source 11 = .ok (.ireturn, 1) := by decide +kernel
theorem dX7_source_12 : decode cX7_source 12 = .ok (.iload_n 2, 1) := by decide +kernel
theorem dX7_source_13 : decode cX7_source 13 = .ok (.tableswitch 60 0 3 #[31, 36, 44, 52], 31) := by decide +kernel
theorem dX7_source_44 : decode cX7_source 44 = .ok (.aload_n 3, 1) := by decide +kernel
theorem dX7_source_45 : decode cX7_source 45 = .ok (.getfield 177, 3) := by decide +kernel
theorem dX7_source_48 : decode cX7_source 48 = .ok (.ireturn, 1) := by decide +kernel
theorem dX7_source_49 : decode cX7_source 49 = .ok (.aload_n 3, 1) := by decide +kernel
theorem dX7_source_50 : decode cX7_source 50 = .ok (.getfield 139, 3) := by decide +kernel
theorem dX7_source_53 : decode cX7_source 53 = .ok (.getfield 143, 3) := by decide +kernel
theorem dX7_source_56 : decode cX7_source 56 = .ok (.ireturn, 1) := by decide +kernel
theorem dX7_source_57 : decode cX7_source 57 = .ok (.aload_n 3, 1) := by decide +kernel
theorem dX7_source_58 : decode cX7_source 58 = .ok (.getfield 146, 3) := by decide +kernel
theorem dX7_source_61 : decode cX7_source 61 = .ok (.invokevirtual 153, 3) := by decide +kernel
theorem dX7_source_64 : decode cX7_source 64 = .ok (.ireturn, 1) := by decide +kernel
theorem dX7_source_65 : decode cX7_source 65 = .ok (.aload_n 3, 1) := by decide +kernel
theorem dX7_source_66 : decode cX7_source 66 = .ok (.getfield 139, 3) := by decide +kernel
theorem dX7_source_69 : decode cX7_source 69 = .ok (.invokevirtual 180, 3) := by decide +kernel
theorem dX7_source_72 : decode cX7_source 72 = .ok (.ireturn, 1) := by decide +kernel
theorem dX7_source_73 : decode cX7_source 73 = .ok (.iconst (-1), 1) := by decide +kernel
theorem dX7_source_74 : decode cX7_source 74 = .ok (.ireturn, 1) := by decide +kernel
theorem dX7_counted_0 : decode cX7_counted 0 = .ok (.aload_n 0, 1) := by decide +kernel
theorem dX7_counted_1 : decode cX7_counted 1 = .ok (.iload_n 1, 1) := by decide +kernel
theorem dX7_counted_2 : decode cX7_counted 2 = .ok (.invokevirtual 135, 3) := by decide +kernel
theorem dX7_counted_5 : decode cX7_counted 5 = .ok (.astore_n 3, 1) := by decide +kernel
theorem dX7_counted_6 : decode cX7_counted 6 = .ok (.aload_n 3, 1) := by decide +kernel
theorem dX7_counted_7 : decode cX7_counted 7 = .ok (.ifnull 13, 3) := by decide +kernel
theorem dX7_counted_10 : decode cX7_counted 10 = .ok (.iload_n 2, 1) := by decide +kernel
theorem dX7_counted_11 : decode cX7_counted 11 = .ok (.iconst 0, 1) := by decide +kernel
theorem dX7_counted_12 : decode cX7_counted 12 = .ok (.bipush 120, 2) := by decide +kernel
theorem dX7_counted_14 : decode cX7_counted 14 = .ok (.invokestatic 88, 3) := by decide +kernel
theorem dX7_counted_17 : decode cX7_counted 17 = .ok (.ifCond .eq 5, 3) := by decide +kernel
theorem dX7_counted_20 : decode cX7_counted 20 = .ok (.iconst (-1), 1) := by decide +kernel
theorem dX7_counted_21 : decode cX7_counted 21 = .ok (.ireturn, 1) := by decide +kernel
theorem dX7_counted_22 : decode cX7_counted 22 = .ok (.aload_n 3, 1) := by decide +kernel
theorem dX7_counted_23 : decode cX7_counted 23 = .ok (.getfield 177, 3) := by decide +kernel
theorem dX7_counted_26 : decode cX7_counted 26 = .ok (.ifCond .eq 14, 3) := by decide +kernel
theorem dX7_counted_29 : decode cX7_counted 29 = .ok (.aload_n 3, 1) := by decide +kernel
theorem dX7_counted_30 : decode cX7_counted 30 = .ok (.getfield 177, 3) := by decide +kernel
theorem dX7_counted_33 : decode cX7_counted 33 = .ok (.iconst 2, 1) := by decide +kernel
theorem dX7_counted_34 : decode cX7_counted 34 = .ok (.if_icmp .eq 6, 3) := by decide +kernel
theorem dX7_counted_37 : decode cX7_counted 37 = .ok (.bipush (-5), 2) := by decide +kernel
theorem dX7_counted_39 : decode cX7_counted 39 = .ok (.ireturn, 1) := by decide +kernel
theorem dX7_counted_40 : decode cX7_counted 40 = .ok (.aload_n 3, 1) := by decide +kernel
theorem dX7_counted_41 : decode cX7_counted 41 = .ok (.getfield 146, 3) := by decide +kernel
theorem dX7_counted_44 : decode cX7_counted 44 = .ok (.getfield 121, 3) := by decide +kernel
theorem dX7_counted_47 : decode cX7_counted 47 = .ok (.iconst 1, 1) := by decide +kernel
theorem dX7_counted_48 : decode cX7_counted 48 = .ok (.if_icmp .gt 18, 3) := by decide +kernel
theorem dX7_counted_51 : decode cX7_counted 51 = .ok (.aload_n 3, 1) := by decide +kernel
theorem dX7_counted_52 : decode cX7_counted 52 = .ok (.getfield 146, 3) := by decide +kernel
theorem dX7_counted_55 : decode cX7_counted 55 = .ok (.iconst 0, 1) := by decide +kernel
theorem dX7_counted_56 : decode cX7_counted 56 = .ok (.invokevirtual 183, 3) := by decide +kernel
theorem dX7_counted_59 : decode cX7_counted 59 = .ok (.ldc2_w 187, 3) := by decide +kernel
theorem dX7_counted_62 : decode cX7_counted 62 = .ok (.lcmp, 1) := by decide +kernel
theorem dX7_counted_63 : decode cX7_counted 63 = .ok (.ifCond .le 6, 3) := by decide +kernel
theorem dX7_counted_66 : decode cX7_counted 66 = .ok (.bipush (-5), 2) := by decide +kernel
theorem dX7_counted_68 : decode cX7_counted 68 = .ok (.ireturn, 1) := by decide +kernel
theorem dX7_counted_69 : decode cX7_counted 69 = .ok (.lconst 0, 1) := by decide +kernel
theorem dX7_counted_70 : decode cX7_counted 70 = .ok (.lstore 4, 2) := by decide +kernel
theorem dX7_counted_72 : decode cX7_counted 72 = .ok (.iload_n 2, 1) := by decide +kernel
theorem dX7_counted_73 : decode cX7_counted 73 = .ok (.istore 6, 2) := by decide +kernel
theorem dX7_counted_75 : decode cX7_counted 75 = .ok (.iload 6, 2) := by decide +kernel
theorem dX7_counted_77 : decode cX7_counted 77 = .ok (.aload_n 3, 1) := by decide +kernel
theorem dX7_counted_78 : decode cX7_counted 78 = .ok (.getfield 139, 3) := by decide +kernel
theorem dX7_counted_81 : decode cX7_counted 81 = .ok (.getfield 143, 3) := by decide +kernel
theorem dX7_counted_84 : decode cX7_counted 84 = .ok (.if_icmp .gt 24, 3) := by decide +kernel
theorem dX7_counted_87 : decode cX7_counted 87 = .ok (.lload 4, 2) := by decide +kernel
theorem dX7_counted_89 : decode cX7_counted 89 = .ok (.aload_n 3, 1) := by decide +kernel
theorem dX7_counted_90 : decode cX7_counted 90 = .ok (.getfield 139, 3) := by decide +kernel
theorem dX7_counted_93 : decode cX7_counted 93 = .ok (.iload 6, 2) := by decide +kernel
theorem dX7_counted_95 : decode cX7_counted 95 = .ok (.iconst 0, 1) := by decide +kernel
theorem dX7_counted_96 : decode cX7_counted 96 = .ok (.invokevirtual 189, 3) := by decide +kernel
theorem dX7_counted_99 : decode cX7_counted 99 = .ok (.ladd, 1) := by decide +kernel
theorem dX7_counted_100 : decode cX7_counted 100 = .ok (.lstore 4, 2) := by decide +kernel
theorem dX7_counted_102 : decode cX7_counted 102 = .ok (.iinc 6 1, 3) := by decide +kernel
theorem dX7_counted_105 : decode cX7_counted 105 = .ok (.goto (-30), 3) := by decide +kernel
theorem dX7_counted_108 : decode cX7_counted 108 = .ok (.lload 4, 2) := by decide +kernel
theorem dX7_counted_110 : decode cX7_counted 110 = .ok (.l2i, 1) := by decide +kernel
theorem dX7_counted_111 : decode cX7_counted 111 = .ok (.ireturn, 1) := by decide +kernel
theorem dX7_set_0 : decode cX7_set 0 = .ok (.aload_n 0, 1) := by decide +kernel
theorem dX7_set_1 : decode cX7_set 1 = .ok (.iload_n 1, 1) := by decide +kernel
theorem dX7_set_2 : decode cX7_set 2 = .ok (.invokevirtual 191, 3) := by decide +kernel
theorem dX7_set_5 : decode cX7_set 5 = .ok (.astore 4, 2) := by decide +kernel
theorem dX7_set_7 : decode cX7_set 7 = .ok (.aload 4, 2) := by decide +kernel
theorem dX7_set_9 : decode cX7_set 9 = .ok (.ifnull 11, 3) := by decide +kernel
theorem dX7_set_12 : decode cX7_set 12 = .ok (.iload_n 2, 1) := by decide +kernel
theorem dX7_set_13 : decode cX7_set 13 = .ok (.ifCond .lt 7, 3) := by decide +kernel
theorem dX7_set_16 : decode cX7_set 16 = .ok (.iload_n 3, 1) := by decide +kernel
theorem dX7_set_17 : decode cX7_set 17 = .ok (.ifCond .gt 5, 3) := by decide +kernel
theorem dX7_set_20 : decode cX7_set 20 = .ok (.iconst (-1), 1) := by decide +kernel
theorem dX7_set_21 : decode cX7_set 21 = .ok (.ireturn, 1) := by decide +kernel
theorem dX7_set_22 : decode cX7_set 22 = .ok (.aload_n 0, 1) := by decide +kernel
theorem dX7_set_23 : decode cX7_set 23 = .ok (.getfield 31, 3) := by decide +kernel
theorem dX7_set_26 : decode cX7_set 26 = .ok (.iload_n 2, 1) := by decide +kernel
theorem dX7_set_27 : decode cX7_set 27 = .ok (.iload_n 3, 1) := by decide +kernel
theorem dX7_set_28 : decode cX7_set 28 = .ok (.invokevirtual 195, 3) := by decide +kernel
theorem dX7_set_31 : decode cX7_set 31 = .ok (.aload_n 0, 1) := by decide +kernel
theorem dX7_set_32 : decode cX7_set 32 = .ok (.aload 4, 2) := by decide +kernel
theorem dX7_set_34 : decode cX7_set 34 = .ok (.invokevirtual 197, 3) := by decide +kernel
theorem dX7_set_37 : decode cX7_set 37 = .ok (.ireturn, 1) := by decide +kernel
theorem dX7_mean_0 : decode cX7_mean 0 = .ok (.aload_n 0, 1) := by decide +kernel
theorem dX7_mean_1 : decode cX7_mean 1 = .ok (.iload_n 1, 1) := by decide +kernel
theorem dX7_mean_2 : decode cX7_mean 2 = .ok (.invokevirtual 191, 3) := by decide +kernel
theorem dX7_mean_5 : decode cX7_mean 5 = .ok (.astore_n 3, 1) := by decide +kernel
theorem dX7_mean_6 : decode cX7_mean 6 = .ok (.aload_n 0, 1) := by decide +kernel
theorem dX7_mean_7 : decode cX7_mean 7 = .ok (.iload_n 2, 1) := by decide +kernel
theorem dX7_mean_8 : decode cX7_mean 8 = .ok (.invokevirtual 135, 3) := by decide +kernel
theorem dX7_mean_11 : decode cX7_mean 11 = .ok (.astore 4, 2) := by decide +kernel
theorem dX7_mean_13 : decode cX7_mean 13 = .ok (.aload_n 3, 1) := by decide +kernel
theorem dX7_mean_14 : decode cX7_mean 14 = .ok (.ifnull 8, 3) := by decide +kernel
theorem dX7_mean_17 : decode cX7_mean 17 = .ok (.aload 4, 2) := by decide +kernel
theorem dX7_mean_19 : decode cX7_mean 19 = .ok (.ifnonnull 5, 3) := by decide +kernel
theorem dX7_mean_22 : decode cX7_mean 22 = .ok (.iconst (-1), 1) := by decide +kernel
theorem dX7_mean_23 : decode cX7_mean 23 = .ok (.ireturn, 1) := by decide +kernel
theorem dX7_mean_24 : decode cX7_mean 24 = .ok (.aload_n 0, 1) := by decide +kernel
theorem dX7_mean_25 : decode cX7_mean 25 = .ok (.getfield 31, 3) := by decide +kernel
theorem dX7_mean_28 : decode cX7_mean 28 = .ok (.aload 4, 2) := by decide +kernel
theorem dX7_mean_30 : decode cX7_mean 30 = .ok (.getfield 201, 3) := by decide +kernel
theorem dX7_mean_33 : decode cX7_mean 33 = .ok (.invokevirtual 204, 3) := by decide +kernel
theorem dX7_mean_36 : decode cX7_mean 36 = .ok (.aload_n 0, 1) := by decide +kernel
theorem dX7_mean_37 : decode cX7_mean 37 = .ok (.aload_n 3, 1) := by decide +kernel
theorem dX7_mean_38 : decode cX7_mean 38 = .ok (.invokevirtual 208, 3) := by decide +kernel
theorem dX7_mean_41 : decode cX7_mean 41 = .ok (.ireturn, 1) := by decide +kernel
theorem dX7_moment_0 : decode cX7_moment 0 = .ok (.aload_n 0, 1) := by decide +kernel
theorem dX7_moment_1 : decode cX7_moment 1 = .ok (.iload_n 1, 1) := by decide +kernel
theorem dX7_moment_2 : decode cX7_moment 2 = .ok (.invokevirtual 191, 3) := by decide +kernel
theorem dX7_moment_5 : decode cX7_moment 5 = .ok (.astore 4, 2) := by decide +kernel
theorem dX7_moment_7 : decode cX7_moment 7 = .ok (.aload_n 0, 1) := by decide +kernel
theorem dX7_moment_8 : decode cX7_moment 8 = .ok (.iload_n 2, 1) := by decide +kernel
theorem dX7_moment_9 : decode cX7_moment 9 = .ok (.invokevirtual 135, 3) := by decide +kernel
theorem dX7_moment_12 : decode cX7_moment 12 = .ok (.astore 5, 2) := by decide +kernel
theorem dX7_moment_14 : decode cX7_moment 14 = .ok (.aload 4, 2) := by decide +kernel
theorem dX7_moment_16 : decode cX7_moment 16 = .ok (.ifnull 18, 3) := by decide +kernel
theorem dX7_moment_19 : decode cX7_moment 19 = .ok (.aload 5, 2) := by decide +kernel
theorem dX7_moment_21 : decode cX7_moment 21 = .ok (.ifnull 13, 3) := by decide +kernel
theorem dX7_moment_24 : decode cX7_moment 24 = .ok (.iload_n 3, 1) := by decide +kernel
theorem dX7_moment_25 : decode cX7_moment 25 = .ok (.iconst 2, 1) := by decide +kernel
theorem dX7_moment_26 : decode cX7_moment 26 = .ok (.if_icmp .eq 10, 3) := by decide +kernel
theorem dX7_moment_29 : decode cX7_moment 29 = .ok (.iload_n 3, 1) := by decide +kernel
theorem dX7_moment_30 : decode cX7_moment 30 = .ok (.iconst 4, 1) := by decide +kernel
theorem dX7_moment_31 : decode cX7_moment 31 = .ok (.if_icmp .eq 5, 3) := by decide +kernel
theorem dX7_moment_34 : decode cX7_moment 34 = .ok (.iconst (-1), 1) := by decide +kernel
theorem dX7_moment_35 : decode cX7_moment 35 = .ok (.ireturn, 1) := by decide +kernel
theorem dX7_moment_36 : decode cX7_moment 36 = .ok (.aload_n 0, 1) := by decide +kernel
theorem dX7_moment_37 : decode cX7_moment 37 = .ok (.getfield 52, 3) := by decide +kernel
theorem dX7_moment_40 : decode cX7_moment 40 = .ok (.aload 5, 2) := by decide +kernel
theorem dX7_moment_42 : decode cX7_moment 42 = .ok (.iload_n 3, 1) := by decide +kernel
theorem dX7_moment_43 : decode cX7_moment 43 = .ok (.aload_n 0, 1) := by decide +kernel
theorem dX7_moment_44 : decode cX7_moment 44 = .ok (.getfield 31, 3) := by decide +kernel
theorem dX7_moment_47 : decode cX7_moment 47 = .ok (.invokevirtual 211, 3) := by decide +kernel
theorem dX7_moment_50 : decode cX7_moment 50 = .ok (.aload_n 0, 1) := by decide +kernel
theorem dX7_moment_51 : decode cX7_moment 51 = .ok (.aload 4, 2) := by decide +kernel
theorem dX7_moment_53 : decode cX7_moment 53 = .ok (.invokevirtual 197, 3) := by decide +kernel
theorem dX7_moment_56 : decode cX7_moment 56 = .ok (.ireturn, 1) := by decide +kernel
theorem dX7_tail_0 : decode cX7_tail 0 = .ok (.aload_n 0, 1) := by decide +kernel
theorem dX7_tail_1 : decode cX7_tail 1 = .ok (.iload_n 1, 1) := by decide +kernel
theorem dX7_tail_2 : decode cX7_tail 2 = .ok (.invokevirtual 191, 3) := by decide +kernel
theorem dX7_tail_5 : decode cX7_tail 5 = .ok (.astore 5, 2) := by decide +kernel
theorem dX7_tail_7 : decode cX7_tail 7 = .ok (.aload_n 0, 1) := by decide +kernel
theorem dX7_tail_8 : decode cX7_tail 8 = .ok (.iload_n 2, 1) := by decide +kernel
theorem dX7_tail_9 : decode cX7_tail 9 = .ok (.invokevirtual 135, 3) := by decide +kernel
theorem dX7_tail_12 : decode cX7_tail 12 = .ok (.astore 6, 2) := by decide +kernel
theorem dX7_tail_14 : decode cX7_tail 14 = .ok (.aload 5, 2) := by decide +kernel
theorem dX7_tail_16 : decode cX7_tail 16 = .ok (.ifnull 28, 3) := by decide +kernel
theorem dX7_tail_19 : decode cX7_tail 19 = .ok (.aload 6, 2) := by decide +kernel
theorem dX7_tail_21 : decode cX7_tail 21 = .ok (.ifnull 23, 3) := by decide +kernel
theorem dX7_tail_24 : decode cX7_tail 24 = .ok (.iload_n 3, 1) := by decide +kernel
theorem dX7_tail_25 : decode cX7_tail 25 = .ok (.iconst 0, 1) := by decide +kernel
theorem dX7_tail_26 : decode cX7_tail 26 = .ok (.bipush 120, 2) := by decide +kernel
theorem dX7_tail_28 : decode cX7_tail 28 = .ok (.invokestatic 88, 3) := by decide +kernel
theorem dX7_tail_31 : decode cX7_tail 31 = .ok (.ifCond .ne 13, 3) := by decide +kernel
theorem dX7_tail_34 : decode cX7_tail 34 = .ok (.iload 4, 2) := by decide +kernel
theorem dX7_tail_36 : decode cX7_tail 36 = .ok (.iconst 0, 1) := by decide +kernel
theorem dX7_tail_37 : decode cX7_tail 37 = .ok (.iconst 2, 1) := by decide +kernel
theorem dX7_tail_38 : decode cX7_tail 38 = .ok (.invokestatic 88, 3) := by decide +kernel
theorem dX7_tail_41 : decode cX7_tail 41 = .ok (.ifCond .eq 5, 3) := by decide +kernel
theorem dX7_tail_44 : decode cX7_tail 44 = .ok (.iconst (-1), 1) := by decide +kernel
theorem dX7_tail_45 : decode cX7_tail 45 = .ok (.ireturn, 1) := by decide +kernel
theorem dX7_tail_46 : decode cX7_tail 46 = .ok (.aload_n 0, 1) := by decide +kernel
theorem dX7_tail_47 : decode cX7_tail 47 = .ok (.getfield 52, 3) := by decide +kernel
theorem dX7_tail_50 : decode cX7_tail 50 = .ok (.aload 6, 2) := by decide +kernel
theorem dX7_tail_52 : decode cX7_tail 52 = .ok (.iload_n 3, 1) := by decide +kernel
theorem dX7_tail_53 : decode cX7_tail 53 = .ok (.iload 4, 2) := by decide +kernel
theorem dX7_tail_55 : decode cX7_tail 55 = .ok (.aload_n 0, 1) := by decide +kernel
theorem dX7_tail_56 : decode cX7_tail 56 = .ok (.getfield 31, 3) := by decide +kernel
theorem dX7_tail_59 : decode cX7_tail 59 = .ok (.invokevirtual 215, 3) := by decide +kernel
theorem dX7_tail_62 : decode cX7_tail 62 = .ok (.aload_n 0, 1) := by decide +kernel
theorem dX7_tail_63 : decode cX7_tail 63 = .ok (.aload 5, 2) := by decide +kernel
theorem dX7_tail_65 : decode cX7_tail 65 = .ok (.invokevirtual 197, 3) := by decide +kernel
theorem dX7_tail_68 : decode cX7_tail 68 = .ok (.ireturn, 1) := by decide +kernel
theorem dX7_bound_0 : decode cX7_bound 0 = .ok (.aload_n 0, 1) := by decide +kernel
theorem dX7_bound_1 : decode cX7_bound 1 = .ok (.iload_n 1, 1) := by decide +kernel
theorem dX7_bound_2 : decode cX7_bound 2 = .ok (.invokevirtual 191, 3) := by decide +kernel
theorem dX7_bound_5 : decode cX7_bound 5 = .ok (.astore 5, 2) := by decide +kernel
theorem dX7_bound_7 : decode cX7_bound 7 = .ok (.aload_n 0, 1) := by decide +kernel
theorem dX7_bound_8 : decode cX7_bound 8 = .ok (.iload_n 2, 1) := by decide +kernel
theorem dX7_bound_9 : decode cX7_bound 9 = .ok (.invokevirtual 135, 3) := by decide +kernel
theorem dX7_bound_12 : decode cX7_bound 12 = .ok (.astore 6, 2) := by decide +kernel
theorem dX7_bound_14 : decode cX7_bound 14 = .ok (.aload 5, 2) := by decide +kernel
theorem dX7_bound_16 : decode cX7_bound 16 = .ok (.ifnull 28, 3) := by decide +kernel
theorem dX7_bound_19 : decode cX7_bound 19 = .ok (.aload 6, 2) := by decide +kernel
theorem dX7_bound_21 : decode cX7_bound 21 = .ok (.ifnull 23, 3) := by decide +kernel
theorem dX7_bound_24 : decode cX7_bound 24 = .ok (.iload_n 3, 1) := by decide +kernel
theorem dX7_bound_25 : decode cX7_bound 25 = .ok (.iconst 0, 1) := by decide +kernel
theorem dX7_bound_26 : decode cX7_bound 26 = .ok (.bipush 120, 2) := by decide +kernel
theorem dX7_bound_28 : decode cX7_bound 28 = .ok (.invokestatic 88, 3) := by decide +kernel
theorem dX7_bound_31 : decode cX7_bound 31 = .ok (.ifCond .ne 13, 3) := by decide +kernel
theorem dX7_bound_34 : decode cX7_bound 34 = .ok (.iload 4, 2) := by decide +kernel
theorem dX7_bound_36 : decode cX7_bound 36 = .ok (.iconst 0, 1) := by decide +kernel
theorem dX7_bound_37 : decode cX7_bound 37 = .ok (.iconst 4, 1) := by decide +kernel
theorem dX7_bound_38 : decode cX7_bound 38 = .ok (.invokestatic 88, 3) := by decide +kernel
theorem dX7_bound_41 : decode cX7_bound 41 = .ok (.ifCond .eq 5, 3) := by decide +kernel
theorem dX7_bound_44 : decode cX7_bound 44 = .ok (.iconst (-1), 1) := by decide +kernel
theorem dX7_bound_45 : decode cX7_bound 45 = .ok (.ireturn, 1) := by decide +kernel
theorem dX7_bound_46 : decode cX7_bound 46 = .ok (.iconst 0, 1) := by decide +kernel
theorem dX7_bound_47 : decode cX7_bound 47 = .ok (.istore 7, 2) := by decide +kernel
theorem dX7_bound_49 : decode cX7_bound 49 = .ok (.aload_n 0, 1) := by decide +kernel
theorem dX7_bound_50 : decode cX7_bound 50 = .ok (.getfield 52, 3) := by decide +kernel
theorem dX7_bound_53 : decode cX7_bound 53 = .ok (.aload 6, 2) := by decide +kernel
theorem dX7_bound_55 : decode cX7_bound 55 = .ok (.iload_n 3, 1) := by decide +kernel
theorem dX7_bound_56 : decode cX7_bound 56 = .ok (.invokevirtual 219, 3) := by decide +kernel
theorem dX7_bound_59 : decode cX7_bound 59 = .ok (.ifCond .ne 15, 3) := by decide +kernel
theorem dX7_bound_62 : decode cX7_bound 62 = .ok (.aload_n 0, 1) := by decide +kernel
theorem dX7_bound_63 : decode cX7_bound 63 = .ok (.getfield 31, 3) := by decide +kernel
theorem dX7_bound_66 : decode cX7_bound 66 = .ok (.iconst 1, 1) := by decide +kernel
theorem dX7_bound_67 : decode cX7_bound 67 = .ok (.iconst 1, 1) := by decide +kernel
theorem dX7_bound_68 : decode cX7_bound 68 = .ok (.invokevirtual 195, 3) := by decide +kernel
theorem dX7_bound_71 : decode cX7_bound 71 = .ok (.goto 66, 3) := by decide +kernel
theorem dX7_bound_74 : decode cX7_bound 74 = .ok (.iload 4, 2) := by decide +kernel
theorem dX7_bound_76 : decode cX7_bound 76 = .ok (.ifCond .ne 20, 3) := by decide +kernel
theorem dX7_bound_79 : decode cX7_bound 79 = .ok (.aload_n 0, 1) := by decide +kernel
theorem dX7_bound_80 : decode cX7_bound 80 = .ok (.getfield 52, 3) := by decide +kernel
theorem dX7_bound_83 : decode cX7_bound 83 = .ok (.aload 6, 2) := by decide +kernel
theorem dX7_bound_85 : decode cX7_bound 85 = .ok (.iload_n 3, 1) := by decide +kernel
theorem dX7_bound_86 : decode cX7_bound 86 = .ok (.aload_n 0, 1) := by decide +kernel
theorem dX7_bound_87 : decode cX7_bound 87 = .ok (.getfield 31, 3) := by decide +kernel
theorem dX7_bound_90 : decode cX7_bound 90 = .ok (.invokevirtual 223, 3) := by decide +kernel
theorem dX7_bound_93 : decode cX7_bound 93 = .ok (.goto 44, 3) := by decide +kernel
theorem dX7_bound_96 : decode cX7_bound 96 = .ok (.iload 4, 2) := by decide +kernel
theorem dX7_bound_98 : decode cX7_bound 98 = .ok (.iconst 4, 1) := by decide +kernel
theorem dX7_bound_99 : decode cX7_bound 99 = .ok (.if_icmp .ne 22, 3) := by decide +kernel
theorem dX7_bound_102 : decode cX7_bound 102 = .ok (.aload_n 0, 1) := by decide +kernel
theorem dX7_bound_103 : decode cX7_bound 103 = .ok (.getfield 52, 3) := by decide +kernel
theorem dX7_bound_106 : decode cX7_bound 106 = .ok (.aload 6, 2) := by decide +kernel
theorem dX7_bound_108 : decode cX7_bound 108 = .ok (.iload_n 3, 1) := by decide +kernel
theorem dX7_bound_109 : decode cX7_bound 109 = .ok (.aload_n 0, 1) := by decide +kernel
theorem dX7_bound_110 : decode cX7_bound 110 = .ok (.getfield 31, 3) := by decide +kernel
theorem dX7_bound_113 : decode cX7_bound 113 = .ok (.invokevirtual 226, 3) := by decide +kernel
theorem dX7_bound_116 : decode cX7_bound 116 = .ok (.istore 7, 2) := by decide +kernel
theorem dX7_bound_118 : decode cX7_bound 118 = .ok (.goto 19, 3) := by decide +kernel
theorem dX7_bound_121 : decode cX7_bound 121 = .ok (.aload_n 0, 1) := by decide +kernel
theorem dX7_bound_122 : decode cX7_bound 122 = .ok (.getfield 52, 3) := by decide +kernel
theorem dX7_bound_125 : decode cX7_bound 125 = .ok (.aload 6, 2) := by decide +kernel
theorem dX7_bound_127 : decode cX7_bound 127 = .ok (.iload_n 3, 1) := by decide +kernel
theorem dX7_bound_128 : decode cX7_bound 128 = .ok (.iload 4, 2) := by decide +kernel
theorem dX7_bound_130 : decode cX7_bound 130 = .ok (.aload_n 0, 1) := by decide +kernel
theorem dX7_bound_131 : decode cX7_bound 131 = .ok (.getfield 31, 3) := by decide +kernel
theorem dX7_bound_134 : decode cX7_bound 134 = .ok (.invokevirtual 230, 3) := by decide +kernel
theorem dX7_bound_137 : decode cX7_bound 137 = .ok (.aload_n 0, 1) := by decide +kernel
theorem dX7_bound_138 : decode cX7_bound 138 = .ok (.getfield 31, 3) := by decide +kernel
theorem dX7_bound_141 : decode cX7_bound 141 = .ok (.invokevirtual 233, 3) := by decide +kernel
theorem dX7_bound_144 : decode cX7_bound 144 = .ok (.aload_n 0, 1) := by decide +kernel
theorem dX7_bound_145 : decode cX7_bound 145 = .ok (.aload 5, 2) := by decide +kernel
theorem dX7_bound_147 : decode cX7_bound 147 = .ok (.invokevirtual 197, 3) := by decide +kernel
theorem dX7_bound_150 : decode cX7_bound 150 = .ok (.istore 8, 2) := by decide +kernel
theorem dX7_bound_152 : decode cX7_bound 152 = .ok (.iload 8, 2) := by decide +kernel
theorem dX7_bound_154 : decode cX7_bound 154 = .ok (.ifCond .le 15, 3) := by decide +kernel
theorem dX7_bound_157 : decode cX7_bound 157 = .ok (.iload 4, 2) := by decide +kernel
theorem dX7_bound_159 : decode cX7_bound 159 = .ok (.iconst 4, 1) := by decide +kernel
theorem dX7_bound_160 : decode cX7_bound 160 = .ok (.if_icmp .ne 9, 3) := by decide +kernel
theorem dX7_bound_163 : decode cX7_bound 163 = .ok (.aload_n 0, 1) := by decide +kernel
theorem dX7_bound_164 : decode cX7_bound 164 = .ok (.iload 7, 2) := by decide +kernel
theorem dX7_bound_166 : decode cX7_bound 166 = .ok (.putfield 70, 3) := by decide +kernel
theorem dX7_bound_169 : decode cX7_bound 169 = .ok (.iload 8, 2) := by decide +kernel
theorem dX7_bound_171 : decode cX7_bound 171 = .ok (.ireturn, 1) := by decide +kernel
theorem dX7_base_0 : decode cX7_base 0 = .ok (.aload_n 0, 1) := by decide +kernel
theorem dX7_base_1 : decode cX7_base 1 = .ok (.getfield 70, 3) := by decide +kernel
theorem dX7_base_4 : decode cX7_base 4 = .ok (.ireturn, 1) := by decide +kernel
theorem dX7_work_0 : decode cX7_work 0 = .ok (.aload_n 0, 1) := by decide +kernel
theorem dX7_work_1 : decode cX7_work 1 = .ok (.iload_n 2, 1) := by decide +kernel
theorem dX7_work_2 : decode cX7_work 2 = .ok (.invokevirtual 191, 3) := by decide +kernel
theorem dX7_work_5 : decode cX7_work 5 = .ok (.astore 5, 2) := by decide +kernel
theorem dX7_work_7 : decode cX7_work 7 = .ok (.aload_n 0, 1) := by decide +kernel
theorem dX7_work_8 : decode cX7_work 8 = .ok (.iload_n 3, 1) := by decide +kernel
theorem dX7_work_9 : decode cX7_work 9 = .ok (.invokevirtual 191, 3) := by decide +kernel
theorem dX7_work_12 : decode cX7_work 12 = .ok (.astore 6, 2) := by decide +kernel
theorem dX7_work_14 : decode cX7_work 14 = .ok (.iload_n 1, 1) := by decide +kernel
theorem dX7_work_15 : decode cX7_work 15 = .ok (.iconst 3, 1) := by decide +kernel
theorem dX7_work_16 : decode cX7_work 16 = .ok (.if_icmp .ne 8, 3) := by decide +kernel
theorem dX7_work_19 : decode cX7_work 19 = .ok (.aload 6, 2) := by decide +kernel
theorem dX7_work_21 : decode cX7_work 21 = .ok (.goto 9, 3) := by decide +kernel
theorem dX7_work_24 : decode cX7_work 24 = .ok (.aload_n 0, 1) := by decide +kernel
theorem dX7_work_25 : decode cX7_work 25 = .ok (.iload 4, 2) := by decide +kernel
theorem dX7_work_27 : decode cX7_work 27 = .ok (.invokevirtual 191, 3) := by decide +kernel
theorem dX7_work_30 : decode cX7_work 30 = .ok (.astore 7, 2) := by decide +kernel
theorem dX7_work_32 : decode cX7_work 32 = .ok (.iload_n 1, 1) := by decide +kernel
theorem dX7_work_33 : decode cX7_work 33 = .ok (.iconst 0, 1) := by decide +kernel
theorem dX7_work_34 : decode cX7_work 34 = .ok (.iconst 3, 1) := by decide +kernel
theorem dX7_work_35 : decode cX7_work 35 = .ok (.invokestatic 88, 3) := by decide +kernel
theorem dX7_work_38 : decode cX7_work 38 = .ok (.ifCond .ne 18, 3) := by decide +kernel
theorem dX7_work_41 : decode cX7_work 41 = .ok (.aload 5, 2) := by decide +kernel
theorem dX7_work_43 : decode cX7_work 43 = .ok (.ifnull 13, 3) := by decide +kernel
theorem dX7_work_46 : decode cX7_work 46 = .ok (.aload 6, 2) := by decide +kernel
theorem dX7_work_48 : decode cX7_work 48 = .ok (.ifnull 8, 3) := by decide +kernel
theorem dX7_work_51 : decode cX7_work 51 = .ok (.aload 7, 2) := by decide +kernel
theorem dX7_work_53 : decode cX7_work 53 = .ok (.ifnonnull 5, 3) := by decide +kernel
theorem dX7_work_56 : decode cX7_work 56 = .ok (.iconst (-1), 1) := by decide +kernel
theorem dX7_work_57 : decode cX7_work 57 = .ok (.ireturn, 1) := by decide +kernel
theorem dX7_work_58 : decode cX7_work 58 = .ok (.aload 6, 2) := by decide +kernel
theorem dX7_work_60 : decode cX7_work 60 = .ok (.getfield 236, 3) := by decide +kernel
theorem dX7_work_63 : decode cX7_work 63 = .ok (.ifCond .eq 11, 3) := by decide +kernel
theorem dX7_work_66 : decode cX7_work 66 = .ok (.aload 7, 2) := by decide +kernel
theorem dX7_work_68 : decode cX7_work 68 = .ok (.getfield 236, 3) := by decide +kernel
theorem dX7_work_71 : decode cX7_work 71 = .ok (.ifCond .ne 6, 3) := by decide +kernel
theorem dX7_work_74 : decode cX7_work 74 = .ok (.bipush (-2), 2) := by decide +kernel
theorem dX7_work_76 : decode cX7_work 76 = .ok (.ireturn, 1) := by decide +kernel
theorem dX7_work_77 : decode cX7_work 77 = .ok (.iload_n 1, 1) := by decide +kernel
theorem dX7_work_78 : decode cX7_work 78 = .ok (.ifCond .ne 21, 3) := by decide +kernel
theorem dX7_work_81 : decode cX7_work 81 = .ok (.aload_n 0, 1) := by decide +kernel
theorem dX7_work_82 : decode cX7_work 82 = .ok (.getfield 31, 3) := by decide +kernel
theorem dX7_work_85 : decode cX7_work 85 = .ok (.aload 6, 2) := by decide +kernel
theorem dX7_work_87 : decode cX7_work 87 = .ok (.aload 7, 2) := by decide +kernel
theorem dX7_work_89 : decode cX7_work 89 = .ok (.aload_n 0, 1) := by decide +kernel
theorem dX7_work_90 : decode cX7_work 90 = .ok (.getfield 38, 3) := by decide +kernel
theorem dX7_work_93 : decode cX7_work 93 = .ok (.invokevirtual 240, 3) := by decide +kernel
theorem dX7_work_96 : decode cX7_work 96 = .ok (.goto 64, 3) := by decide +kernel
theorem dX7_work_99 : decode cX7_work 99 = .ok (.iload_n 1, 1) := by decide +kernel
theorem dX7_work_100 : decode cX7_work 100 = .ok (.iconst 1, 1) := by decide +kernel
theorem dX7_work_101 : decode cX7_work 101 = .ok (.if_icmp .ne 17, 3) := by decide +kernel
theorem dX7_work_104 : decode cX7_work 104 = .ok (.aload_n 0, 1) := by decide +kernel
theorem dX7_work_105 : decode cX7_work 105 = .ok (.getfield 31, 3) := by decide +kernel
theorem dX7_work_108 : decode cX7_work 108 = .ok (.aload 6, 2) := by decide +kernel
theorem dX7_work_110 : decode cX7_work 110 = .ok (.aload 7, 2) := by decide +kernel
theorem dX7_work_112 : decode cX7_work 112 = .ok (.invokevirtual 244, 3) := by decide +kernel
theorem dX7_work_115 : decode cX7_work 115 = .ok (.goto 45, 3) := by decide +kernel
theorem dX7_work_118 : decode cX7_work 118 = .ok (.iload_n 1, 1) := by decide +kernel
theorem dX7_work_119 : decode cX7_work 119 = .ok (.iconst 2, 1) := by decide +kernel
theorem dX7_work_120 : decode cX7_work 120 = .ok (.if_icmp .ne 31, 3) := by decide +kernel
theorem dX7_work_123 : decode cX7_work 123 = .ok (.aload_n 0, 1) := by decide +kernel
theorem dX7_work_124 : decode cX7_work 124 = .ok (.getfield 31, 3) := by decide +kernel
theorem dX7_work_127 : decode cX7_work 127 = .ok (.aload_n 0, 1) := by decide +kernel
theorem dX7_work_128 : decode cX7_work 128 = .ok (.aload 6, 2) := by decide +kernel
theorem dX7_work_130 : decode cX7_work 130 = .ok (.aload 7, 2) := by decide +kernel
theorem dX7_work_132 : decode cX7_work 132 = .ok (.invokevirtual 248, 3) := by decide +kernel
theorem dX7_work_135 : decode cX7_work 135 = .ok (.ifCond .gt 8, 3) := by decide +kernel
theorem dX7_work_138 : decode cX7_work 138 = .ok (.aload 6, 2) := by decide +kernel
theorem dX7_work_140 : decode cX7_work 140 = .ok (.goto 5, 3) := by decide +kernel
theorem dX7_work_143 : decode cX7_work 143 = .ok (.aload 7, 2) := by decide +kernel
theorem dX7_work_145 : decode cX7_work 145 = .ok (.invokevirtual 204, 3) := by decide +kernel
theorem dX7_work_148 : decode cX7_work 148 = .ok (.goto 12, 3) := by decide +kernel
theorem dX7_work_151 : decode cX7_work 151 = .ok (.aload_n 0, 1) := by decide +kernel
theorem dX7_work_152 : decode cX7_work 152 = .ok (.getfield 31, 3) := by decide +kernel
theorem dX7_work_155 : decode cX7_work 155 = .ok (.aload 6, 2) := by decide +kernel
theorem dX7_work_157 : decode cX7_work 157 = .ok (.invokevirtual 252, 3) := by decide +kernel
theorem dX7_work_160 : decode cX7_work 160 = .ok (.aload_n 0, 1) := by decide +kernel
theorem dX7_work_161 : decode cX7_work 161 = .ok (.aload 5, 2) := by decide +kernel
theorem dX7_work_163 : decode cX7_work 163 = .ok (.invokevirtual 197, 3) := by decide +kernel
theorem dX7_work_166 : decode cX7_work 166 = .ok (.ireturn, 1) := by decide +kernel
theorem dX7_order_0 : decode cX7_order 0 = .ok (.aload_n 0, 1) := by decide +kernel
theorem dX7_order_1 : decode cX7_order 1 = .ok (.iload_n 1, 1) := by decide +kernel
theorem dX7_order_2 : decode cX7_order 2 = .ok (.invokevirtual 191, 3) := by decide +kernel
theorem dX7_order_5 : decode cX7_order 5 = .ok (.astore_n 3, 1) := by decide +kernel
theorem dX7_order_6 : decode cX7_order 6 = .ok (.aload_n 0, 1) := by decide +kernel
theorem dX7_order_7 : decode cX7_order 7 = .ok (.iload_n 2, 1) := by decide +kernel
theorem dX7_order_8 : decode cX7_order 8 = .ok (.invokevirtual 191, 3) := by decide +kernel
theorem dX7_order_11 : decode cX7_order 11 = .ok (.astore 4, 2) := by decide +kernel
theorem dX7_order_13 : decode cX7_order 13 = .ok (.aload_n 3, 1) := by decide +kernel
theorem dX7_order_14 : decode cX7_order 14 = .ok (.ifnull 8, 3) := by decide +kernel
theorem dX7_order_17 : decode cX7_order 17 = .ok (.aload 4, 2) := by decide +kernel
theorem dX7_order_19 : decode cX7_order 19 = .ok (.ifnonnull 5, 3) := by decide +kernel
theorem dX7_order_22 : decode cX7_order 22 = .ok (.iconst (-1), 1) := by decide +kernel
theorem dX7_order_23 : decode cX7_order 23 = .ok (.ireturn, 1) := by decide +kernel
theorem dX7_order_24 : decode cX7_order 24 = .ok (.aload_n 3, 1) := by decide +kernel
theorem dX7_order_25 : decode cX7_order 25 = .ok (.getfield 236, 3) := by decide +kernel
theorem dX7_order_28 : decode cX7_order 28 = .ok (.ifCond .eq 11, 3) := by decide +kernel
theorem dX7_order_31 : decode cX7_order 31 = .ok (.aload 4, 2) := by decide +kernel
theorem dX7_order_33 : decode cX7_order 33 = .ok (.getfield 236, 3) := by decide +kernel
theorem dX7_order_36 : decode cX7_order 36 = .ok (.ifCond .ne 6, 3) := by decide +kernel
theorem dX7_order_39 : decode cX7_order 39 = .ok (.bipush (-2), 2) := by decide +kernel
theorem dX7_order_41 : decode cX7_order 41 = .ok (.ireturn, 1) := by decide +kernel
theorem dX7_order_42 : decode cX7_order 42 = .ok (.aload_n 0, 1) := by decide +kernel
theorem dX7_order_43 : decode cX7_order 43 = .ok (.aload_n 3, 1) := by decide +kernel
theorem dX7_order_44 : decode cX7_order 44 = .ok (.aload 4, 2) := by decide +kernel
theorem dX7_order_46 : decode cX7_order 46 = .ok (.invokevirtual 248, 3) := by decide +kernel
theorem dX7_order_49 : decode cX7_order 49 = .ok (.iconst 1, 1) := by decide +kernel
theorem dX7_order_50 : decode cX7_order 50 = .ok (.iadd, 1) := by decide +kernel
theorem dX7_order_51 : decode cX7_order 51 = .ok (.ireturn, 1) := by decide +kernel
theorem dX7_limbs_0 : decode cX7_limbs 0 = .ok (.aload_n 0, 1) := by decide +kernel
theorem dX7_limbs_1 : decode cX7_limbs 1 = .ok (.iload_n 1, 1) := by decide +kernel
theorem dX7_limbs_2 : decode cX7_limbs 2 = .ok (.invokevirtual 191, 3) := by decide +kernel
theorem dX7_limbs_5 : decode cX7_limbs 5 = .ok (.astore_n 3, 1) := by decide +kernel
theorem dX7_limbs_6 : decode cX7_limbs 6 = .ok (.aload_n 3, 1) := by decide +kernel
theorem dX7_limbs_7 : decode cX7_limbs 7 = .ok (.ifnull 12, 3) := by decide +kernel
theorem dX7_limbs_10 : decode cX7_limbs 10 = .ok (.iload_n 2, 1) := by decide +kernel
theorem dX7_limbs_11 : decode cX7_limbs 11 = .ok (.iconst 0, 1) := by decide +kernel
theorem dX7_limbs_12 : decode cX7_limbs 12 = .ok (.iconst 1, 1) := by decide +kernel
theorem dX7_limbs_13 : decode cX7_limbs 13 = .ok (.invokestatic 88, 3) := by decide +kernel
theorem dX7_limbs_16 : decode cX7_limbs 16 = .ok (.ifCond .eq 5, 3) := by decide +kernel
theorem dX7_limbs_19 : decode cX7_limbs 19 = .ok (.iconst (-1), 1) := by decide +kernel
theorem dX7_limbs_20 : decode cX7_limbs 20 = .ok (.ireturn, 1) := by decide +kernel
theorem dX7_limbs_21 : decode cX7_limbs 21 = .ok (.aload_n 3, 1) := by decide +kernel
theorem dX7_limbs_22 : decode cX7_limbs 22 = .ok (.getfield 236, 3) := by decide +kernel
theorem dX7_limbs_25 : decode cX7_limbs 25 = .ok (.ifCond .ne 6, 3) := by decide +kernel
theorem dX7_limbs_28 : decode cX7_limbs 28 = .ok (.bipush (-2), 2) := by decide +kernel
theorem dX7_limbs_30 : decode cX7_limbs 30 = .ok (.ireturn, 1) := by decide +kernel
theorem dX7_limbs_31 : decode cX7_limbs 31 = .ok (.aload_n 3, 1) := by decide +kernel
theorem dX7_limbs_32 : decode cX7_limbs 32 = .ok (.iload_n 2, 1) := by decide +kernel
theorem dX7_limbs_33 : decode cX7_limbs 33 = .ok (.invokevirtual 255, 3) := by decide +kernel
theorem dX7_limbs_36 : decode cX7_limbs 36 = .ok (.getfield 121, 3) := by decide +kernel
theorem dX7_limbs_39 : decode cX7_limbs 39 = .ok (.ireturn, 1) := by decide +kernel
theorem dX7_limb_0 : decode cX7_limb 0 = .ok (.aload_n 0, 1) := by decide +kernel
theorem dX7_limb_1 : decode cX7_limb 1 = .ok (.iload_n 1, 1) := by decide +kernel
theorem dX7_limb_2 : decode cX7_limb 2 = .ok (.invokevirtual 191, 3) := by decide +kernel
theorem dX7_limb_5 : decode cX7_limb 5 = .ok (.astore 4, 2) := by decide +kernel
theorem dX7_limb_7 : decode cX7_limb 7 = .ok (.aload 4, 2) := by decide +kernel
theorem dX7_limb_9 : decode cX7_limb 9 = .ok (.ifnull 12, 3) := by decide +kernel
theorem dX7_limb_12 : decode cX7_limb 12 = .ok (.iload_n 2, 1) := by decide +kernel
theorem dX7_limb_13 : decode cX7_limb 13 = .ok (.iconst 0, 1) := by decide +kernel
theorem dX7_limb_14 : decode cX7_limb 14 = .ok (.iconst 1, 1) := by decide +kernel
theorem dX7_limb_15 : decode cX7_limb 15 = .ok (.invokestatic 88, 3) := by decide +kernel
theorem dX7_limb_18 : decode cX7_limb 18 = .ok (.ifCond .eq 7, 3) := by decide +kernel
theorem dX7_limb_21 : decode cX7_limb 21 = .ok (.ldc2_w 259, 3) := by decide +kernel
theorem dX7_limb_24 : decode cX7_limb 24 = .ok (.lreturn, 1) := by decide +kernel
theorem dX7_limb_25 : decode cX7_limb 25 = .ok (.aload 4, 2) := by decide +kernel
theorem dX7_limb_27 : decode cX7_limb 27 = .ok (.getfield 236, 3) := by decide +kernel
theorem dX7_limb_30 : decode cX7_limb 30 = .ok (.ifCond .ne 7, 3) := by decide +kernel
theorem dX7_limb_33 : decode cX7_limb 33 = .ok (.ldc2_w 261, 3) := by decide +kernel
theorem dX7_limb_36 : decode cX7_limb 36 = .ok (.lreturn, 1) := by decide +kernel
theorem dX7_limb_37 : decode cX7_limb 37 = .ok (.aload 4, 2) := by decide +kernel
theorem dX7_limb_39 : decode cX7_limb 39 = .ok (.iload_n 2, 1) := by decide +kernel
theorem dX7_limb_40 : decode cX7_limb 40 = .ok (.invokevirtual 255, 3) := by decide +kernel
theorem dX7_limb_43 : decode cX7_limb 43 = .ok (.astore 5, 2) := by decide +kernel
theorem dX7_limb_45 : decode cX7_limb 45 = .ok (.iload_n 3, 1) := by decide +kernel
theorem dX7_limb_46 : decode cX7_limb 46 = .ok (.ifCond .lt 12, 3) := by decide +kernel
theorem dX7_limb_49 : decode cX7_limb 49 = .ok (.iload_n 3, 1) := by decide +kernel
theorem dX7_limb_50 : decode cX7_limb 50 = .ok (.aload 5, 2) := by decide +kernel
theorem dX7_limb_52 : decode cX7_limb 52 = .ok (.getfield 121, 3) := by decide +kernel
theorem dX7_limb_55 : decode cX7_limb 55 = .ok (.if_icmp .lt 9, 3) := by decide +kernel
theorem dX7_limb_58 : decode cX7_limb 58 = .ok (.ldc2_w 263, 3) := by decide +kernel
theorem dX7_limb_61 : decode cX7_limb 61 = .ok (.goto 9, 3) := by decide +kernel
theorem dX7_limb_64 : decode cX7_limb 64 = .ok (.aload 5, 2) := by decide +kernel
theorem dX7_limb_66 : decode cX7_limb 66 = .ok (.iload_n 3, 1) := by decide +kernel
theorem dX7_limb_67 : decode cX7_limb 67 = .ok (.invokevirtual 183, 3) := by decide +kernel
theorem dX7_limb_70 : decode cX7_limb 70 = .ok (.lreturn, 1) := by decide +kernel
theorem dX7_digits_0 : decode cX7_digits 0 = .ok (.aload_n 0, 1) := by decide +kernel
theorem dX7_digits_1 : decode cX7_digits 1 = .ok (.iload_n 1, 1) := by decide +kernel
theorem dX7_digits_2 : decode cX7_digits 2 = .ok (.invokevirtual 191, 3) := by decide +kernel
theorem dX7_digits_5 : decode cX7_digits 5 = .ok (.astore_n 3, 1) := by decide +kernel
theorem dX7_digits_6 : decode cX7_digits 6 = .ok (.aload_n 3, 1) := by decide +kernel
theorem dX7_digits_7 : decode cX7_digits 7 = .ok (.ifnull 13, 3) := by decide +kernel
theorem dX7_digits_10 : decode cX7_digits 10 = .ok (.iload_n 2, 1) := by decide +kernel
theorem dX7_digits_11 : decode cX7_digits 11 = .ok (.iconst 0, 1) := by decide +kernel
theorem dX7_digits_12 : decode cX7_digits 12 = .ok (.bipush 18, 2) := by decide +kernel
theorem dX7_digits_14 : decode cX7_digits 14 = .ok (.invokestatic 88, 3) := by decide +kernel
theorem dX7_digits_17 : decode cX7_digits 17 = .ok (.ifCond .eq 7, 3) := by decide +kernel
theorem dX7_digits_20 : decode cX7_digits 20 = .ok (.ldc2_w 259, 3) := by decide +kernel
theorem dX7_digits_23 : decode cX7_digits 23 = .ok (.lreturn, 1) := by decide +kernel
theorem dX7_digits_24 : decode cX7_digits 24 = .ok (.aload_n 3, 1) := by decide +kernel
theorem dX7_digits_25 : decode cX7_digits 25 = .ok (.getfield 236, 3) := by decide +kernel
theorem dX7_digits_28 : decode cX7_digits 28 = .ok (.ifCond .ne 7, 3) := by decide +kernel
theorem dX7_digits_31 : decode cX7_digits 31 = .ok (.ldc2_w 261, 3) := by decide +kernel
theorem dX7_digits_34 : decode cX7_digits 34 = .ok (.lreturn, 1) := by decide +kernel
theorem dX7_digits_35 : decode cX7_digits 35 = .ok (.aload_n 0, 1) := by decide +kernel
theorem dX7_digits_36 : decode cX7_digits 36 = .ok (.getfield 38, 3) := by decide +kernel
theorem dX7_digits_39 : decode cX7_digits 39 = .ok (.aload_n 3, 1) := by decide +kernel
theorem dX7_digits_40 : decode cX7_digits 40 = .ok (.getfield 108, 3) := by decide +kernel
theorem dX7_digits_43 : decode cX7_digits 43 = .ok (.invokevirtual 265, 3) := by decide +kernel
theorem dX7_digits_46 : decode cX7_digits 46 = .ok (.iconst 0, 1) := by decide +kernel
theorem dX7_digits_47 : decode cX7_digits 47 = .ok (.istore 4, 2) := by decide +kernel
theorem dX7_digits_49 : decode cX7_digits 49 = .ok (.iload 4, 2) := by decide +kernel
theorem dX7_digits_51 : decode cX7_digits 51 = .ok (.iload_n 2, 1) := by decide +kernel
theorem dX7_digits_52 : decode cX7_digits 52 = .ok (.if_icmp .ge 19, 3) := by decide +kernel
theorem dX7_digits_55 : decode cX7_digits 55 = .ok (.aload_n 0, 1) := by decide +kernel
theorem dX7_digits_56 : decode cX7_digits 56 = .ok (.getfield 38, 3) := by decide +kernel
theorem dX7_digits_59 : decode cX7_digits 59 = .ok (.ldc2_w 268, 3) := by decide +kernel
theorem dX7_digits_62 : decode cX7_digits 62 = .ok (.invokevirtual 270, 3) := by decide +kernel
theorem dX7_digits_65 : decode cX7_digits 65 = .ok (.iinc 4 1, 3) := by decide +kernel
theorem dX7_digits_68 : decode cX7_digits 68 = .ok (.goto (-19), 3) := by decide +kernel
theorem dX7_digits_71 : decode cX7_digits 71 = .ok (.aload_n 0, 1) := by decide +kernel
theorem dX7_digits_72 : decode cX7_digits 72 = .ok (.getfield 45, 3) := by decide +kernel
theorem dX7_digits_75 : decode cX7_digits 75 = .ok (.aload_n 0, 1) := by decide +kernel
theorem dX7_digits_76 : decode cX7_digits 76 = .ok (.getfield 38, 3) := by decide +kernel
theorem dX7_digits_79 : decode cX7_digits 79 = .ok (.aload_n 3, 1) := by decide +kernel
theorem dX7_digits_80 : decode cX7_digits 80 = .ok (.getfield 273, 3) := by decide +kernel
theorem dX7_digits_83 : decode cX7_digits 83 = .ok (.invokevirtual 276, 3) := by decide +kernel
theorem dX7_digits_86 : decode cX7_digits 86 = .ok (.astore 4, 2) := by decide +kernel
theorem dX7_digits_88 : decode cX7_digits 88 = .ok (.aload 4, 2) := by decide +kernel
theorem dX7_digits_90 : decode cX7_digits 90 = .ok (.invokevirtual 153, 3) := by decide +kernel
theorem dX7_digits_93 : decode cX7_digits 93 = .ok (.bipush 63, 2) := by decide +kernel
theorem dX7_digits_95 : decode cX7_digits 95 = .ok (.if_icmp .le 9, 3) := by decide +kernel
theorem dX7_digits_98 : decode cX7_digits 98 = .ok (.ldc2_w 280, 3) := by decide +kernel
theorem dX7_digits_101 : decode cX7_digits 101 = .ok (.goto 8, 3) := by decide +kernel
theorem dX7_digits_104 : decode cX7_digits 104 = .ok (.aload 4, 2) := by decide +kernel
theorem dX7_digits_106 : decode cX7_digits 106 = .ok (.invokevirtual 282, 3) := by decide +kernel
theorem dX7_digits_109 : decode cX7_digits 109 = .ok (.lreturn, 1) := by decide +kernel
theorem dX7_free_0 : decode cX7_free 0 = .ok (.aload_n 0, 1) := by decide +kernel
theorem dX7_free_1 : decode cX7_free 1 = .ok (.iload_n 1, 1) := by decide +kernel
theorem dX7_free_2 : decode cX7_free 2 = .ok (.invokevirtual 191, 3) := by decide +kernel
theorem dX7_free_5 : decode cX7_free 5 = .ok (.astore_n 2, 1) := by decide +kernel
theorem dX7_free_6 : decode cX7_free 6 = .ok (.aload_n 2, 1) := by decide +kernel
theorem dX7_free_7 : decode cX7_free 7 = .ok (.ifnonnull 5, 3) := by decide +kernel
theorem dX7_free_10 : decode cX7_free 10 = .ok (.iconst (-1), 1) := by decide +kernel
theorem dX7_free_11 : decode cX7_free 11 = .ok (.ireturn, 1) := by decide +kernel
theorem dX7_free_12 : decode cX7_free 12 = .ok (.aload_n 2, 1) := by decide +kernel
theorem dX7_free_13 : decode cX7_free 13 = .ok (.getfield 236, 3) := by decide +kernel
theorem dX7_free_16 : decode cX7_free 16 = .ok (.ifCond .eq 7, 3) := by decide +kernel
theorem dX7_free_19 : decode cX7_free 19 = .ok (.iconst 1, 1) := by decide +kernel
theorem dX7_free_20 : decode cX7_free 20 = .ok (.goto 4, 3) := by decide +kernel
theorem dX7_free_23 : decode cX7_free 23 = .ok (.iconst 0, 1) := by decide +kernel
theorem dX7_free_24 : decode cX7_free 24 = .ok (.istore_n 3, 1) := by decide +kernel
theorem dX7_free_25 : decode cX7_free 25 = .ok (.aload_n 2, 1) := by decide +kernel
theorem dX7_free_26 : decode cX7_free 26 = .ok (.iconst 0, 1) := by decide +kernel
theorem dX7_free_27 : decode cX7_free 27 = .ok (.putfield 236, 3) := by decide +kernel
theorem dX7_free_30 : decode cX7_free 30 = .ok (.iload_n 3, 1) := by decide +kernel
theorem dX7_free_31 : decode cX7_free 31 = .ok (.ireturn, 1) := by decide +kernel
theorem dX7_coin_0 : decode cX7_coin 0 = .ok (.iload_n 1, 1) := by decide +kernel
theorem dX7_coin_1 : decode cX7_coin 1 = .ok (.iload_n 2, 1) := by decide +kernel
theorem dX7_coin_2 : decode cX7_coin 2 = .ok (.invokestatic 92, 3) := by decide +kernel
theorem dX7_coin_5 : decode cX7_coin 5 = .ok (.ifCond .eq 5, 3) := by decide +kernel
theorem dX7_coin_8 : decode cX7_coin 8 = .ok (.iconst (-1), 1) := by decide +kernel
theorem dX7_coin_9 : decode cX7_coin 9 = .ok (.ireturn, 1) := by decide +kernel
theorem dX7_coin_10 : decode cX7_coin 10 = .ok (.aload_n 0, 1) := by decide +kernel
theorem dX7_coin_11 : decode cX7_coin 11 = .ok (.iload_n 1, 1) := by decide +kernel
theorem dX7_coin_12 : decode cX7_coin 12 = .ok (.putfield 73, 3) := by decide +kernel
theorem dX7_coin_15 : decode cX7_coin 15 = .ok (.aload_n 0, 1) := by decide +kernel
theorem dX7_coin_16 : decode cX7_coin 16 = .ok (.iload_n 2, 1) := by decide +kernel
theorem dX7_coin_17 : decode cX7_coin 17 = .ok (.putfield 76, 3) := by decide +kernel
theorem dX7_coin_20 : decode cX7_coin 20 = .ok (.iconst 1, 1) := by decide +kernel
theorem dX7_coin_21 : decode cX7_coin 21 = .ok (.ireturn, 1) := by decide +kernel
theorem dX7_needed_0 : decode cX7_needed 0 = .ok (.iload_n 1, 1) := by decide +kernel
theorem dX7_needed_1 : decode cX7_needed 1 = .ok (.iconst 0, 1) := by decide +kernel
theorem dX7_needed_2 : decode cX7_needed 2 = .ok (.iconst 1, 1) := by decide +kernel
theorem dX7_needed_3 : decode cX7_needed 3 = .ok (.invokestatic 88, 3) := by decide +kernel
theorem dX7_needed_6 : decode cX7_needed 6 = .ok (.ifCond .ne 23, 3) := by decide +kernel
theorem dX7_needed_9 : decode cX7_needed 9 = .ok (.iload_n 2, 1) := by decide +kernel
theorem dX7_needed_10 : decode cX7_needed 10 = .ok (.iconst 1, 1) := by decide +kernel
theorem dX7_needed_11 : decode cX7_needed 11 = .ok (.bipush 100, 2) := by decide +kernel
theorem dX7_needed_13 : decode cX7_needed 13 = .ok (.invokestatic 88, 3) := by decide +kernel
theorem dX7_needed_16 : decode cX7_needed 16 = .ok (.ifCond .ne 13, 3) := by decide +kernel
theorem dX7_needed_19 : decode cX7_needed 19 = .ok (.iload 5, 2) := by decide +kernel
theorem dX7_needed_21 : decode cX7_needed 21 = .ok (.iconst 0, 1) := by decide +kernel
theorem dX7_needed_22 : decode cX7_needed 22 = .ok (.iconst 1, 1) := by decide +kernel
theorem dX7_needed_23 : decode cX7_needed 23 = .ok (.invokestatic 88, 3) := by decide +kernel
theorem dX7_needed_26 : decode cX7_needed 26 = .ok (.ifCond .eq 5, 3) := by decide +kernel
theorem dX7_needed_29 : decode cX7_needed 29 = .ok (.iconst (-1), 1) := by decide +kernel
theorem dX7_needed_30 : decode cX7_needed 30 = .ok (.ireturn, 1) := by decide +kernel
theorem dX7_needed_31 : decode cX7_needed 31 = .ok (.iload_n 3, 1) := by decide +kernel
theorem dX7_needed_32 : decode cX7_needed 32 = .ok (.iconst 0, 1) := by decide +kernel
theorem dX7_needed_33 : decode cX7_needed 33 = .ok (.ldc_w 286, 3) := by decide +kernel
theorem dX7_needed_36 : decode cX7_needed 36 = .ok (.invokestatic 88, 3) := by decide +kernel
theorem dX7_needed_39 : decode cX7_needed 39 = .ok (.ifCond .ne 15, 3) := by decide +kernel
theorem dX7_needed_42 : decode cX7_needed 42 = .ok (.iload 4, 2) := by decide +kernel
theorem dX7_needed_44 : decode cX7_needed 44 = .ok (.iconst 1, 1) := by decide +kernel
theorem dX7_needed_45 : decode cX7_needed 45 = .ok (.ldc_w 286, 3) := by decide +kernel
theorem dX7_needed_48 : decode cX7_needed 48 = .ok (.invokestatic 88, 3) := by decide +kernel
theorem dX7_needed_51 : decode cX7_needed 51 = .ok (.ifCond .eq 5, 3) := by decide +kernel
theorem dX7_needed_54 : decode cX7_needed 54 = .ok (.iconst (-1), 1) := by decide +kernel
theorem dX7_needed_55 : decode cX7_needed 55 = .ok (.ireturn, 1) := by decide +kernel
theorem dX7_needed_56 : decode cX7_needed 56 = .ok (.bipush (-5), 2) := by decide +kernel
theorem dX7_needed_58 : decode cX7_needed 58 = .ok (.istore 6, 2) := by decide +kernel
theorem dX7_needed_60 : decode cX7_needed 60 = .ok (.aload_n 0, 1) := by decide +kernel
theorem dX7_needed_61 : decode cX7_needed 61 = .ok (.getfield 59, 3) := by decide +kernel
theorem dX7_needed_64 : decode cX7_needed 64 = .ok (.aload_n 0, 1) := by decide +kernel
theorem dX7_needed_65 : decode cX7_needed 65 = .ok (.getfield 73, 3) := by decide +kernel
theorem dX7_needed_68 : decode cX7_needed 68 = .ok (.aload_n 0, 1) := by decide +kernel
theorem dX7_needed_69 : decode cX7_needed 69 = .ok (.getfield 76, 3) := by decide +kernel
theorem dX7_needed_72 : decode cX7_needed 72 = .ok (.invokevirtual 287, 3) := by decide +kernel
theorem dX7_needed_75 : decode cX7_needed 75 = .ok (.iconst 1, 1) := by decide +kernel
theorem dX7_needed_76 : decode cX7_needed 76 = .ok (.istore 7, 2) := by decide +kernel
theorem dX7_needed_78 : decode cX7_needed 78 = .ok (.iload 7, 2) := by decide +kernel
theorem dX7_needed_80 : decode cX7_needed 80 = .ok (.bipush 40, 2) := by decide +kernel
theorem dX7_needed_82 : decode cX7_needed 82 = .ok (.if_icmp .gt 75, 3) := by decide +kernel
theorem dX7_needed_85 : decode cX7_needed 85 = .ok (.iload_n 1, 1) := by decide +kernel
theorem dX7_needed_86 : decode cX7_needed 86 = .ok (.ifCond .ne 17, 3) := by decide +kernel
theorem dX7_needed_89 : decode cX7_needed 89 = .ok (.aload_n 0, 1) := by decide +kernel
theorem dX7_needed_90 : decode cX7_needed 90 = .ok (.getfield 59, 3) := by decide +kernel
theorem dX7_needed_93 : decode cX7_needed 93 = .ok (.iload_n 2, 1) := by decide +kernel
theorem dX7_needed_94 : decode cX7_needed 94 = .ok (.iload_n 3, 1) := by decide +kernel
theorem dX7_needed_95 : decode cX7_needed 95 = .ok (.iload 4, 2) := by decide +kernel
theorem dX7_needed_97 : decode cX7_needed 97 = .ok (.invokevirtual 290, 3) := by decide +kernel
theorem dX7_needed_100 : decode cX7_needed 100 = .ok (.goto 13, 3) := by decide +kernel
theorem dX7_needed_103 : decode cX7_needed 103 = .ok (.aload_n 0, 1) := by decide +kernel
theorem dX7_needed_104 : decode cX7_needed 104 = .ok (.iload 7, 2) := by decide +kernel
theorem dX7_needed_106 : decode cX7_needed 106 = .ok (.iload_n 2, 1) := by decide +kernel
theorem dX7_needed_107 : decode cX7_needed 107 = .ok (.iload_n 3, 1) := by decide +kernel
theorem dX7_needed_108 : decode cX7_needed 108 = .ok (.iload 4, 2) := by decide +kernel
theorem dX7_needed_110 : decode cX7_needed 110 = .ok (.invokevirtual 293, 3) := by decide +kernel
theorem dX7_needed_113 : decode cX7_needed 113 = .ok (.istore 8, 2) := by decide +kernel
theorem dX7_needed_115 : decode cX7_needed 115 = .ok (.iload 8, 2) := by decide +kernel
theorem dX7_needed_117 : decode cX7_needed 117 = .ok (.ifCond .eq 11, 3) := by decide +kernel
theorem dX7_needed_120 : decode cX7_needed 120 = .ok (.iload 5, 2) := by decide +kernel
theorem dX7_needed_122 : decode cX7_needed 122 = .ok (.ifCond .ne 6, 3) := by decide +kernel
theorem dX7_needed_125 : decode cX7_needed 125 = .ok (.iload 7, 2) := by decide +kernel
theorem dX7_needed_127 : decode cX7_needed 127 = .ok (.ireturn, 1) := by decide +kernel
theorem dX7_needed_128 : decode cX7_needed 128 = .ok (.iload 8, 2) := by decide +kernel
theorem dX7_needed_130 : decode cX7_needed 130 = .ok (.ifCond .ne 10, 3) := by decide +kernel
theorem dX7_needed_133 : decode cX7_needed 133 = .ok (.bipush (-5), 2) := by decide +kernel
theorem dX7_needed_135 : decode cX7_needed 135 = .ok (.istore 6, 2) := by decide +kernel
theorem dX7_needed_137 : decode cX7_needed 137 = .ok (.goto 14, 3) := by decide +kernel
theorem dX7_needed_140 : decode cX7_needed 140 = .ok (.iload 6, 2) := by decide +kernel
theorem dX7_needed_142 : decode cX7_needed 142 = .ok (.bipush (-5), 2) := by decide +kernel
theorem dX7_needed_144 : decode cX7_needed 144 = .ok (.if_icmp .ne 7, 3) := by decide +kernel
theorem dX7_needed_147 : decode cX7_needed 147 = .ok (.iload 7, 2) := by decide +kernel
theorem dX7_needed_149 : decode cX7_needed 149 = .ok (.istore 6, 2) := by decide +kernel
theorem dX7_needed_151 : decode cX7_needed 151 = .ok (.iinc 7 1, 3) := by decide +kernel
theorem dX7_needed_154 : decode cX7_needed 154 = .ok (.goto (-76), 3) := by decide +kernel
theorem dX7_needed_157 : decode cX7_needed 157 = .ok (.iload 6, 2) := by decide +kernel
theorem dX7_needed_159 : decode cX7_needed 159 = .ok (.ireturn, 1) := by decide +kernel
theorem dX7_line_0 : decode cX7_line 0 = .ok (.iload_n 1, 1) := by decide +kernel
theorem dX7_line_1 : decode cX7_line 1 = .ok (.iconst 0, 1) := by decide +kernel
theorem dX7_line_2 : decode cX7_line 2 = .ok (.bipush 60, 2) := by decide +kernel
theorem dX7_line_4 : decode cX7_line 4 = .ok (.invokestatic 88, 3) := by decide +kernel
theorem dX7_line_7 : decode cX7_line 7 = .ok (.ifCond .ne 23, 3) := by decide +kernel
theorem dX7_line_10 : decode cX7_line 10 = .ok (.iload_n 2, 1) := by decide +kernel
theorem dX7_line_11 : decode cX7_line 11 = .ok (.iconst 0, 1) := by decide +kernel
theorem dX7_line_12 : decode cX7_line 12 = .ok (.bipush 60, 2) := by decide +kernel
theorem dX7_line_14 : decode cX7_line 14 = .ok (.invokestatic 88, 3) := by decide +kernel
theorem dX7_line_17 : decode cX7_line 17 = .ok (.ifCond .ne 13, 3) := by decide +kernel
theorem dX7_line_20 : decode cX7_line 20 = .ok (.iload_n 3, 1) := by decide +kernel
theorem dX7_line_21 : decode cX7_line 21 = .ok (.iconst 1, 1) := by decide +kernel
theorem dX7_line_22 : decode cX7_line 22 = .ok (.bipush 60, 2) := by decide +kernel
theorem dX7_line_24 : decode cX7_line 24 = .ok (.invokestatic 88, 3) := by decide +kernel
theorem dX7_line_27 : decode cX7_line 27 = .ok (.ifCond .eq 5, 3) := by decide +kernel
theorem dX7_line_30 : decode cX7_line 30 = .ok (.iconst (-1), 1) := by decide +kernel
theorem dX7_line_31 : decode cX7_line 31 = .ok (.ireturn, 1) := by decide +kernel
theorem dX7_line_32 : decode cX7_line 32 = .ok (.aload_n 0, 1) := by decide +kernel
theorem dX7_line_33 : decode cX7_line 33 = .ok (.iload_n 1, 1) := by decide +kernel
theorem dX7_line_34 : decode cX7_line 34 = .ok (.putfield 79, 3) := by decide +kernel
theorem dX7_line_37 : decode cX7_line 37 = .ok (.aload_n 0, 1) := by decide +kernel
theorem dX7_line_38 : decode cX7_line 38 = .ok (.iload_n 2, 1) := by decide +kernel
theorem dX7_line_39 : decode cX7_line 39 = .ok (.putfield 82, 3) := by decide +kernel
theorem dX7_line_42 : decode cX7_line 42 = .ok (.aload_n 0, 1) := by decide +kernel
theorem dX7_line_43 : decode cX7_line 43 = .ok (.iload_n 3, 1) := by decide +kernel
theorem dX7_line_44 : decode cX7_line 44 = .ok (.putfield 85, 3) := by decide +kernel
theorem dX7_line_47 : decode cX7_line 47 = .ok (.iconst 1, 1) := by decide +kernel
theorem dX7_line_48 : decode cX7_line 48 = .ok (.ireturn, 1) := by decide +kernel
theorem dX7_crossed_0 : decode cX7_crossed 0 = .ok (.aload_n 0, 1) := by decide +kernel
theorem dX7_crossed_1 : decode cX7_crossed 1 = .ok (.iload_n 1, 1) := by decide +kernel
theorem dX7_crossed_2 : decode cX7_crossed 2 = .ok (.invokevirtual 191, 3) := by decide +kernel
theorem dX7_crossed_5 : decode cX7_crossed 5 = .ok (.astore 4, 2) := by decide +kernel
theorem dX7_crossed_7 : decode cX7_crossed 7 = .ok (.aload 4, 2) := by decide +kernel
theorem dX7_crossed_9 : decode cX7_crossed 9 = .ok (.ifnull 22, 3) := by decide +kernel
theorem dX7_crossed_12 : decode cX7_crossed 12 = .ok (.iload_n 2, 1) := by decide +kernel
theorem dX7_crossed_13 : decode cX7_crossed 13 = .ok (.iconst 0, 1) := by decide +kernel
theorem dX7_crossed_14 : decode cX7_crossed 14 = .ok (.iconst 2, 1) := by decide +kernel
theorem dX7_crossed_15 : decode cX7_crossed 15 = .ok (.invokestatic 88, 3) := by decide +kernel
theorem dX7_crossed_18 : decode cX7_crossed 18 = .ok (.ifCond .ne 13, 3) := by decide +kernel
theorem dX7_crossed_21 : decode cX7_crossed 21 = .ok (.iload_n 3, 1) := by decide +kernel
theorem dX7_crossed_22 : decode cX7_crossed 22 = .ok (.iconst 1, 1) := by decide +kernel
theorem dX7_crossed_23 : decode cX7_crossed 23 = .ok (.bipush 40, 2) := by decide +kernel
theorem dX7_crossed_25 : decode cX7_crossed 25 = .ok (.invokestatic 88, 3) := by decide +kernel
theorem dX7_crossed_28 : decode cX7_crossed 28 = .ok (.ifCond .eq 5, 3) := by decide +kernel
theorem dX7_crossed_31 : decode cX7_crossed 31 = .ok (.iconst (-1), 1) := by decide +kernel
theorem dX7_crossed_32 : decode cX7_crossed 32 = .ok (.ireturn, 1) := by decide +kernel
theorem dX7_crossed_33 : decode cX7_crossed 33 = .ok (.aload_n 0, 1) := by decide +kernel
theorem dX7_crossed_34 : decode cX7_crossed 34 = .ok (.getfield 59, 3) := by decide +kernel
theorem dX7_crossed_37 : decode cX7_crossed 37 = .ok (.aload_n 0, 1) := by decide +kernel
theorem dX7_crossed_38 : decode cX7_crossed 38 = .ok (.getfield 73, 3) := by decide +kernel
theorem dX7_crossed_41 : decode cX7_crossed 41 = .ok (.aload_n 0, 1) := by decide +kernel
theorem dX7_crossed_42 : decode cX7_crossed 42 = .ok (.getfield 76, 3) := by decide +kernel
theorem dX7_crossed_45 : decode cX7_crossed 45 = .ok (.invokevirtual 287, 3) := by decide +kernel
theorem dX7_crossed_48 : decode cX7_crossed 48 = .ok (.aload_n 0, 1) := by decide +kernel
theorem dX7_crossed_49 : decode cX7_crossed 49 = .ok (.getfield 31, 3) := by decide +kernel
theorem dX7_crossed_52 : decode cX7_crossed 52 = .ok (.getfield 108, 3) := by decide +kernel
theorem dX7_crossed_55 : decode cX7_crossed 55 = .ok (.invokevirtual 297, 3) := by decide +kernel
theorem dX7_crossed_58 : decode cX7_crossed 58 = .ok (.iconst 1, 1) := by decide +kernel
theorem dX7_crossed_59 : decode cX7_crossed 59 = .ok (.istore 5, 2) := by decide +kernel
theorem dX7_crossed_61 : decode cX7_crossed 61 = .ok (.iload 5, 2) := by decide +kernel
theorem dX7_crossed_63 : decode cX7_crossed 63 = .ok (.iload_n 3, 1) := by decide +kernel
theorem dX7_crossed_64 : decode cX7_crossed 64 = .ok (.if_icmp .gt 96, 3) := by decide +kernel
theorem dX7_crossed_67 : decode cX7_crossed 67 = .ok (.aload_n 0, 1) := by decide +kernel
theorem dX7_crossed_68 : decode cX7_crossed 68 = .ok (.getfield 31, 3) := by decide +kernel
theorem dX7_crossed_71 : decode cX7_crossed 71 = .ok (.getfield 108, 3) := by decide +kernel
theorem dX7_crossed_74 : decode cX7_crossed 74 = .ok (.iload_n 2, 1) := by decide +kernel
theorem dX7_crossed_75 : decode cX7_crossed 75 = .ok (.iconst 1, 1) := by decide +kernel
theorem dX7_crossed_76 : decode cX7_crossed 76 = .ok (.if_icmp .ne 7, 3) := by decide +kernel
theorem dX7_crossed_79 : decode cX7_crossed 79 = .ok (.lconst 0, 1) := by decide +kernel
theorem dX7_crossed_80 : decode cX7_crossed 80 = .ok (.goto 8, 3) := by decide +kernel
theorem dX7_crossed_83 : decode cX7_crossed 83 = .ok (.aload_n 0, 1) := by decide +kernel
theorem dX7_crossed_84 : decode cX7_crossed 84 = .ok (.getfield 76, 3) := by decide +kernel
theorem dX7_crossed_87 : decode cX7_crossed 87 = .ok (.i2l, 1) := by decide +kernel
theorem dX7_crossed_88 : decode cX7_crossed 88 = .ok (.invokevirtual 270, 3) := by decide +kernel
theorem dX7_crossed_91 : decode cX7_crossed 91 = .ok (.aload_n 0, 1) := by decide +kernel
theorem dX7_crossed_92 : decode cX7_crossed 92 = .ok (.getfield 59, 3) := by decide +kernel
theorem dX7_crossed_95 : decode cX7_crossed 95 = .ok (.invokevirtual 300, 3) := by decide +kernel
theorem dX7_crossed_98 : decode cX7_crossed 98 = .ok (.aload_n 0, 1) := by decide +kernel
theorem dX7_crossed_99 : decode cX7_crossed 99 = .ok (.getfield 79, 3) := by decide +kernel
theorem dX7_crossed_102 : decode cX7_crossed 102 = .ok (.aload_n 0, 1) := by decide +kernel
theorem dX7_crossed_103 : decode cX7_crossed 103 = .ok (.getfield 82, 3) := by decide +kernel
theorem dX7_crossed_106 : decode cX7_crossed 106 = .ok (.iload 5, 2) := by decide +kernel
theorem dX7_crossed_108 : decode cX7_crossed 108 = .ok (.imul, 1) := by decide +kernel
theorem dX7_crossed_109 : decode cX7_crossed 109 = .ok (.aload_n 0, 1) := by decide +kernel
theorem dX7_crossed_110 : decode cX7_crossed 110 = .ok (.getfield 85, 3) := by decide +kernel
theorem dX7_crossed_113 : decode cX7_crossed 113 = .ok (.iadd, 1) := by decide +kernel
theorem dX7_crossed_114 : decode cX7_crossed 114 = .ok (.iconst 1, 1) := by decide +kernel
theorem dX7_crossed_115 : decode cX7_crossed 115 = .ok (.isub, 1) := by decide +kernel
theorem dX7_crossed_116 : decode cX7_crossed 116 = .ok (.aload_n 0, 1) := by decide +kernel
theorem dX7_crossed_117 : decode cX7_crossed 117 = .ok (.getfield 85, 3) := by decide +kernel
theorem dX7_crossed_120 : decode cX7_crossed 120 = .ok (.iconst 1, 1) := by decide +kernel
theorem dX7_crossed_121 : decode cX7_crossed 121 = .ok (.invokestatic 170, 3) := by decide +kernel
theorem dX7_crossed_124 : decode cX7_crossed 124 = .ok (.idiv, 1) := by decide +kernel
theorem dX7_crossed_125 : decode cX7_crossed 125 = .ok (.iadd, 1) := by decide +kernel
theorem dX7_crossed_126 : decode cX7_crossed 126 = .ok (.istore 6, 2) := by decide +kernel
theorem dX7_crossed_128 : decode cX7_crossed 128 = .ok (.aload_n 0, 1) := by decide +kernel
theorem dX7_crossed_129 : decode cX7_crossed 129 = .ok (.getfield 59, 3) := by decide +kernel
theorem dX7_crossed_132 : decode cX7_crossed 132 = .ok (.iload 6, 2) := by decide +kernel
theorem dX7_crossed_134 : decode cX7_crossed 134 = .ok (.iload_n 2, 1) := by decide +kernel
theorem dX7_crossed_135 : decode cX7_crossed 135 = .ok (.iconst 2, 1) := by decide +kernel
theorem dX7_crossed_136 : decode cX7_crossed 136 = .ok (.if_icmp .eq 7, 3) := by decide +kernel
theorem dX7_crossed_139 : decode cX7_crossed 139 = .ok (.iconst 1, 1) := by decide +kernel
theorem dX7_crossed_140 : decode cX7_crossed 140 = .ok (.goto 4, 3) := by decide +kernel
theorem dX7_crossed_143 : decode cX7_crossed 143 = .ok (.iconst 0, 1) := by decide +kernel
theorem dX7_crossed_144 : decode cX7_crossed 144 = .ok (.aload_n 0, 1) := by decide +kernel
theorem dX7_crossed_145 : decode cX7_crossed 145 = .ok (.getfield 31, 3) := by decide +kernel
theorem dX7_crossed_148 : decode cX7_crossed 148 = .ok (.getfield 108, 3) := by decide +kernel
theorem dX7_crossed_151 : decode cX7_crossed 151 = .ok (.invokevirtual 303, 3) := by decide +kernel
theorem dX7_crossed_154 : decode cX7_crossed 154 = .ok (.iinc 5 1, 3) := by decide +kernel
theorem dX7_crossed_157 : decode cX7_crossed 157 = .ok (.goto (-96), 3) := by decide +kernel
theorem dX7_crossed_160 : decode cX7_crossed 160 = .ok (.aload_n 0, 1) := by decide +kernel
theorem dX7_crossed_161 : decode cX7_crossed 161 = .ok (.getfield 31, 3) := by decide +kernel
theorem dX7_crossed_164 : decode cX7_crossed 164 = .ok (.getfield 273, 3) := by decide +kernel
theorem dX7_crossed_167 : decode cX7_crossed 167 = .ok (.aload_n 0, 1) := by decide +kernel
theorem dX7_crossed_168 : decode cX7_crossed 168 = .ok (.getfield 59, 3) := by decide +kernel
theorem dX7_crossed_171 : decode cX7_crossed 171 = .ok (.getfield 306, 3) := by decide +kernel
theorem dX7_crossed_174 : decode cX7_crossed 174 = .ok (.invokevirtual 265, 3) := by decide +kernel
theorem dX7_crossed_177 : decode cX7_crossed 177 = .ok (.aload_n 0, 1) := by decide +kernel
theorem dX7_crossed_178 : decode cX7_crossed 178 = .ok (.getfield 31, 3) := by decide +kernel
theorem dX7_crossed_181 : decode cX7_crossed 181 = .ok (.invokevirtual 233, 3) := by decide +kernel
theorem dX7_crossed_184 : decode cX7_crossed 184 = .ok (.aload_n 0, 1) := by decide +kernel
theorem dX7_crossed_185 : decode cX7_crossed 185 = .ok (.aload 4, 2) := by decide +kernel
theorem dX7_crossed_187 : decode cX7_crossed 187 = .ok (.invokevirtual 197, 3) := by decide +kernel
theorem dX7_crossed_190 : decode cX7_crossed 190 = .ok (.ireturn, 1) := by decide +kernel
theorem dX7_count_0 : decode cX7_count 0 = .ok (.iload_n 1, 1) := by decide +kernel
theorem dX7_count_1 : decode cX7_count 1 = .ok (.tableswitch 42 0 2 #[27, 32, 37], 27) := by decide +kernel
theorem dX7_count_28 : decode cX7_count 28 = .ok (.aload_n 0, 1) := by decide +kernel
theorem dX7_count_29 : decode cX7_count 29 = .ok (.getfield 67, 3) := by decide +kernel
theorem dX7_count_32 : decode cX7_count 32 = .ok (.ireturn, 1) := by decide +kernel
theorem dX7_count_33 : decode cX7_count 33 = .ok (.aload_n 0, 1) := by decide +kernel
theorem dX7_count_34 : decode cX7_count 34 = .ok (.getfield 63, 3) := by decide +kernel
theorem dX7_count_37 : decode cX7_count 37 = .ok (.ireturn, 1) := by decide +kernel
theorem dX7_count_38 : decode cX7_count 38 = .ok (.aload_n 0, 1) := by decide +kernel
theorem dX7_count_39 : decode cX7_count 39 = .ok (.invokevirtual 309, 3) := by decide +kernel
theorem dX7_count_42 : decode cX7_count 42 = .ok (.ireturn, 1) := by decide +kernel
theorem dX7_count_43 : decode cX7_count 43 = .ok (.iconst (-1), 1) := by decide +kernel
theorem dX7_count_44 : decode cX7_count 44 = .ok (.ireturn, 1) := by decide +kernel
theorem dX7_outside_0 : decode cX7_outside 0 = .ok (.iload_n 0, 1) := by decide +kernel
theorem dX7_outside_1 : decode cX7_outside 1 = .ok (.iload_n 1, 1) := by decide +kernel
theorem dX7_outside_2 : decode cX7_outside 2 = .ok (.if_icmp .lt 8, 3) := by decide +kernel
theorem dX7_outside_5 : decode cX7_outside 5 = .ok (.iload_n 0, 1) := by decide +kernel
theorem dX7_outside_6 : decode cX7_outside 6 = .ok (.iload_n 2, 1) := by decide +kernel
theorem dX7_outside_7 : decode cX7_outside 7 = .ok (.if_icmp .le 7, 3) := by decide +kernel
theorem dX7_outside_10 : decode cX7_outside 10 = .ok (.iconst 1, 1) := by decide +kernel
theorem dX7_outside_11 : decode cX7_outside 11 = .ok (.goto 4, 3) := by decide +kernel
theorem dX7_outside_14 : decode cX7_outside 14 = .ok (.iconst 0, 1) := by decide +kernel
theorem dX7_outside_15 : decode cX7_outside 15 = .ok (.ireturn, 1) := by decide +kernel
theorem dX7_notOdds_0 : decode cX7_notOdds 0 = .ok (.iload_n 1, 1) := by decide +kernel
theorem dX7_notOdds_1 : decode cX7_notOdds 1 = .ok (.iconst 1, 1) := by decide +kernel
theorem dX7_notOdds_2 : decode cX7_notOdds 2 = .ok (.bipush 60, 2) := by decide +kernel
theorem dX7_notOdds_4 : decode cX7_notOdds 4 = .ok (.invokestatic 88, 3) := by decide +kernel
theorem dX7_notOdds_7 : decode cX7_notOdds 7 = .ok (.ifCond .ne 12, 3) := by decide +kernel
theorem dX7_notOdds_10 : decode cX7_notOdds 10 = .ok (.iload_n 0, 1) := by decide +kernel
theorem dX7_notOdds_11 : decode cX7_notOdds 11 = .ok (.iconst 0, 1) := by decide +kernel
theorem dX7_notOdds_12 : decode cX7_notOdds 12 = .ok (.iload_n 1, 1) := by decide +kernel
theorem dX7_notOdds_13 : decode cX7_notOdds 13 = .ok (.invokestatic 88, 3) := by decide +kernel
theorem dX7_notOdds_16 : decode cX7_notOdds 16 = .ok (.ifCond .eq 7, 3) := by decide +kernel
theorem dX7_notOdds_19 : decode cX7_notOdds 19 = .ok (.iconst 1, 1) := by decide +kernel
theorem dX7_notOdds_20 : decode cX7_notOdds 20 = .ok (.goto 4, 3) := by decide +kernel
theorem dX7_notOdds_23 : decode cX7_notOdds 23 = .ok (.iconst 0, 1) := by decide +kernel
theorem dX7_notOdds_24 : decode cX7_notOdds 24 = .ok (.ireturn, 1) := by decide +kernel
theorem dX7_isFull_0 : decode cX7_isFull 0 = .ok (.aload_n 0, 1) := by decide +kernel
theorem dX7_isFull_1 : decode cX7_isFull 1 = .ok (.getfield 67, 3) := by decide +kernel
theorem dX7_isFull_4 : decode cX7_isFull 4 = .ok (.ifCond .lt 15, 3) := by decide +kernel
theorem dX7_isFull_7 : decode cX7_isFull 7 = .ok (.aload_n 0, 1) := by decide +kernel
theorem dX7_isFull_8 : decode cX7_isFull 8 = .ok (.getfield 67, 3) := by decide +kernel
theorem dX7_isFull_11 : decode cX7_isFull 11 = .ok (.aload_n 0, 1) := by decide +kernel
theorem dX7_isFull_12 : decode cX7_isFull 12 = .ok (.getfield 15, 3) := by decide +kernel
theorem dX7_isFull_15 : decode cX7_isFull 15 = .ok (.arraylength, 1) := by decide +kernel
theorem dX7_isFull_16 : decode cX7_isFull 16 = .ok (.if_icmp .lt 7, 3) := by decide +kernel
theorem dX7_isFull_19 : decode cX7_isFull 19 = .ok (.iconst 1, 1) := by decide +kernel
theorem dX7_isFull_20 : decode cX7_isFull 20 = .ok (.goto 4, 3) := by decide +kernel
theorem dX7_isFull_23 : decode cX7_isFull 23 = .ok (.iconst 0, 1) := by decide +kernel
theorem dX7_isFull_24 : decode cX7_isFull 24 = .ok (.ireturn, 1) := by decide +kernel
theorem dX7_sourceAt_0 : decode cX7_sourceAt 0 = .ok (.iload_n 1, 1) := by decide +kernel
theorem dX7_sourceAt_1 : decode cX7_sourceAt 1 = .ok (.ifCond .lt 20, 3) := by decide +kernel
theorem dX7_sourceAt_4 : decode cX7_sourceAt 4 = .ok (.iload_n 1, 1) := by decide +kernel
theorem dX7_sourceAt_5 : decode cX7_sourceAt 5 = .ok (.aload_n 0, 1) := by decide +kernel
theorem dX7_sourceAt_6 : decode cX7_sourceAt 6 = .ok (.getfield 67, 3) := by decide +kernel
theorem dX7_sourceAt_9 : decode cX7_sourceAt 9 = .ok (.if_icmp .ge 12, 3) := by decide +kernel
theorem dX7_sourceAt_12 : decode cX7_sourceAt 12 = .ok (.iload_n 1, 1) := by decide +kernel
theorem dX7_sourceAt_13 : decode cX7_sourceAt 13 = .ok (.aload_n 0, 1) := by decide +kernel
theorem dX7_sourceAt_14 : decode cX7_sourceAt 14 = .ok (.getfield 15, 3) := by decide +kernel
theorem dX7_sourceAt_17 : decode cX7_sourceAt 17 = .ok (.arraylength, 1) := by decide +kernel
theorem dX7_sourceAt_18 : decode cX7_sourceAt 18 = .ok (.if_icmp .lt 7, 3) := by decide +kernel
theorem dX7_sourceAt_21 : decode cX7_sourceAt 21 = .ok (.aconst_null, 1) := by decide +kernel
theorem dX7_sourceAt_22 : decode cX7_sourceAt 22 = .ok (.goto 9, 3) := by decide +kernel
theorem dX7_sourceAt_25 : decode cX7_sourceAt 25 = .ok (.aload_n 0, 1) := by decide +kernel
theorem dX7_sourceAt_26 : decode cX7_sourceAt 26 = .ok (.getfield 15, 3) := by decide +kernel
theorem dX7_sourceAt_29 : decode cX7_sourceAt 29 = .ok (.iload_n 1, 1) := by decide +kernel
theorem dX7_sourceAt_30 : decode cX7_sourceAt 30 = .ok (.aaload, 1) := by decide +kernel
theorem dX7_sourceAt_31 : decode cX7_sourceAt 31 = .ok (.areturn, 1) := by decide +kernel
theorem dX7_placeAt_0 : decode cX7_placeAt 0 = .ok (.iload_n 1, 1) := by decide +kernel
theorem dX7_placeAt_1 : decode cX7_placeAt 1 = .ok (.ifCond .lt 12, 3) := by decide +kernel
theorem dX7_placeAt_4 : decode cX7_placeAt 4 = .ok (.iload_n 1, 1) := by decide +kernel
theorem dX7_placeAt_5 : decode cX7_placeAt 5 = .ok (.aload_n 0, 1) := by decide +kernel
theorem dX7_placeAt_6 : decode cX7_placeAt 6 = .ok (.getfield 21, 3) := by decide +kernel
theorem dX7_placeAt_9 : decode cX7_placeAt 9 = .ok (.arraylength, 1) := by decide +kernel
theorem dX7_placeAt_10 : decode cX7_placeAt 10 = .ok (.if_icmp .lt 7, 3) := by decide +kernel
theorem dX7_placeAt_13 : decode cX7_placeAt 13 = .ok (.aconst_null, 1) := by decide +kernel
theorem dX7_placeAt_14 : decode cX7_placeAt 14 = .ok (.goto 9, 3) := by decide +kernel
theorem dX7_placeAt_17 : decode cX7_placeAt 17 = .ok (.aload_n 0, 1) := by decide +kernel
theorem dX7_placeAt_18 : decode cX7_placeAt 18 = .ok (.getfield 21, 3) := by decide +kernel
theorem dX7_placeAt_21 : decode cX7_placeAt 21 = .ok (.iload_n 1, 1) := by decide +kernel
theorem dX7_placeAt_22 : decode cX7_placeAt 22 = .ok (.aaload, 1) := by decide +kernel
theorem dX7_placeAt_23 : decode cX7_placeAt 23 = .ok (.areturn, 1) := by decide +kernel
theorem dX7_filledPlaces_0 : decode cX7_filledPlaces 0 = .ok (.iconst 0, 1) := by decide +kernel
theorem dX7_filledPlaces_1 : decode cX7_filledPlaces 1 = .ok (.istore_n 1, 1) := by decide +kernel
theorem dX7_filledPlaces_2 : decode cX7_filledPlaces 2 = .ok (.iconst 0, 1) := by decide +kernel
theorem dX7_filledPlaces_3 : decode cX7_filledPlaces 3 = .ok (.istore_n 2, 1) := by decide +kernel
theorem dX7_filledPlaces_4 : decode cX7_filledPlaces 4 = .ok (.iload_n 2, 1) := by decide +kernel
theorem dX7_filledPlaces_5 : decode cX7_filledPlaces 5 = .ok (.aload_n 0, 1) := by decide +kernel
theorem dX7_filledPlaces_6 : decode cX7_filledPlaces 6 = .ok (.getfield 21, 3) := by decide +kernel
theorem dX7_filledPlaces_9 : decode cX7_filledPlaces 9 = .ok (.arraylength, 1) := by decide +kernel
theorem dX7_filledPlaces_10 : decode cX7_filledPlaces 10 = .ok (.if_icmp .ge 29, 3) := by decide +kernel
theorem dX7_filledPlaces_13 : decode cX7_filledPlaces 13 = .ok (.aload_n 0, 1) := by decide +kernel
theorem dX7_filledPlaces_14 : decode cX7_filledPlaces 14 = .ok (.iload_n 2, 1) := by decide +kernel
theorem dX7_filledPlaces_15 : decode cX7_filledPlaces 15 = .ok (.invokevirtual 191, 3) := by decide +kernel
theorem dX7_filledPlaces_18 : decode cX7_filledPlaces 18 = .ok (.astore_n 3, 1) := by decide +kernel
theorem dX7_filledPlaces_19 : decode cX7_filledPlaces 19 = .ok (.aload_n 3, 1) := by decide +kernel
theorem dX7_filledPlaces_20 : decode cX7_filledPlaces 20 = .ok (.ifnull 13, 3) := by decide +kernel
theorem dX7_filledPlaces_23 : decode cX7_filledPlaces 23 = .ok (.aload_n 3, 1) := by decide +kernel
theorem dX7_filledPlaces_24 : decode cX7_filledPlaces 24 = .ok (.getfield 236, 3) := by decide +kernel
theorem dX7_filledPlaces_27 : decode cX7_filledPlaces 27 = .ok (.ifCond .eq 6, 3) := by decide +kernel
theorem dX7_filledPlaces_30 : decode cX7_filledPlaces 30 = .ok (.iinc 1 1, 3) := by decide +kernel
theorem dX7_filledPlaces_33 : decode cX7_filledPlaces 33 = .ok (.iinc 2 1, 3) := by decide +kernel
theorem dX7_filledPlaces_36 : decode cX7_filledPlaces 36 = .ok (.goto (-32), 3) := by decide +kernel
theorem dX7_filledPlaces_39 : decode cX7_filledPlaces 39 = .ok (.iload_n 1, 1) := by decide +kernel
theorem dX7_filledPlaces_40 : decode cX7_filledPlaces 40 = .ok (.ireturn, 1) := by decide +kernel
theorem dX7_together_0 : decode cX7_together 0 = .ok (.iconst 0, 1) := by decide +kernel
theorem dX7_together_1 : decode cX7_together 1 = .ok (.istore_n 2, 1) := by decide +kernel
theorem dX7_together_2 : decode cX7_together 2 = .ok (.iconst 0, 1) := by decide +kernel
theorem dX7_together_3 : decode cX7_together 3 = .ok (.istore_n 3, 1) := by decide +kernel
theorem dX7_together_4 : decode cX7_together 4 = .ok (.iload_n 3, 1) := by decide +kernel
theorem dX7_together_5 : decode cX7_together 5 = .ok (.iload_n 1, 1) := by decide +kernel
theorem dX7_together_6 : decode cX7_together 6 = .ok (.if_icmp .ge 21, 3) := by decide +kernel
theorem dX7_together_9 : decode cX7_together 9 = .ok (.iload_n 3, 1) := by decide +kernel
theorem dX7_together_10 : decode cX7_together 10 = .ok (.aload_n 0, 1) := by decide +kernel
theorem dX7_together_11 : decode cX7_together 11 = .ok (.arraylength, 1) := by decide +kernel
theorem dX7_together_12 : decode cX7_together 12 = .ok (.if_icmp .ge 15, 3) := by decide +kernel
theorem dX7_together_15 : decode cX7_together 15 = .ok (.iload_n 2, 1) := by decide +kernel
theorem dX7_together_16 : decode cX7_together 16 = .ok (.aload_n 0, 1) := by decide +kernel
theorem dX7_together_17 : decode cX7_together 17 = .ok (.iload_n 3, 1) := by decide +kernel
theorem dX7_together_18 : decode cX7_together 18 = .ok (.iaload, 1) := by decide +kernel
theorem dX7_together_19 : decode cX7_together 19 = .ok (.iadd, 1) := by decide +kernel
theorem dX7_together_20 : decode cX7_together 20 = .ok (.istore_n 2, 1) := by decide +kernel
theorem dX7_together_21 : decode cX7_together 21 = .ok (.iinc 3 1, 3) := by decide +kernel
theorem dX7_together_24 : decode cX7_together 24 = .ok (.goto (-20), 3) := by decide +kernel
theorem dX7_together_27 : decode cX7_together 27 = .ok (.iload_n 2, 1) := by decide +kernel
theorem dX7_together_28 : decode cX7_together 28 = .ok (.ireturn, 1) := by decide +kernel
theorem dX7_ways_0 : decode cX7_ways 0 = .ok (.iload_n 1, 1) := by decide +kernel
theorem dX7_ways_1 : decode cX7_ways 1 = .ok (.ifCond .lt 8, 3) := by decide +kernel
theorem dX7_ways_4 : decode cX7_ways 4 = .ok (.iload_n 1, 1) := by decide +kernel
theorem dX7_ways_5 : decode cX7_ways 5 = .ok (.iload_n 0, 1) := by decide +kernel
theorem dX7_ways_6 : decode cX7_ways 6 = .ok (.if_icmp .le 5, 3) := by decide +kernel
theorem dX7_ways_9 : decode cX7_ways 9 = .ok (.lconst 0, 1) := by decide +kernel
theorem dX7_ways_10 : decode cX7_ways 10 = .ok (.lreturn, 1) := by decide +kernel
theorem dX7_ways_11 : decode cX7_ways 11 = .ok (.lconst 1, 1) := by decide +kernel
theorem dX7_ways_12 : decode cX7_ways 12 = .ok (.lstore_n 2, 1) := by decide +kernel
theorem dX7_ways_13 : decode cX7_ways 13 = .ok (.iconst 0, 1) := by decide +kernel
theorem dX7_ways_14 : decode cX7_ways 14 = .ok (.istore 4, 2) := by decide +kernel
theorem dX7_ways_16 : decode cX7_ways 16 = .ok (.iload 4, 2) := by decide +kernel
theorem dX7_ways_18 : decode cX7_ways 18 = .ok (.iload_n 1, 1) := by decide +kernel
theorem dX7_ways_19 : decode cX7_ways 19 = .ok (.if_icmp .ge 23, 3) := by decide +kernel
theorem dX7_ways_22 : decode cX7_ways 22 = .ok (.lload_n 2, 1) := by decide +kernel
theorem dX7_ways_23 : decode cX7_ways 23 = .ok (.iload_n 0, 1) := by decide +kernel
theorem dX7_ways_24 : decode cX7_ways 24 = .ok (.iload 4, 2) := by decide +kernel
theorem dX7_ways_26 : decode cX7_ways 26 = .ok (.isub, 1) := by decide +kernel
theorem dX7_ways_27 : decode cX7_ways 27 = .ok (.i2l, 1) := by decide +kernel
theorem dX7_ways_28 : decode cX7_ways 28 = .ok (.lmul, 1) := by decide +kernel
theorem dX7_ways_29 : decode cX7_ways 29 = .ok (.iload 4, 2) := by decide +kernel
theorem dX7_ways_31 : decode cX7_ways 31 = .ok (.iconst 1, 1) := by decide +kernel
theorem dX7_ways_32 : decode cX7_ways 32 = .ok (.iadd, 1) := by decide +kernel
theorem dX7_ways_33 : decode cX7_ways 33 = .ok (.i2l, 1) := by decide +kernel
theorem dX7_ways_34 : decode cX7_ways 34 = .ok (.ldiv, 1) := by decide +kernel
theorem dX7_ways_35 : decode cX7_ways 35 = .ok (.lstore_n 2, 1) := by decide +kernel
theorem dX7_ways_36 : decode cX7_ways 36 = .ok (.iinc 4 1, 3) := by decide +kernel
theorem dX7_ways_39 : decode cX7_ways 39 = .ok (.goto (-23), 3) := by decide +kernel
theorem dX7_ways_42 : decode cX7_ways 42 = .ok (.lload_n 2, 1) := by decide +kernel
theorem dX7_ways_43 : decode cX7_ways 43 = .ok (.lreturn, 1) := by decide +kernel
theorem dX7_isNarrow_0 : decode cX7_isNarrow 0 = .ok (.ldc2_w 312, 3) := by decide +kernel
theorem dX7_isNarrow_3 : decode cX7_isNarrow 3 = .ok (.aload_n 0, 1) := by decide +kernel
theorem dX7_isNarrow_4 : decode cX7_isNarrow 4 = .ok (.getfield 73, 3) := by decide +kernel
theorem dX7_isNarrow_7 : decode cX7_isNarrow 7 = .ok (.i2l, 1) := by decide +kernel
theorem dX7_isNarrow_8 : decode cX7_isNarrow 8 = .ok (.lmul, 1) := by decide +kernel
theorem dX7_isNarrow_9 : decode cX7_isNarrow 9 = .ok (.aload_n 0, 1) := by decide +kernel
theorem dX7_isNarrow_10 : decode cX7_isNarrow 10 = .ok (.getfield 76, 3) := by decide +kernel
theorem dX7_isNarrow_13 : decode cX7_isNarrow 13 = .ok (.aload_n 0, 1) := by decide +kernel
theorem dX7_isNarrow_14 : decode cX7_isNarrow 14 = .ok (.getfield 73, 3) := by decide +kernel
theorem dX7_isNarrow_17 : decode cX7_isNarrow 17 = .ok (.isub, 1) := by decide +kernel
theorem dX7_isNarrow_18 : decode cX7_isNarrow 18 = .ok (.i2l, 1) := by decide +kernel
theorem dX7_isNarrow_19 : decode cX7_isNarrow 19 = .ok (.lmul, 1) := by decide +kernel
theorem dX7_isNarrow_20 : decode cX7_isNarrow 20 = .ok (.iload 4, 2) := by decide +kernel
theorem dX7_isNarrow_22 : decode cX7_isNarrow 22 = .ok (.i2l, 1) := by decide +kernel
theorem dX7_isNarrow_23 : decode cX7_isNarrow 23 = .ok (.lmul, 1) := by decide +kernel
theorem dX7_isNarrow_24 : decode cX7_isNarrow 24 = .ok (.lstore 5, 2) := by decide +kernel
theorem dX7_isNarrow_26 : decode cX7_isNarrow 26 = .ok (.iload_n 3, 1) := by decide +kernel
theorem dX7_isNarrow_27 : decode cX7_isNarrow 27 = .ok (.i2l, 1) := by decide +kernel
theorem dX7_isNarrow_28 : decode cX7_isNarrow 28 = .ok (.iload_n 1, 1) := by decide +kernel
theorem dX7_isNarrow_29 : decode cX7_isNarrow 29 = .ok (.i2l, 1) := by decide +kernel
theorem dX7_isNarrow_30 : decode cX7_isNarrow 30 = .ok (.lmul, 1) := by decide +kernel
theorem dX7_isNarrow_31 : decode cX7_isNarrow 31 = .ok (.aload_n 0, 1) := by decide +kernel
theorem dX7_isNarrow_32 : decode cX7_isNarrow 32 = .ok (.getfield 76, 3) := by decide +kernel
theorem dX7_isNarrow_35 : decode cX7_isNarrow 35 = .ok (.i2l, 1) := by decide +kernel
theorem dX7_isNarrow_36 : decode cX7_isNarrow 36 = .ok (.lmul, 1) := by decide +kernel
theorem dX7_isNarrow_37 : decode cX7_isNarrow 37 = .ok (.aload_n 0, 1) := by decide +kernel
theorem dX7_isNarrow_38 : decode cX7_isNarrow 38 = .ok (.getfield 76, 3) := by decide +kernel
theorem dX7_isNarrow_41 : decode cX7_isNarrow 41 = .ok (.i2l, 1) := by decide +kernel
theorem dX7_isNarrow_42 : decode cX7_isNarrow 42 = .ok (.lmul, 1) := by decide +kernel
theorem dX7_isNarrow_43 : decode cX7_isNarrow 43 = .ok (.iload_n 2, 1) := by decide +kernel
theorem dX7_isNarrow_44 : decode cX7_isNarrow 44 = .ok (.i2l, 1) := by decide +kernel
theorem dX7_isNarrow_45 : decode cX7_isNarrow 45 = .ok (.lmul, 1) := by decide +kernel
theorem dX7_isNarrow_46 : decode cX7_isNarrow 46 = .ok (.iload_n 2, 1) := by decide +kernel
theorem dX7_isNarrow_47 : decode cX7_isNarrow 47 = .ok (.i2l, 1) := by decide +kernel
theorem dX7_isNarrow_48 : decode cX7_isNarrow 48 = .ok (.lmul, 1) := by decide +kernel
theorem dX7_isNarrow_49 : decode cX7_isNarrow 49 = .ok (.lstore 7, 2) := by decide +kernel
theorem dX7_isNarrow_51 : decode cX7_isNarrow 51 = .ok (.iload_n 3, 1) := by decide +kernel
theorem dX7_isNarrow_52 : decode cX7_isNarrow 52 = .ok (.iload 4, 2) := by decide +kernel
theorem dX7_isNarrow_54 : decode cX7_isNarrow 54 = .ok (.if_icmp .ge 11, 3) := by decide +kernel
theorem dX7_isNarrow_57 : decode cX7_isNarrow 57 = .ok (.lload 5, 2) := by decide +kernel
theorem dX7_isNarrow_59 : decode cX7_isNarrow 59 = .ok (.lload 7, 2) := by decide +kernel
theorem dX7_isNarrow_61 : decode cX7_isNarrow 61 = .ok (.lcmp, 1) := by decide +kernel
theorem dX7_isNarrow_62 : decode cX7_isNarrow 62 = .ok (.ifCond .gt 7, 3) := by decide +kernel
theorem dX7_isNarrow_65 : decode cX7_isNarrow 65 = .ok (.iconst 1, 1) := by decide +kernel
theorem dX7_isNarrow_66 : decode cX7_isNarrow 66 = .ok (.goto 4, 3) := by decide +kernel
theorem dX7_isNarrow_69 : decode cX7_isNarrow 69 = .ok (.iconst 0, 1) := by decide +kernel
theorem dX7_isNarrow_70 : decode cX7_isNarrow 70 = .ok (.ireturn, 1) := by decide +kernel
theorem dX7_makeRounds_0 : decode cX7_makeRounds 0 = .ok (.aload_n 0, 1) := by decide +kernel
theorem dX7_makeRounds_1 : decode cX7_makeRounds 1 = .ok (.getfield 38, 3) := by decide +kernel
theorem dX7_makeRounds_4 : decode cX7_makeRounds 4 = .ok (.aload_n 2, 1) := by decide +kernel
theorem dX7_makeRounds_5 : decode cX7_makeRounds 5 = .ok (.iload_n 3, 1) := by decide +kernel
theorem dX7_makeRounds_6 : decode cX7_makeRounds 6 = .ok (.invokestatic 131, 3) := by decide +kernel
theorem dX7_makeRounds_9 : decode cX7_makeRounds 9 = .ok (.iload_n 1, 1) := by decide +kernel
theorem dX7_makeRounds_10 : decode cX7_makeRounds 10 = .ok (.invokevirtual 314, 3) := by decide +kernel
theorem dX7_makeRounds_13 : decode cX7_makeRounds 13 = .ok (.iload_n 3, 1) := by decide +kernel
theorem dX7_makeRounds_14 : decode cX7_makeRounds 14 = .ok (.iconst 1, 1) := by decide +kernel
theorem dX7_makeRounds_15 : decode cX7_makeRounds 15 = .ok (.isub, 1) := by decide +kernel
theorem dX7_makeRounds_16 : decode cX7_makeRounds 16 = .ok (.istore 4, 2) := by decide +kernel
theorem dX7_makeRounds_18 : decode cX7_makeRounds 18 = .ok (.new 119, 3) := by decide +kernel
theorem dX7_makeRounds_21 : decode cX7_makeRounds 21 = .ok (.dup, 1) := by decide +kernel
theorem dX7_makeRounds_22 : decode cX7_makeRounds 22 = .ok (.iload_n 1, 1) := by decide +kernel
theorem dX7_makeRounds_23 : decode cX7_makeRounds 23 = .ok (.iload 4, 2) := by decide +kernel
theorem dX7_makeRounds_25 : decode cX7_makeRounds 25 = .ok (.imul, 1) := by decide +kernel
theorem dX7_makeRounds_26 : decode cX7_makeRounds 26 = .ok (.aload_n 0, 1) := by decide +kernel
theorem dX7_makeRounds_27 : decode cX7_makeRounds 27 = .ok (.getfield 38, 3) := by decide +kernel
theorem dX7_makeRounds_30 : decode cX7_makeRounds 30 = .ok (.getfield 121, 3) := by decide +kernel
theorem dX7_makeRounds_33 : decode cX7_makeRounds 33 = .ok (.invokespecial 124, 3) := by decide +kernel
theorem dX7_makeRounds_36 : decode cX7_makeRounds 36 = .ok (.astore 5, 2) := by decide +kernel
theorem dX7_makeRounds_38 : decode cX7_makeRounds 38 = .ok (.aload 5, 2) := by decide +kernel
theorem dX7_makeRounds_40 : decode cX7_makeRounds 40 = .ok (.iconst 0, 1) := by decide +kernel
theorem dX7_makeRounds_41 : decode cX7_makeRounds 41 = .ok (.lconst 1, 1) := by decide +kernel
theorem dX7_makeRounds_42 : decode cX7_makeRounds 42 = .ok (.invokevirtual 127, 3) := by decide +kernel
theorem dX7_makeRounds_45 : decode cX7_makeRounds 45 = .ok (.iconst 1, 1) := by decide +kernel
theorem dX7_makeRounds_46 : decode cX7_makeRounds 46 = .ok (.istore 6, 2) := by decide +kernel
theorem dX7_makeRounds_48 : decode cX7_makeRounds 48 = .ok (.iload 6, 2) := by decide +kernel
theorem dX7_makeRounds_50 : decode cX7_makeRounds 50 = .ok (.iload_n 1, 1) := by decide +kernel
theorem dX7_makeRounds_51 : decode cX7_makeRounds 51 = .ok (.if_icmp .gt 21, 3) := by decide +kernel
theorem dX7_makeRounds_54 : decode cX7_makeRounds 54 = .ok (.aload 5, 2) := by decide +kernel
theorem dX7_makeRounds_56 : decode cX7_makeRounds 56 = .ok (.aload_n 2, 1) := by decide +kernel
theorem dX7_makeRounds_57 : decode cX7_makeRounds 57 = .ok (.iload_n 3, 1) := by decide +kernel
theorem dX7_makeRounds_58 : decode cX7_makeRounds 58 = .ok (.iload 6, 2) := by decide +kernel
theorem dX7_makeRounds_60 : decode cX7_makeRounds 60 = .ok (.iload 4, 2) := by decide +kernel
theorem dX7_makeRounds_62 : decode cX7_makeRounds 62 = .ok (.imul, 1) := by decide +kernel
theorem dX7_makeRounds_63 : decode cX7_makeRounds 63 = .ok (.invokevirtual 317, 3) := by decide +kernel
theorem dX7_makeRounds_66 : decode cX7_makeRounds 66 = .ok (.iinc 6 1, 3) := by decide +kernel
theorem dX7_makeRounds_69 : decode cX7_makeRounds 69 = .ok (.goto (-21), 3) := by decide +kernel
theorem dX7_makeRounds_72 : decode cX7_makeRounds 72 = .ok (.aload 5, 2) := by decide +kernel
theorem dX7_makeRounds_74 : decode cX7_makeRounds 74 = .ok (.areturn, 1) := by decide +kernel
theorem dX7_keep_0 : decode cX7_keep 0 = .ok (.aload_n 0, 1) := by decide +kernel
theorem dX7_keep_1 : decode cX7_keep 1 = .ok (.invokevirtual 96, 3) := by decide +kernel
theorem dX7_keep_4 : decode cX7_keep 4 = .ok (.ifCond .eq 6, 3) := by decide +kernel
theorem dX7_keep_7 : decode cX7_keep 7 = .ok (.bipush (-3), 2) := by decide +kernel
theorem dX7_keep_9 : decode cX7_keep 9 = .ok (.ireturn, 1) := by decide +kernel
theorem dX7_keep_10 : decode cX7_keep 10 = .ok (.new 13, 3) := by decide +kernel
theorem dX7_keep_13 : decode cX7_keep 13 = .ok (.dup, 1) := by decide +kernel
theorem dX7_keep_14 : decode cX7_keep 14 = .ok (.iload_n 1, 1) := by decide +kernel
theorem dX7_keep_15 : decode cX7_keep 15 = .ok (.aload_n 2, 1) := by decide +kernel
theorem dX7_keep_16 : decode cX7_keep 16 = .ok (.invokespecial 321, 3) := by decide +kernel
theorem dX7_keep_19 : decode cX7_keep 19 = .ok (.astore_n 3, 1) := by decide +kernel
theorem dX7_keep_20 : decode cX7_keep 20 = .ok (.aload_n 0, 1) := by decide +kernel
theorem dX7_keep_21 : decode cX7_keep 21 = .ok (.getfield 31, 3) := by decide +kernel
theorem dX7_keep_24 : decode cX7_keep 24 = .ok (.getfield 108, 3) := by decide +kernel
theorem dX7_keep_27 : decode cX7_keep 27 = .ok (.invokevirtual 297, 3) := by decide +kernel
theorem dX7_keep_30 : decode cX7_keep 30 = .ok (.iconst 0, 1) := by decide +kernel
theorem dX7_keep_31 : decode cX7_keep 31 = .ok (.istore 4, 2) := by decide +kernel
theorem dX7_keep_33 : decode cX7_keep 33 = .ok (.iload 4, 2) := by decide +kernel
theorem dX7_keep_35 : decode cX7_keep 35 = .ok (.aload_n 2, 1) := by decide +kernel
theorem dX7_keep_36 : decode cX7_keep 36 = .ok (.getfield 143, 3) := by decide +kernel
theorem dX7_keep_39 : decode cX7_keep 39 = .ok (.if_icmp .gt 35, 3) := by decide +kernel
theorem dX7_keep_42 : decode cX7_keep 42 = .ok (.aload_n 2, 1) := by decide +kernel
theorem dX7_keep_43 : decode cX7_keep 43 = .ok (.aload_n 3, 1) := by decide +kernel
theorem dX7_keep_44 : decode cX7_keep 44 = .ok (.getfield 146, 3) := by decide +kernel
theorem dX7_keep_47 : decode cX7_keep 47 = .ok (.iload 4, 2) := by decide +kernel
theorem dX7_keep_49 : decode cX7_keep 49 = .ok (.iconst 1, 1) := by decide +kernel
theorem dX7_keep_50 : decode cX7_keep 50 = .ok (.invokevirtual 324, 3) := by decide +kernel
theorem dX7_keep_53 : decode cX7_keep 53 = .ok (.aload_n 2, 1) := by decide +kernel
theorem dX7_keep_54 : decode cX7_keep 54 = .ok (.aload_n 0, 1) := by decide +kernel
theorem dX7_keep_55 : decode cX7_keep 55 = .ok (.getfield 31, 3) := by decide +kernel
theorem dX7_keep_58 : decode cX7_keep 58 = .ok (.getfield 108, 3) := by decide +kernel
theorem dX7_keep_61 : decode cX7_keep 61 = .ok (.iload 4, 2) := by decide +kernel
theorem dX7_keep_63 : decode cX7_keep 63 = .ok (.iload 4, 2) := by decide +kernel
theorem dX7_keep_65 : decode cX7_keep 65 = .ok (.invokevirtual 324, 3) := by decide +kernel
theorem dX7_keep_68 : decode cX7_keep 68 = .ok (.iinc 4 1, 3) := by decide +kernel
theorem dX7_keep_71 : decode cX7_keep 71 = .ok (.goto (-38), 3) := by decide +kernel
theorem dX7_keep_74 : decode cX7_keep 74 = .ok (.aload_n 0, 1) := by decide +kernel
theorem dX7_keep_75 : decode cX7_keep 75 = .ok (.getfield 31, 3) := by decide +kernel
theorem dX7_keep_78 : decode cX7_keep 78 = .ok (.getfield 273, 3) := by decide +kernel
theorem dX7_keep_81 : decode cX7_keep 81 = .ok (.aload_n 3, 1) := by decide +kernel
theorem dX7_keep_82 : decode cX7_keep 82 = .ok (.getfield 146, 3) := by decide +kernel
theorem dX7_keep_85 : decode cX7_keep 85 = .ok (.invokevirtual 265, 3) := by decide +kernel
theorem dX7_keep_88 : decode cX7_keep 88 = .ok (.aload_n 0, 1) := by decide +kernel
theorem dX7_keep_89 : decode cX7_keep 89 = .ok (.getfield 45, 3) := by decide +kernel
theorem dX7_keep_92 : decode cX7_keep 92 = .ok (.aload_n 0, 1) := by decide +kernel
theorem dX7_keep_93 : decode cX7_keep 93 = .ok (.getfield 31, 3) := by decide +kernel
theorem dX7_keep_96 : decode cX7_keep 96 = .ok (.invokevirtual 328, 3) := by decide +kernel
theorem dX7_keep_99 : decode cX7_keep 99 = .ok (.aload_n 3, 1) := by decide +kernel
theorem dX7_keep_100 : decode cX7_keep 100 = .ok (.getfield 201, 3) := by decide +kernel
theorem dX7_keep_103 : decode cX7_keep 103 = .ok (.aload_n 0, 1) := by decide +kernel
theorem dX7_keep_104 : decode cX7_keep 104 = .ok (.getfield 31, 3) := by decide +kernel
theorem dX7_keep_107 : decode cX7_keep 107 = .ok (.invokevirtual 204, 3) := by decide +kernel
theorem dX7_keep_110 : decode cX7_keep 110 = .ok (.aload_n 0, 1) := by decide +kernel
theorem dX7_keep_111 : decode cX7_keep 111 = .ok (.getfield 15, 3) := by decide +kernel
theorem dX7_keep_114 : decode cX7_keep 114 = .ok (.aload_n 0, 1) := by decide +kernel
theorem dX7_keep_115 : decode cX7_keep 115 = .ok (.getfield 67, 3) := by decide +kernel
theorem dX7_keep_118 : decode cX7_keep 118 = .ok (.aload_n 3, 1) := by decide +kernel
theorem dX7_keep_119 : decode cX7_keep 119 = .ok (.aastore, 1) := by decide +kernel
theorem dX7_keep_120 : decode cX7_keep 120 = .ok (.aload_n 0, 1) := by decide +kernel
theorem dX7_keep_121 : decode cX7_keep 121 = .ok (.dup, 1) := by decide +kernel
theorem dX7_keep_122 : decode cX7_keep 122 = .ok (.getfield 67, 3) := by decide +kernel
theorem dX7_keep_125 : decode cX7_keep 125 = .ok (.iconst 1, 1) := by decide +kernel
theorem dX7_keep_126 : decode cX7_keep 126 = .ok (.iadd, 1) := by decide +kernel
theorem dX7_keep_127 : decode cX7_keep 127 = .ok (.putfield 67, 3) := by decide +kernel
theorem dX7_keep_130 : decode cX7_keep 130 = .ok (.aload_n 0, 1) := by decide +kernel
theorem dX7_keep_131 : decode cX7_keep 131 = .ok (.getfield 67, 3) := by decide +kernel
theorem dX7_keep_134 : decode cX7_keep 134 = .ok (.iconst 1, 1) := by decide +kernel
theorem dX7_keep_135 : decode cX7_keep 135 = .ok (.isub, 1) := by decide +kernel
theorem dX7_keep_136 : decode cX7_keep 136 = .ok (.ireturn, 1) := by decide +kernel
theorem dX7_settle_0 : decode cX7_settle 0 = .ok (.aload_n 0, 1) := by decide +kernel
theorem dX7_settle_1 : decode cX7_settle 1 = .ok (.getfield 45, 3) := by decide +kernel
theorem dX7_settle_4 : decode cX7_settle 4 = .ok (.aload_n 0, 1) := by decide +kernel
theorem dX7_settle_5 : decode cX7_settle 5 = .ok (.getfield 31, 3) := by decide +kernel
theorem dX7_settle_8 : decode cX7_settle 8 = .ok (.invokevirtual 328, 3) := by decide +kernel
theorem dX7_settle_11 : decode cX7_settle 11 = .ok (.aload_n 0, 1) := by decide +kernel
theorem dX7_settle_12 : decode cX7_settle 12 = .ok (.aload_n 1, 1) := by decide +kernel
theorem dX7_settle_13 : decode cX7_settle 13 = .ok (.invokevirtual 208, 3) := by decide +kernel
theorem dX7_settle_16 : decode cX7_settle 16 = .ok (.ireturn, 1) := by decide +kernel
theorem dX7_store_0 : decode cX7_store 0 = .ok (.aload_n 0, 1) := by decide +kernel
theorem dX7_store_1 : decode cX7_store 1 = .ok (.getfield 31, 3) := by decide +kernel
theorem dX7_store_4 : decode cX7_store 4 = .ok (.getfield 108, 3) := by decide +kernel
theorem dX7_store_7 : decode cX7_store 7 = .ok (.invokevirtual 153, 3) := by decide +kernel
theorem dX7_store_10 : decode cX7_store 10 = .ok (.sipush 1024, 3) := by decide +kernel
theorem dX7_store_13 : decode cX7_store 13 = .ok (.if_icmp .gt 19, 3) := by decide +kernel
theorem dX7_store_16 : decode cX7_store 16 = .ok (.aload_n 0, 1) := by decide +kernel
theorem dX7_store_17 : decode cX7_store 17 = .ok (.getfield 31, 3) := by decide +kernel
theorem dX7_store_20 : decode cX7_store 20 = .ok (.getfield 273, 3) := by decide +kernel
theorem dX7_store_23 : decode cX7_store 23 = .ok (.invokevirtual 153, 3) := by decide +kernel
theorem dX7_store_26 : decode cX7_store 26 = .ok (.sipush 1024, 3) := by decide +kernel
theorem dX7_store_29 : decode cX7_store 29 = .ok (.if_icmp .le 6, 3) := by decide +kernel
theorem dX7_store_32 : decode cX7_store 32 = .ok (.bipush (-4), 2) := by decide +kernel
theorem dX7_store_34 : decode cX7_store 34 = .ok (.ireturn, 1) := by decide +kernel
theorem dX7_store_35 : decode cX7_store 35 = .ok (.aload_n 1, 1) := by decide +kernel
theorem dX7_store_36 : decode cX7_store 36 = .ok (.aload_n 0, 1) := by decide +kernel
theorem dX7_store_37 : decode cX7_store 37 = .ok (.getfield 31, 3) := by decide +kernel
theorem dX7_store_40 : decode cX7_store 40 = .ok (.invokevirtual 204, 3) := by decide +kernel
theorem dX7_store_43 : decode cX7_store 43 = .ok (.aload_n 1, 1) := by decide +kernel
theorem dX7_store_44 : decode cX7_store 44 = .ok (.iconst 1, 1) := by decide +kernel
theorem dX7_store_45 : decode cX7_store 45 = .ok (.putfield 236, 3) := by decide +kernel
theorem dX7_store_48 : decode cX7_store 48 = .ok (.iconst 1, 1) := by decide +kernel
theorem dX7_store_49 : decode cX7_store 49 = .ok (.ireturn, 1) := by decide +kernel
theorem dX7_compare_0 : decode cX7_compare 0 = .ok (.aload_n 0, 1) := by decide +kernel
theorem dX7_compare_1 : decode cX7_compare 1 = .ok (.getfield 31, 3) := by decide +kernel
theorem dX7_compare_4 : decode cX7_compare 4 = .ok (.getfield 108, 3) := by decide +kernel
theorem dX7_compare_7 : decode cX7_compare 7 = .ok (.aload_n 1, 1) := by decide +kernel
theorem dX7_compare_8 : decode cX7_compare 8 = .ok (.getfield 108, 3) := by decide +kernel
theorem dX7_compare_11 : decode cX7_compare 11 = .ok (.aload_n 2, 1) := by decide +kernel
theorem dX7_compare_12 : decode cX7_compare 12 = .ok (.getfield 273, 3) := by decide +kernel
theorem dX7_compare_15 : decode cX7_compare 15 = .ok (.invokevirtual 149, 3) := by decide +kernel
theorem dX7_compare_18 : decode cX7_compare 18 = .ok (.aload_n 0, 1) := by decide +kernel
theorem dX7_compare_19 : decode cX7_compare 19 = .ok (.getfield 31, 3) := by decide +kernel
theorem dX7_compare_22 : decode cX7_compare 22 = .ok (.getfield 273, 3) := by decide +kernel
theorem dX7_compare_25 : decode cX7_compare 25 = .ok (.aload_n 2, 1) := by decide +kernel
theorem dX7_compare_26 : decode cX7_compare 26 = .ok (.getfield 108, 3) := by decide +kernel
theorem dX7_compare_29 : decode cX7_compare 29 = .ok (.aload_n 1, 1) := by decide +kernel
theorem dX7_compare_30 : decode cX7_compare 30 = .ok (.getfield 273, 3) := by decide +kernel
theorem dX7_compare_33 : decode cX7_compare 33 = .ok (.invokevirtual 149, 3) := by decide +kernel
theorem dX7_compare_36 : decode cX7_compare 36 = .ok (.aload_n 0, 1) := by decide +kernel
theorem dX7_compare_37 : decode cX7_compare 37 = .ok (.getfield 31, 3) := by decide +kernel
theorem dX7_compare_40 : decode cX7_compare 40 = .ok (.getfield 108, 3) := by decide +kernel
theorem dX7_compare_43 : decode cX7_compare 43 = .ok (.aload_n 0, 1) := by decide +kernel
theorem dX7_compare_44 : decode cX7_compare 44 = .ok (.getfield 31, 3) := by decide +kernel
theorem dX7_compare_47 : decode cX7_compare 47 = .ok (.getfield 273, 3) := by decide +kernel
theorem dX7_compare_50 : decode cX7_compare 50 = .ok (.invokevirtual 331, 3) := by decide +kernel
theorem dX7_compare_53 : decode cX7_compare 53 = .ok (.ireturn, 1) := by decide +kernel
theorem dX8_init_0 : decode cX8_init 0 = .ok (.aload_n 0, 1) := by decide +kernel
theorem dX8_init_1 : decode cX8_init 1 = .ok (.invokespecial 1, 3) := by decide +kernel
theorem dX8_init_4 : decode cX8_init 4 = .ok (.aload_n 0, 1) := by decide +kernel
theorem dX8_init_5 : decode cX8_init 5 = .ok (.bipush 96, 2) := by decide +kernel
theorem dX8_init_7 : decode cX8_init 7 = .ok (.newarray .long, 2) := by decide +kernel
theorem dX8_init_9 : decode cX8_init 9 = .ok (.putfield 7, 3) := by decide +kernel
theorem dX8_init_12 : decode cX8_init 12 = .ok (.aload_n 0, 1) := by decide +kernel
theorem dX8_init_13 : decode cX8_init 13 = .ok (.bipush 96, 2) := by decide +kernel
theorem dX8_init_15 : decode cX8_init 15 = .ok (.newarray .long, 2) := by decide +kernel
theorem dX8_init_17 : decode cX8_init 17 = .ok (.putfield 13, 3) := by decide +kernel
theorem dX8_init_20 : decode cX8_init 20 = .ok (.aload_n 0, 1) := by decide +kernel
theorem dX8_init_21 : decode cX8_init 21 = .ok (.bipush 96, 2) := by decide +kernel
theorem dX8_init_23 : decode cX8_init 23 = .ok (.newarray .long, 2) := by decide +kernel
theorem dX8_init_25 : decode cX8_init 25 = .ok (.putfield 16, 3) := by decide +kernel
theorem dX8_init_28 : decode cX8_init 28 = .ok (.aload_n 0, 1) := by decide +kernel
theorem dX8_init_29 : decode cX8_init 29 = .ok (.bipush 96, 2) := by decide +kernel
theorem dX8_init_31 : decode cX8_init 31 = .ok (.newarray .long, 2) := by decide +kernel
theorem dX8_init_33 : decode cX8_init 33 = .ok (.putfield 19, 3) := by decide +kernel
theorem dX8_init_36 : decode cX8_init 36 = .ok (.aload_n 0, 1) := by decide +kernel
theorem dX8_init_37 : decode cX8_init 37 = .ok (.bipush 96, 2) := by decide +kernel
theorem dX8_init_39 : decode cX8_init 39 = .ok (.newarray .long, 2) := by decide +kernel
theorem dX8_init_41 : decode cX8_init 41 = .ok (.putfield 22, 3) := by decide +kernel
theorem dX8_init_44 : decode cX8_init 44 = .ok (.aload_n 0, 1) := by decide +kernel
theorem dX8_init_45 : decode cX8_init 45 = .ok (.sipush 640, 3) := by decide +kernel
theorem dX8_init_48 : decode cX8_init 48 = .ok (.newarray .long, 2) := by decide +kernel
theorem dX8_init_50 : decode cX8_init 50 = .ok (.putfield 25, 3) := by decide +kernel
theorem dX8_init_53 : decode cX8_init 53 = .ok (.aload_n 0, 1) := by decide +kernel
theorem dX8_init_54 : decode cX8_init 54 = .ok (.sipush 640, 3) := by decide +kernel
theorem dX8_init_57 : decode cX8_init 57 = .ok (.newarray .long, 2) := by decide +kernel
theorem dX8_init_59 : decode cX8_init 59 = .ok (.putfield 28, 3) := by decide +kernel
theorem dX8_init_62 : decode cX8_init 62 = .ok (.aload_n 0, 1) := by decide +kernel
theorem dX8_init_63 : decode cX8_init 63 = .ok (.bipush 16, 2) := by decide +kernel
theorem dX8_init_65 : decode cX8_init 65 = .ok (.newarray .boolean, 2) := by decide +kernel
theorem dX8_init_67 : decode cX8_init 67 = .ok (.putfield 31, 3) := by decide +kernel
theorem dX8_init_70 : decode cX8_init 70 = .ok (.aload_n 0, 1) := by decide +kernel
theorem dX8_init_71 : decode cX8_init 71 = .ok (.bipush 96, 2) := by decide +kernel
theorem dX8_init_73 : decode cX8_init 73 = .ok (.newarray .long, 2) := by decide +kernel
theorem dX8_init_75 : decode cX8_init 75 = .ok (.putfield 35, 3) := by decide +kernel
theorem dX8_init_78 : decode cX8_init 78 = .ok (.aload_n 0, 1) := by decide +kernel
theorem dX8_init_79 : decode cX8_init 79 = .ok (.bipush 96, 2) := by decide +kernel
theorem dX8_init_81 : decode cX8_init 81 = .ok (.newarray .long, 2) := by decide +kernel
theorem dX8_init_83 : decode cX8_init 83 = .ok (.putfield 38, 3) := by decide +kernel
theorem dX8_init_86 : decode cX8_init 86 = .ok (.aload_n 0, 1) := by decide +kernel
theorem dX8_init_87 : decode cX8_init 87 = .ok (.bipush 96, 2) := by decide +kernel
theorem dX8_init_89 : decode cX8_init 89 = .ok (.newarray .long, 2) := by decide +kernel
theorem dX8_init_91 : decode cX8_init 91 = .ok (.putfield 41, 3) := by decide +kernel
theorem dX8_init_94 : decode cX8_init 94 = .ok (.aload_n 0, 1) := by decide +kernel
theorem dX8_init_95 : decode cX8_init 95 = .ok (.bipush 96, 2) := by decide +kernel
theorem dX8_init_97 : decode cX8_init 97 = .ok (.newarray .long, 2) := by decide +kernel
theorem dX8_init_99 : decode cX8_init 99 = .ok (.putfield 44, 3) := by decide +kernel
theorem dX8_init_102 : decode cX8_init 102 = .ok (.aload_n 0, 1) := by decide +kernel
theorem dX8_init_103 : decode cX8_init 103 = .ok (.bipush 96, 2) := by decide +kernel
theorem dX8_init_105 : decode cX8_init 105 = .ok (.newarray .long, 2) := by decide +kernel
theorem dX8_init_107 : decode cX8_init 107 = .ok (.putfield 47, 3) := by decide +kernel
theorem dX8_init_110 : decode cX8_init 110 = .ok (.aload_n 0, 1) := by decide +kernel
theorem dX8_init_111 : decode cX8_init 111 = .ok (.bipush 96, 2) := by decide +kernel
theorem dX8_init_113 : decode cX8_init 113 = .ok (.newarray .long, 2) := by decide +kernel
theorem dX8_init_115 : decode cX8_init 115 = .ok (.putfield 50, 3) := by decide +kernel
theorem dX8_init_118 : decode cX8_init 118 = .ok (.aload_n 0, 1) := by decide +kernel
theorem dX8_init_119 : decode cX8_init 119 = .ok (.bipush 96, 2) := by decide +kernel
theorem dX8_init_121 : decode cX8_init 121 = .ok (.newarray .long, 2) := by decide +kernel
theorem dX8_init_123 : decode cX8_init 123 = .ok (.putfield 53, 3) := by decide +kernel
theorem dX8_init_126 : decode cX8_init 126 = .ok (.aload_n 0, 1) := by decide +kernel
theorem dX8_init_127 : decode cX8_init 127 = .ok (.bipush 96, 2) := by decide +kernel
theorem dX8_init_129 : decode cX8_init 129 = .ok (.newarray .long, 2) := by decide +kernel
theorem dX8_init_131 : decode cX8_init 131 = .ok (.putfield 56, 3) := by decide +kernel
theorem dX8_init_134 : decode cX8_init 134 = .ok (.aload_n 0, 1) := by decide +kernel
theorem dX8_init_135 : decode cX8_init 135 = .ok (.bipush 16, 2) := by decide +kernel
theorem dX8_init_137 : decode cX8_init 137 = .ok (.newarray .int, 2) := by decide +kernel
theorem dX8_init_139 : decode cX8_init 139 = .ok (.putfield 59, 3) := by decide +kernel
theorem dX8_init_142 : decode cX8_init 142 = .ok (.aload_n 0, 1) := by decide +kernel
theorem dX8_init_143 : decode cX8_init 143 = .ok (.bipush 16, 2) := by decide +kernel
theorem dX8_init_145 : decode cX8_init 145 = .ok (.newarray .int, 2) := by decide +kernel
theorem dX8_init_147 : decode cX8_init 147 = .ok (.putfield 63, 3) := by decide +kernel
theorem dX8_init_150 : decode cX8_init 150 = .ok (.aload_n 0, 1) := by decide +kernel
theorem dX8_init_151 : decode cX8_init 151 = .ok (.sipush 19360, 3) := by decide +kernel
theorem dX8_init_154 : decode cX8_init 154 = .ok (.newarray .long, 2) := by decide +kernel
theorem dX8_init_156 : decode cX8_init 156 = .ok (.putfield 66, 3) := by decide +kernel
theorem dX8_init_159 : decode cX8_init 159 = .ok (.aload_n 0, 1) := by decide +kernel
theorem dX8_init_160 : decode cX8_init 160 = .ok (.sipush 160, 3) := by decide +kernel
theorem dX8_init_163 : decode cX8_init 163 = .ok (.newarray .long, 2) := by decide +kernel
theorem dX8_init_165 : decode cX8_init 165 = .ok (.putfield 69, 3) := by decide +kernel
theorem dX8_init_168 : decode cX8_init 168 = .ok (.aload_n 0, 1) := by decide +kernel
theorem dX8_init_169 : decode cX8_init 169 = .ok (.bipush 8, 2) := by decide +kernel
theorem dX8_init_171 : decode cX8_init 171 = .ok (.newarray .int, 2) := by decide +kernel
theorem dX8_init_173 : decode cX8_init 173 = .ok (.putfield 72, 3) := by decide +kernel
theorem dX8_init_176 : decode cX8_init 176 = .ok (.aload_n 0, 1) := by decide +kernel
theorem dX8_init_177 : decode cX8_init 177 = .ok (.bipush 96, 2) := by decide +kernel
theorem dX8_init_179 : decode cX8_init 179 = .ok (.newarray .long, 2) := by decide +kernel
theorem dX8_init_181 : decode cX8_init 181 = .ok (.putfield 75, 3) := by decide +kernel
theorem dX8_init_184 : decode cX8_init 184 = .ok (.aload_n 0, 1) := by decide +kernel
theorem dX8_init_185 : decode cX8_init 185 = .ok (.bipush 96, 2) := by decide +kernel
theorem dX8_init_187 : decode cX8_init 187 = .ok (.newarray .long, 2) := by decide +kernel
theorem dX8_init_189 : decode cX8_init 189 = .ok (.putfield 78, 3) := by decide +kernel
theorem dX8_init_192 : decode cX8_init 192 = .ok (.aload_n 0, 1) := by decide +kernel
theorem dX8_init_193 : decode cX8_init 193 = .ok (.bipush 96, 2) := by decide +kernel
theorem dX8_init_195 : decode cX8_init 195 = .ok (.newarray .long, 2) := by decide +kernel
theorem dX8_init_197 : decode cX8_init 197 = .ok (.putfield 81, 3) := by decide +kernel
theorem dX8_init_200 : decode cX8_init 200 = .ok (.aload_n 0, 1) := by decide +kernel
theorem dX8_init_201 : decode cX8_init 201 = .ok (.bipush 96, 2) := by decide +kernel
theorem dX8_init_203 : decode cX8_init 203 = .ok (.newarray .long, 2) := by decide +kernel
theorem dX8_init_205 : decode cX8_init 205 = .ok (.putfield 84, 3) := by decide +kernel
theorem dX8_init_208 : decode cX8_init 208 = .ok (.aload_n 0, 1) := by decide +kernel
theorem dX8_init_209 : decode cX8_init 209 = .ok (.sipush 1210, 3) := by decide +kernel
theorem dX8_init_212 : decode cX8_init 212 = .ok (.newarray .long, 2) := by decide +kernel
theorem dX8_init_214 : decode cX8_init 214 = .ok (.putfield 87, 3) := by decide +kernel
theorem dX8_init_217 : decode cX8_init 217 = .ok (.aload_n 0, 1) := by decide +kernel
theorem dX8_init_218 : decode cX8_init 218 = .ok (.sipush 1210, 3) := by decide +kernel
theorem dX8_init_221 : decode cX8_init 221 = .ok (.newarray .long, 2) := by decide +kernel
theorem dX8_init_223 : decode cX8_init 223 = .ok (.putfield 90, 3) := by decide +kernel
theorem dX8_init_226 : decode cX8_init 226 = .ok (.aload_n 0, 1) := by decide +kernel
theorem dX8_init_227 : decode cX8_init 227 = .ok (.bipush 96, 2) := by decide +kernel
theorem dX8_init_229 : decode cX8_init 229 = .ok (.newarray .long, 2) := by decide +kernel
theorem dX8_init_231 : decode cX8_init 231 = .ok (.putfield 93, 3) := by decide +kernel
theorem dX8_init_234 : decode cX8_init 234 = .ok (.aload_n 0, 1) := by decide +kernel
theorem dX8_init_235 : decode cX8_init 235 = .ok (.bipush 96, 2) := by decide +kernel
theorem dX8_init_237 : decode cX8_init 237 = .ok (.newarray .long, 2) := by decide +kernel
theorem dX8_init_239 : decode cX8_init 239 = .ok (.putfield 96, 3) := by decide +kernel
theorem dX8_init_242 : decode cX8_init 242 = .ok (.aload_n 0, 1) := by decide +kernel
theorem dX8_init_243 : decode cX8_init 243 = .ok (.bipush 96, 2) := by decide +kernel
theorem dX8_init_245 : decode cX8_init 245 = .ok (.newarray .long, 2) := by decide +kernel
theorem dX8_init_247 : decode cX8_init 247 = .ok (.putfield 99, 3) := by decide +kernel
theorem dX8_init_250 : decode cX8_init 250 = .ok (.aload_n 0, 1) := by decide +kernel
theorem dX8_init_251 : decode cX8_init 251 = .ok (.bipush 96, 2) := by decide +kernel
theorem dX8_init_253 : decode cX8_init 253 = .ok (.newarray .long, 2) := by decide +kernel
theorem dX8_init_255 : decode cX8_init 255 = .ok (.putfield 102, 3) := by decide +kernel
theorem dX8_init_258 : decode cX8_init 258 = .ok (.aload_n 0, 1) := by decide +kernel
theorem dX8_init_259 : decode cX8_init 259 = .ok (.iconst 1, 1) := by decide +kernel
theorem dX8_init_260 : decode cX8_init 260 = .ok (.putfield 105, 3) := by decide +kernel
theorem dX8_init_263 : decode cX8_init 263 = .ok (.aload_n 0, 1) := by decide +kernel
theorem dX8_init_264 : decode cX8_init 264 = .ok (.iconst 2, 1) := by decide +kernel
theorem dX8_init_265 : decode cX8_init 265 = .ok (.putfield 109, 3) := by decide +kernel
theorem dX8_init_268 : decode cX8_init 268 = .ok (.aload_n 0, 1) := by decide +kernel
theorem dX8_init_269 : decode cX8_init 269 = .ok (.iconst 1, 1) := by decide +kernel
theorem dX8_init_270 : decode cX8_init 270 = .ok (.putfield 112, 3) := by decide +kernel
theorem dX8_init_273 : decode cX8_init 273 = .ok (.aload_n 0, 1) := by decide +kernel
theorem dX8_init_274 : decode cX8_init 274 = .ok (.iconst 1, 1) := by decide +kernel
theorem dX8_init_275 : decode cX8_init 275 = .ok (.putfield 115, 3) := by decide +kernel
theorem dX8_init_278 : decode cX8_init 278 = .ok (.return_, 1) := by decide +kernel
theorem dX8_in_0 : decode cX8_in 0 = .ok (.iload_n 0, 1) := by decide +kernel
theorem dX8_in_1 : decode cX8_in 1 = .ok (.iload_n 1, 1) := by decide +kernel
theorem dX8_in_2 : decode cX8_in 2 = .ok (.if_icmp .lt 12, 3) := by decide +kernel
theorem dX8_in_5 : decode cX8_in 5 = .ok (.iload_n 0, 1) := by decide +kernel
theorem dX8_in_6 : decode cX8_in 6 = .ok (.iload_n 2, 1) := by decide +kernel
theorem dX8_in_7 : decode cX8_in 7 = .ok (.if_icmp .gt 7, 3) := by decide +kernel
theorem dX8_in_10 : decode cX8_in 10 = .ok (.iconst 1, 1) := by decide +kernel
theorem dX8_in_11 : decode cX8_in 11 = .ok (.goto 4, 3) := by decide +kernel
theorem dX8_in_14 : decode cX8_in 14 = .ok (.iconst 0, 1) := by decide +kernel
theorem dX8_in_15 : decode cX8_in 15 = .ok (.ireturn, 1) := by decide +kernel
theorem dX8_become_0 : decode cX8_become 0 = .ok (.iconst 0, 1) := by decide +kernel
theorem dX8_become_1 : decode cX8_become 1 = .ok (.istore_n 3, 1) := by decide +kernel
theorem dX8_become_2 : decode cX8_become 2 = .ok (.iload_n 3, 1) := by decide +kernel
theorem dX8_become_3 : decode cX8_become 3 = .ok (.bipush 96, 2) := by decide +kernel
theorem dX8_become_5 : decode cX8_become 5 = .ok (.if_icmp .ge 13, 3) := by decide +kernel
theorem dX8_become_8 : decode cX8_become 8 = .ok (.aload_n 0, 1) := by decide +kernel
theorem dX8_become_9 : decode cX8_become 9 = .ok (.iload_n 3, 1) := by decide +kernel
theorem dX8_become_10 : decode cX8_become 10 = .ok (.lconst 0, 1) := by decide +kernel
theorem dX8_become_11 : decode cX8_become 11 = .ok (.lastore, 1) := by decide +kernel
theorem dX8_become_12 : decode cX8_become 12 = .ok (.iinc 3 1, 3) := by decide +kernel
theorem dX8_become_15 : decode cX8_become 15 = .ok (.goto (-13), 3) := by decide +kernel
theorem dX8_become_18 : decode cX8_become 18 = .ok (.aload_n 0, 1) := by decide +kernel
theorem dX8_become_19 : decode cX8_become 19 = .ok (.iconst 0, 1) := by decide +kernel
theorem dX8_become_20 : decode cX8_become 20 = .ok (.lload_n 1, 1) := by decide +kernel
theorem dX8_become_21 : decode cX8_become 21 = .ok (.ldc2_w 118, 3) := by decide +kernel
theorem dX8_become_24 : decode cX8_become 24 = .ok (.land, 1) := by decide +kernel
theorem dX8_become_25 : decode cX8_become 25 = .ok (.lastore, 1) := by decide +kernel
theorem dX8_become_26 : decode cX8_become 26 = .ok (.aload_n 0, 1) := by decide +kernel
theorem dX8_become_27 : decode cX8_become 27 = .ok (.iconst 1, 1) := by decide +kernel
theorem dX8_become_28 : decode cX8_become 28 = .ok (.lload_n 1, 1) := by decide +kernel
theorem dX8_become_29 : decode cX8_become 29 = .ok (.bipush 28, 2) := by decide +kernel
theorem dX8_become_31 : decode cX8_become 31 = .ok (.lshr, 1) := by decide +kernel
theorem dX8_become_32 : decode cX8_become 32 = .ok (.ldc2_w 118, 3) := by decide +kernel
theorem dX8_become_35 : decode cX8_become 35 = .ok (.land, 1) := by decide +kernel
theorem dX8_become_36 : decode cX8_become 36 = .ok (.lastore, 1) := by decide +kernel
theorem dX8_become_37 : decode cX8_become 37 = .ok (.aload_n 0, 1) := by decide +kernel
theorem dX8_become_38 : decode cX8_become 38 = .ok (.iconst 2, 1) := by decide +kernel
theorem dX8_become_39 : decode cX8_become 39 = .ok (.lload_n 1, 1) := by decide +kernel
theorem dX8_become_40 : decode cX8_become 40 = .ok (.bipush 56, 2) := by decide +kernel
theorem dX8_become_42 : decode cX8_become 42 = .ok (.lshr, 1) := by decide +kernel
theorem dX8_become_43 : decode cX8_become 43 = .ok (.lastore, 1) := by decide +kernel
theorem dX8_become_44 : decode cX8_become 44 = .ok (.return_, 1) := by decide +kernel
theorem dX8_copy_0 : decode cX8_copy 0 = .ok (.iconst 0, 1) := by decide +kernel
theorem dX8_copy_1 : decode cX8_copy 1 = .ok (.istore_n 2, 1) := by decide +kernel
theorem dX8_copy_2 : decode cX8_copy 2 = .ok (.iload_n 2, 1) := by decide +kernel
theorem dX8_copy_3 : decode cX8_copy 3 = .ok (.bipush 96, 2) := by decide +kernel
theorem dX8_copy_5 : decode cX8_copy 5 = .ok (.if_icmp .ge 15, 3) := by decide +kernel
theorem dX8_copy_8 : decode cX8_copy 8 = .ok (.aload_n 0, 1) := by decide +kernel
theorem dX8_copy_9 : decode cX8_copy 9 = .ok (.iload_n 2, 1) := by decide +kernel
theorem dX8_copy_10 : decode cX8_copy 10 = .ok (.aload_n 1, 1) := by decide +kernel
theorem dX8_copy_11 : decode cX8_copy 11 = .ok (.iload_n 2, 1) := by decide +kernel
theorem dX8_copy_12 : decode cX8_copy 12 = .ok (.laload, 1) := by decide +kernel
theorem dX8_copy_13 : decode cX8_copy 13 = .ok (.lastore, 1) := by decide +kernel
theorem dX8_copy_14 : decode cX8_copy 14 = .ok (.iinc 2 1, 3) := by decide +kernel
theorem dX8_copy_17 : decode cX8_copy 17 = .ok (.goto (-15), 3) := by decide +kernel
theorem dX8_copy_20 : decode cX8_copy 20 = .ok (.return_, 1) := by decide +kernel
theorem dX8_load_0 : decode cX8_load 0 = .ok (.iconst 0, 1) := by decide +kernel
theorem dX8_load_1 : decode cX8_load 1 = .ok (.istore 4, 2) := by decide +kernel
theorem dX8_load_3 : decode cX8_load 3 = .ok (.iload 4, 2) := by decide +kernel
theorem dX8_load_5 : decode cX8_load 5 = .ok (.bipush 96, 2) := by decide +kernel
theorem dX8_load_7 : decode cX8_load 7 = .ok (.if_icmp .ge 29, 3) := by decide +kernel
theorem dX8_load_10 : decode cX8_load 10 = .ok (.aload_n 0, 1) := by decide +kernel
theorem dX8_load_11 : decode cX8_load 11 = .ok (.iload 4, 2) := by decide +kernel
theorem dX8_load_13 : decode cX8_load 13 = .ok (.iload 4, 2) := by decide +kernel
theorem dX8_load_15 : decode cX8_load 15 = .ok (.iload_n 3, 1) := by decide +kernel
theorem dX8_load_16 : decode cX8_load 16 = .ok (.if_icmp .ge 12, 3) := by decide +kernel
theorem dX8_load_19 : decode cX8_load 19 = .ok (.aload_n 1, 1) := by decide +kernel
theorem dX8_load_20 : decode cX8_load 20 = .ok (.iload_n 2, 1) := by decide +kernel
theorem dX8_load_21 : decode cX8_load 21 = .ok (.iload 4, 2) := by decide +kernel
theorem dX8_load_23 : decode cX8_load 23 = .ok (.iadd, 1) := by decide +kernel
theorem dX8_load_24 : decode cX8_load 24 = .ok (.laload, 1) := by decide +kernel
theorem dX8_load_25 : decode cX8_load 25 = .ok (.goto 4, 3) := by decide +kernel
theorem dX8_load_28 : decode cX8_load 28 = .ok (.lconst 0, 1) := by decide +kernel
theorem dX8_load_29 : decode cX8_load 29 = .ok (.lastore, 1) := by decide +kernel
theorem dX8_load_30 : decode cX8_load 30 = .ok (.iinc 4 1, 3) := by decide +kernel
theorem dX8_load_33 : decode cX8_load 33 = .ok (.goto (-30), 3) := by decide +kernel
theorem dX8_load_36 : decode cX8_load 36 = .ok (.return_, 1) := by decide +kernel
theorem dX8_store_0 : decode cX8_store 0 = .ok (.iconst 0, 1) := by decide +kernel
theorem dX8_store_1 : decode cX8_store 1 = .ok (.istore 4, 2) := by decide +kernel
theorem dX8_store_3 : decode cX8_store 3 = .ok (.iload 4, 2) := by decide +kernel
theorem dX8_store_5 : decode cX8_store 5 = .ok (.iload_n 2, 1) := by decide +kernel
theorem dX8_store_6 : decode cX8_store 6 = .ok (.if_icmp .ge 19, 3) := by decide +kernel
theorem dX8_store_9 : decode cX8_store 9 = .ok (.aload_n 0, 1) := by decide +kernel
theorem dX8_store_10 : decode cX8_store 10 = .ok (.iload_n 1, 1) := by decide +kernel
theorem dX8_store_11 : decode cX8_store 11 = .ok (.iload 4, 2) := by decide +kernel
theorem dX8_store_13 : decode cX8_store 13 = .ok (.iadd, 1) := by decide +kernel
theorem dX8_store_14 : decode cX8_store 14 = .ok (.aload_n 3, 1) := by decide +kernel
theorem dX8_store_15 : decode cX8_store 15 = .ok (.iload 4, 2) := by decide +kernel
theorem dX8_store_17 : decode cX8_store 17 = .ok (.laload, 1) := by decide +kernel
theorem dX8_store_18 : decode cX8_store 18 = .ok (.lastore, 1) := by decide +kernel
theorem dX8_store_19 : decode cX8_store 19 = .ok (.iinc 4 1, 3) := by decide +kernel
theorem dX8_store_22 : decode cX8_store 22 = .ok (.goto (-19), 3) := by decide +kernel
theorem dX8_store_25 : decode cX8_store 25 = .ok (.return_, 1) := by decide +kernel
theorem dX8_top_0 : decode cX8_top 0 = .ok (.bipush 95, 2) := by decide +kernel
theorem dX8_top_2 : decode cX8_top 2 = .ok (.istore_n 1, 1) := by decide +kernel
theorem dX8_top_3 : decode cX8_top 3 = .ok (.iload_n 1, 1) := by decide +kernel
theorem dX8_top_4 : decode cX8_top 4 = .ok (.ifCond .lt 17, 3) := by decide +kernel
theorem dX8_top_7 : decode cX8_top 7 = .ok (.aload_n 0, 1) := by decide +kernel
theorem dX8_top_8 : decode cX8_top 8 = .ok (.iload_n 1, 1) := by decide +kernel
theorem dX8_top_9 : decode cX8_top 9 = .ok (.laload, 1) := by decide +kernel
theorem dX8_top_10 : decode cX8_top 10 = .ok (.lconst 0, 1) := by decide +kernel
theorem dX8_top_11 : decode cX8_top 11 = .ok (.lcmp, 1) := by decide +kernel
theorem dX8_top_12 : decode cX8_top 12 = .ok (.ifCond .ne 9, 3) := by decide +kernel
theorem dX8_top_15 : decode cX8_top 15 = .ok (.iinc 1 (-1), 3) := by decide +kernel
theorem dX8_top_18 : decode cX8_top 18 = .ok (.goto (-15), 3) := by decide +kernel
theorem dX8_top_21 : decode cX8_top 21 = .ok (.iload_n 1, 1) := by decide +kernel
theorem dX8_top_22 : decode cX8_top 22 = .ok (.ireturn, 1) := by decide +kernel
theorem dX8_bits_0 : decode cX8_bits 0 = .ok (.aload_n 0, 1) := by decide +kernel
theorem dX8_bits_1 : decode cX8_bits 1 = .ok (.invokestatic 120, 3) := by decide +kernel
theorem dX8_bits_4 : decode cX8_bits 4 = .ok (.istore_n 1, 1) := by decide +kernel
theorem dX8_bits_5 : decode cX8_bits 5 = .ok (.iload_n 1, 1) := by decide +kernel
theorem dX8_bits_6 : decode cX8_bits 6 = .ok (.ifCond .ge 5, 3) := by decide +kernel
theorem dX8_bits_9 : decode cX8_bits 9 = .ok (.iconst 0, 1) := by decide +kernel
theorem dX8_bits_10 : decode cX8_bits 10 = .ok (.ireturn, 1) := by decide +kernel
theorem dX8_bits_11 : decode cX8_bits 11 = .ok (.bipush 28, 2) := by decide +kernel
theorem dX8_bits_13 : decode cX8_bits 13 = .ok (.iload_n 1, 1) := by decide +kernel
theorem dX8_bits_14 : decode cX8_bits 14 = .ok (.imul, 1) := by decide +kernel
theorem dX8_bits_15 : decode cX8_bits 15 = .ok (.istore_n 2, 1) := by decide +kernel
theorem dX8_bits_16 : decode cX8_bits 16 = .ok (.aload_n 0, 1) := by decide +kernel
theorem dX8_bits_17 : decode cX8_bits 17 = .ok (.iload_n 1, 1) := by decide +kernel
theorem dX8_bits_18 : decode cX8_bits 18 = .ok (.laload, 1) := by decide +kernel
theorem dX8_bits_19 : decode cX8_bits 19 = .ok (.lstore_n 3, 1) := by decide +kernel
theorem dX8_bits_20 : decode cX8_bits 20 = .ok (.lload_n 3, 1) := by decide +kernel
theorem dX8_bits_21 : decode cX8_bits 21 = .ok (.lconst 0, 1) := by decide +kernel
theorem dX8_bits_22 : decode cX8_bits 22 = .ok (.lcmp, 1) := by decide +kernel
theorem dX8_bits_23 : decode cX8_bits 23 = .ok (.ifCond .le 13, 3) := by decide +kernel
theorem dX8_bits_26 : decode cX8_bits 26 = .ok (.iinc 2 1, 3) := by decide +kernel
theorem dX8_bits_29 : decode cX8_bits 29 = .ok (.lload_n 3, 1) := by decide +kernel
theorem dX8_bits_30 : decode cX8_bits 30 = .ok (.iconst 1, 1) := by decide +kernel
theorem dX8_bits_31 : decode cX8_bits 31 = .ok (.lshr, 1) := by decide +kernel
theorem dX8_bits_32 : decode cX8_bits 32 = .ok (.lstore_n 3, 1) := by decide +kernel
theorem dX8_bits_33 : decode cX8_bits 33 = .ok (.goto (-13), 3) := by decide +kernel
theorem dX8_bits_36 : decode cX8_bits 36 = .ok (.iload_n 2, 1) := by decide +kernel
theorem dX8_bits_37 : decode cX8_bits 37 = .ok (.ireturn, 1) := by decide +kernel
theorem dX8_compare_0 : decode cX8_compare 0 = .ok (.bipush 95, 2) := by decide +kernel
theorem dX8_compare_2 : decode cX8_compare 2 = .ok (.istore_n 2, 1) := by decide +kernel
theorem dX8_compare_3 : decode cX8_compare 3 = .ok (.iload_n 2, 1) := by decide +kernel
theorem dX8_compare_4 : decode cX8_compare 4 = .ok (.ifCond .lt 35, 3) := by decide +kernel
theorem dX8_compare_7 : decode cX8_compare 7 = .ok (.aload_n 0, 1) := by decide +kernel
theorem dX8_compare_8 : decode cX8_compare 8 = .ok (.iload_n 2, 1) := by decide +kernel
theorem dX8_compare_9 : decode cX8_compare 9 = .ok (.laload, 1) := by decide +kernel
theorem dX8_compare_10 : decode cX8_compare 10 = .ok (.aload_n 1, 1) := by decide +kernel
theorem dX8_compare_11 : decode cX8_compare 11 = .ok (.iload_n 2, 1) := by decide +kernel
theorem dX8_compare_12 : decode cX8_compare 12 = .ok (.laload, 1) := by decide +kernel
theorem dX8_compare_13 : decode cX8_compare 13 = .ok (.lcmp, 1) := by decide +kernel
theorem dX8_compare_14 : decode cX8_compare 14 = .ok (.ifCond .eq 19, 3) := by decide +kernel
theorem dX8_compare_17 : decode cX8_compare 17 = .ok (.aload_n 0, 1) := by decide +kernel
theorem dX8_compare_18 : decode cX8_compare 18 = .ok (.iload_n 2, 1) := by decide +kernel
theorem dX8_compare_19 : decode cX8_compare 19 = .ok (.laload, 1) := by decide +kernel
theorem dX8_compare_20 : decode cX8_compare 20 = .ok (.aload_n 1, 1) := by decide +kernel
theorem dX8_compare_21 : decode cX8_compare 21 = .ok (.iload_n 2, 1) := by decide +kernel
theorem dX8_compare_22 : decode cX8_compare 22 = .ok (.laload, 1) := by decide +kernel
theorem dX8_compare_23 : decode cX8_compare 23 = .ok (.lcmp, 1) := by decide +kernel
theorem dX8_compare_24 : decode cX8_compare 24 = .ok (.ifCond .ge 7, 3) := by decide +kernel
theorem dX8_compare_27 : decode cX8_compare 27 = .ok (.iconst (-1), 1) := by decide +kernel
theorem dX8_compare_28 : decode cX8_compare 28 = .ok (.goto 4, 3) := by decide +kernel
theorem dX8_compare_31 : decode cX8_compare 31 = .ok (.iconst 1, 1) := by decide +kernel
theorem dX8_compare_32 : decode cX8_compare 32 = .ok (.ireturn, 1) := by decide +kernel
theorem dX8_compare_33 : decode cX8_compare 33 = .ok (.iinc 2 (-1), 3) := by decide +kernel
theorem dX8_compare_36 : decode cX8_compare 36 = .ok (.goto (-33), 3) := by decide +kernel
theorem dX8_compare_39 : decode cX8_compare 39 = .ok (.iconst 0, 1) := by decide +kernel
theorem dX8_compare_40 : decode cX8_compare 40 = .ok (.ireturn, 1) := by decide +kernel
theorem dX8_plus_0 : decode cX8_plus 0 = .ok (.lconst 0, 1) := by decide +kernel
theorem dX8_plus_1 : decode cX8_plus 1 = .ok (.lstore_n 2, 1) := by decide +kernel
theorem dX8_plus_2 : decode cX8_plus 2 = .ok (.iconst 0, 1) := by decide +kernel
theorem dX8_plus_3 : decode cX8_plus 3 = .ok (.istore 4, 2) := by decide +kernel
theorem dX8_plus_5 : decode cX8_plus 5 = .ok (.iload 4, 2) := by decide +kernel
theorem dX8_plus_7 : decode cX8_plus 7 = .ok (.bipush 96, 2) := by decide +kernel
theorem dX8_plus_9 : decode cX8_plus 9 = .ok (.if_icmp .ge 38, 3) := by decide +kernel
theorem dX8_plus_12 : decode cX8_plus 12 = .ok (.aload_n 0, 1) := by decide +kernel
theorem dX8_plus_13 : decode cX8_plus 13 = .ok (.iload 4, 2) := by decide +kernel
theorem dX8_plus_15 : decode cX8_plus 15 = .ok (.laload, 1) := by decide +kernel
theorem dX8_plus_16 : decode cX8_plus 16 = .ok (.aload_n 1, 1) := by decide +kernel
theorem dX8_plus_17 : decode cX8_plus 17 = .ok (.iload 4, 2) := by decide +kernel
theorem dX8_plus_19 : decode cX8_plus 19 = .ok (.laload, 1) := by decide +kernel
theorem dX8_plus_20 : decode cX8_plus 20 = .ok (.ladd, 1) := by decide +kernel
theorem dX8_plus_21 : decode cX8_plus 21 = .ok (.lload_n 2, 1) := by decide +kernel
theorem dX8_plus_22 : decode cX8_plus 22 = .ok (.ladd, 1) := by decide +kernel
theorem dX8_plus_23 : decode cX8_plus 23 = .ok (.lstore 5, 2) := by decide +kernel
theorem dX8_plus_25 : decode cX8_plus 25 = .ok (.aload_n 0, 1) := by decide +kernel
theorem dX8_plus_26 : decode cX8_plus 26 = .ok (.iload 4, 2) := by decide +kernel
theorem dX8_plus_28 : decode cX8_plus 28 = .ok (.lload 5, 2) := by decide +kernel
theorem dX8_plus_30 : decode cX8_plus 30 = .ok (.ldc2_w 118, 3) := by decide +kernel
theorem dX8_plus_33 : decode cX8_plus 33 = .ok (.land, 1) := by decide +kernel
theorem dX8_plus_34 : decode cX8_plus 34 = .ok (.lastore, 1) := by decide +kernel
theorem dX8_plus_35 : decode cX8_plus 35 = .ok (.lload 5, 2) := by decide +kernel
theorem dX8_plus_37 : decode cX8_plus 37 = .ok (.bipush 28, 2) := by decide +kernel
theorem dX8_plus_39 : decode cX8_plus 39 = .ok (.lshr, 1) := by decide +kernel
theorem dX8_plus_40 : decode cX8_plus 40 = .ok (.lstore_n 2, 1) := by decide +kernel
theorem dX8_plus_41 : decode cX8_plus 41 = .ok (.iinc 4 1, 3) := by decide +kernel
theorem dX8_plus_44 : decode cX8_plus 44 = .ok (.goto (-39), 3) := by decide +kernel
theorem dX8_plus_47 : decode cX8_plus 47 = .ok (.return_, 1) := by decide +kernel
theorem dX8_minus_0 : decode cX8_minus 0 = .ok (.lconst 0, 1) := by decide +kernel
theorem dX8_minus_1 : decode cX8_minus 1 = .ok (.lstore_n 2, 1) := by decide +kernel
theorem dX8_minus_2 : decode cX8_minus 2 = .ok (.iconst 0, 1) := by decide +kernel
theorem dX8_minus_3 : decode cX8_minus 3 = .ok (.istore 4, 2) := by decide +kernel
theorem dX8_minus_5 : decode cX8_minus 5 = .ok (.iload 4, 2) := by decide +kernel
theorem dX8_minus_7 : decode cX8_minus 7 = .ok (.bipush 96, 2) := by decide +kernel
theorem dX8_minus_9 : decode cX8_minus 9 = .ok (.if_icmp .ge 45, 3) := by decide +kernel
theorem dX8_minus_12 : decode cX8_minus 12 = .ok (.aload_n 0, 1) := by decide +kernel
theorem dX8_minus_13 : decode cX8_minus 13 = .ok (.iload 4, 2) := by decide +kernel
theorem dX8_minus_15 : decode cX8_minus 15 = .ok (.laload, 1) := by decide +kernel
theorem dX8_minus_16 : decode cX8_minus 16 = .ok (.aload_n 1, 1) := by decide +kernel
theorem dX8_minus_17 : decode cX8_minus 17 = .ok (.iload 4, 2) := by decide +kernel
theorem dX8_minus_19 : decode cX8_minus 19 = .ok (.laload, 1) := by decide +kernel
theorem dX8_minus_20 : decode cX8_minus 20 = .ok (.lsub, 1) := by decide +kernel
theorem dX8_minus_21 : decode cX8_minus 21 = .ok (.lload_n 2, 1) := by decide +kernel
theorem dX8_minus_22 : decode cX8_minus 22 = .ok (.lsub, 1) := by decide +kernel
theorem dX8_minus_23 : decode cX8_minus 23 = .ok (.lstore 5, 2) := by decide +kernel
theorem dX8_minus_25 : decode cX8_minus 25 = .ok (.aload_n 0, 1) := by decide +kernel
theorem dX8_minus_26 : decode cX8_minus 26 = .ok (.iload 4, 2) := by decide +kernel
theorem dX8_minus_28 : decode cX8_minus 28 = .ok (.lload 5, 2) := by decide +kernel
theorem dX8_minus_30 : decode cX8_minus 30 = .ok (.ldc2_w 118, 3) := by decide +kernel
theorem dX8_minus_33 : decode cX8_minus 33 = .ok (.land, 1) := by decide +kernel
theorem dX8_minus_34 : decode cX8_minus 34 = .ok (.lastore, 1) := by decide +kernel
theorem dX8_minus_35 : decode cX8_minus 35 = .ok (.lload 5, 2) := by decide +kernel
theorem dX8_minus_37 : decode cX8_minus 37 = .ok (.lconst 0, 1) := by decide +kernel
theorem dX8_minus_38 : decode cX8_minus 38 = .ok (.lcmp, 1) := by decide +kernel
theorem dX8_minus_39 : decode cX8_minus 39 = .ok (.ifCond .ge 7, 3) := by decide +kernel
theorem dX8_minus_42 : decode cX8_minus 42 = .ok (.lconst 1, 1) := by decide +kernel
theorem dX8_minus_43 : decode cX8_minus 43 = .ok (.goto 4, 3) := by decide +kernel
theorem dX8_minus_46 : decode cX8_minus 46 = .ok (.lconst 0, 1) := by decide +kernel
theorem dX8_minus_47 : decode cX8_minus 47 = .ok (.lstore_n 2, 1) := by decide +kernel
theorem dX8_minus_48 : decode cX8_minus 48 = .ok (.iinc 4 1, 3) := by decide +kernel
theorem dX8_minus_51 : decode cX8_minus 51 = .ok (.goto (-46), 3) := by decide +kernel
theorem dX8_minus_54 : decode cX8_minus 54 = .ok (.return_, 1) := by decide +kernel
theorem dX8_times_0 : decode cX8_times 0 = .ok (.aload_n 0, 1) := by decide +kernel
theorem dX8_times_1 : decode cX8_times 1 = .ok (.lconst 0, 1) := by decide +kernel
theorem dX8_times_2 : decode cX8_times 2 = .ok (.invokestatic 124, 3) := by decide +kernel
theorem dX8_times_5 : decode cX8_times 5 = .ok (.aload_n 2, 1) := by decide +kernel
theorem dX8_times_6 : decode cX8_times 6 = .ok (.invokestatic 120, 3) := by decide +kernel
theorem dX8_times_9 : decode cX8_times 9 = .ok (.istore_n 3, 1) := by decide +kernel
theorem dX8_times_10 : decode cX8_times 10 = .ok (.aload_n 1, 1) := by decide +kernel
theorem dX8_times_11 : decode cX8_times 11 = .ok (.invokestatic 120, 3) := by decide +kernel
theorem dX8_times_14 : decode cX8_times 14 = .ok (.istore 4, 2) := by decide +kernel
theorem dX8_times_16 : decode cX8_times 16 = .ok (.iconst 0, 1) := by decide +kernel
theorem dX8_times_17 : decode cX8_times 17 = .ok (.istore 5, 2) := by decide +kernel
theorem dX8_times_19 : decode cX8_times 19 = .ok (.iload 5, 2) := by decide +kernel
theorem dX8_times_21 : decode cX8_times 21 = .ok (.iload 4, 2) := by decide +kernel
theorem dX8_times_23 : decode cX8_times 23 = .ok (.if_icmp .gt 82, 3) := by decide +kernel
theorem dX8_times_26 : decode cX8_times 26 = .ok (.lconst 0, 1) := by decide +kernel
theorem dX8_times_27 : decode cX8_times 27 = .ok (.lstore 6, 2) := by decide +kernel
theorem dX8_times_29 : decode cX8_times 29 = .ok (.iconst 0, 1) := by decide +kernel
theorem dX8_times_30 : decode cX8_times 30 = .ok (.istore 8, 2) := by decide +kernel
theorem dX8_times_32 : decode cX8_times 32 = .ok (.iload 8, 2) := by decide +kernel
theorem dX8_times_34 : decode cX8_times 34 = .ok (.iload_n 3, 1) := by decide +kernel
theorem dX8_times_35 : decode cX8_times 35 = .ok (.if_icmp .gt 51, 3) := by decide +kernel
theorem dX8_times_38 : decode cX8_times 38 = .ok (.aload_n 0, 1) := by decide +kernel
theorem dX8_times_39 : decode cX8_times 39 = .ok (.iload 5, 2) := by decide +kernel
theorem dX8_times_41 : decode cX8_times 41 = .ok (.iload 8, 2) := by decide +kernel
theorem dX8_times_43 : decode cX8_times 43 = .ok (.iadd, 1) := by decide +kernel
theorem dX8_times_44 : decode cX8_times 44 = .ok (.laload, 1) := by decide +kernel
theorem dX8_times_45 : decode cX8_times 45 = .ok (.aload_n 1, 1) := by decide +kernel
theorem dX8_times_46 : decode cX8_times 46 = .ok (.iload 5, 2) := by decide +kernel
theorem dX8_times_48 : decode cX8_times 48 = .ok (.laload, 1) := by decide +kernel
theorem dX8_times_49 : decode cX8_times 49 = .ok (.aload_n 2, 1) := by decide +kernel
theorem dX8_times_50 : decode cX8_times 50 = .ok (.iload 8, 2) := by decide +kernel
theorem dX8_times_52 : decode cX8_times 52 = .ok (.laload, 1) := by decide +kernel
theorem dX8_times_53 : decode cX8_times 53 = .ok (.lmul, 1) := by decide +kernel
theorem dX8_times_54 : decode cX8_times 54 = .ok (.ladd, 1) := by decide +kernel
theorem dX8_times_55 : decode cX8_times 55 = .ok (.lload 6, 2) := by decide +kernel
theorem dX8_times_57 : decode cX8_times 57 = .ok (.ladd, 1) := by decide +kernel
theorem dX8_times_58 : decode cX8_times 58 = .ok (.lstore 9, 2) := by decide +kernel
theorem dX8_times_60 : decode cX8_times 60 = .ok (.aload_n 0, 1) := by decide +kernel
theorem dX8_times_61 : decode cX8_times 61 = .ok (.iload 5, 2) := by decide +kernel
theorem dX8_times_63 : decode cX8_times 63 = .ok (.iload 8, 2) := by decide +kernel
theorem dX8_times_65 : decode cX8_times 65 = .ok (.iadd, 1) := by decide +kernel
theorem dX8_times_66 : decode cX8_times 66 = .ok (.lload 9, 2) := by decide +kernel
theorem dX8_times_68 : decode cX8_times 68 = .ok (.ldc2_w 118, 3) := by decide +kernel
theorem dX8_times_71 : decode cX8_times 71 = .ok (.land, 1) := by decide +kernel
theorem dX8_times_72 : decode cX8_times 72 = .ok (.lastore, 1) := by decide +kernel
theorem dX8_times_73 : decode cX8_times 73 = .ok (.lload 9, 2) := by decide +kernel
theorem dX8_times_75 : decode cX8_times 75 = .ok (.bipush 28, 2) := by decide +kernel
theorem dX8_times_77 : decode cX8_times 77 = .ok (.lshr, 1) := by decide +kernel
theorem dX8_times_78 : decode cX8_times 78 = .ok (.lstore 6, 2) := by decide +kernel
theorem dX8_times_80 : decode cX8_times 80 = .ok (.iinc 8 1, 3) := by decide +kernel
theorem dX8_times_83 : decode cX8_times 83 = .ok (.goto (-51), 3) := by decide +kernel
theorem dX8_times_86 : decode cX8_times 86 = .ok (.aload_n 0, 1) := by decide +kernel
theorem dX8_times_87 : decode cX8_times 87 = .ok (.iload 5, 2) := by decide +kernel
theorem dX8_times_89 : decode cX8_times 89 = .ok (.iload_n 3, 1) := by decide +kernel
theorem dX8_times_90 : decode cX8_times 90 = .ok (.iadd, 1) := by decide +kernel
theorem dX8_times_91 : decode cX8_times 91 = .ok (.iconst 1, 1) := by decide +kernel
theorem dX8_times_92 : decode cX8_times 92 = .ok (.iadd, 1) := by decide +kernel
theorem dX8_times_93 : decode cX8_times 93 = .ok (.dup2, 1) := by decide +kernel
theorem dX8_times_94 : decode cX8_times 94 = .ok (.laload, 1) := by decide +kernel
theorem dX8_times_95 : decode cX8_times 95 = .ok (.lload 6, 2) := by decide +kernel
theorem dX8_times_97 : decode cX8_times 97 = .ok (.ladd, 1) := by decide +kernel
theorem dX8_times_98 : decode cX8_times 98 = .ok (.lastore, 1) := by decide +kernel
theorem dX8_times_99 : decode cX8_times 99 = .ok (.iinc 5 1, 3) := by decide +kernel
theorem dX8_times_102 : decode cX8_times 102 = .ok (.goto (-83), 3) := by decide +kernel
theorem dX8_times_105 : decode cX8_times 105 = .ok (.return_, 1) := by decide +kernel
theorem dX8_by_0 : decode cX8_by 0 = .ok (.lconst 0, 1) := by decide +kernel
theorem dX8_by_1 : decode cX8_by 1 = .ok (.lstore_n 3, 1) := by decide +kernel
theorem dX8_by_2 : decode cX8_by 2 = .ok (.iconst 0, 1) := by decide +kernel
theorem dX8_by_3 : decode cX8_by 3 = .ok (.istore 5, 2) := by decide +kernel
theorem dX8_by_5 : decode cX8_by 5 = .ok (.iload 5, 2) := by decide +kernel
theorem dX8_by_7 : decode cX8_by 7 = .ok (.bipush 96, 2) := by decide +kernel
theorem dX8_by_9 : decode cX8_by 9 = .ok (.if_icmp .ge 35, 3) := by decide +kernel
theorem dX8_by_12 : decode cX8_by 12 = .ok (.aload_n 0, 1) := by decide +kernel
theorem dX8_by_13 : decode cX8_by 13 = .ok (.iload 5, 2) := by decide +kernel
theorem dX8_by_15 : decode cX8_by 15 = .ok (.laload, 1) := by decide +kernel
theorem dX8_by_16 : decode cX8_by 16 = .ok (.lload_n 1, 1) := by decide +kernel
theorem dX8_by_17 : decode cX8_by 17 = .ok (.lmul, 1) := by decide +kernel
theorem dX8_by_18 : decode cX8_by 18 = .ok (.lload_n 3, 1) := by decide +kernel
theorem dX8_by_19 : decode cX8_by 19 = .ok (.ladd, 1) := by decide +kernel
theorem dX8_by_20 : decode cX8_by 20 = .ok (.lstore 6, 2) := by decide +kernel
theorem dX8_by_22 : decode cX8_by 22 = .ok (.aload_n 0, 1) := by decide +kernel
theorem dX8_by_23 : decode cX8_by 23 = .ok (.iload 5, 2) := by decide +kernel
theorem dX8_by_25 : decode cX8_by 25 = .ok (.lload 6, 2) := by decide +kernel
theorem dX8_by_27 : decode cX8_by 27 = .ok (.ldc2_w 118, 3) := by decide +kernel
theorem dX8_by_30 : decode cX8_by 30 = .ok (.land, 1) := by decide +kernel
theorem dX8_by_31 : decode cX8_by 31 = .ok (.lastore, 1) := by decide +kernel
theorem dX8_by_32 : decode cX8_by 32 = .ok (.lload 6, 2) := by decide +kernel
theorem dX8_by_34 : decode cX8_by 34 = .ok (.bipush 28, 2) := by decide +kernel
theorem dX8_by_36 : decode cX8_by 36 = .ok (.lshr, 1) := by decide +kernel
theorem dX8_by_37 : decode cX8_by 37 = .ok (.lstore_n 3, 1) := by decide +kernel
theorem dX8_by_38 : decode cX8_by 38 = .ok (.iinc 5 1, 3) := by decide +kernel
theorem dX8_by_41 : decode cX8_by 41 = .ok (.goto (-36), 3) := by decide +kernel
theorem dX8_by_44 : decode cX8_by 44 = .ok (.return_, 1) := by decide +kernel
theorem dX8_half_0 : decode cX8_half 0 = .ok (.iconst 0, 1) := by decide +kernel
theorem dX8_half_1 : decode cX8_half 1 = .ok (.istore_n 2, 1) := by decide +kernel
theorem dX8_half_2 : decode cX8_half 2 = .ok (.iload_n 2, 1) := by decide +kernel
theorem dX8_half_3 : decode cX8_half 3 = .ok (.iload_n 1, 1) := by decide +kernel
theorem dX8_half_4 : decode cX8_half 4 = .ok (.if_icmp .gt 42, 3) := by decide +kernel
theorem dX8_half_7 : decode cX8_half 7 = .ok (.iload_n 2, 1) := by decide +kernel
theorem dX8_half_8 : decode cX8_half 8 = .ok (.iconst 1, 1) := by decide +kernel
theorem dX8_half_9 : decode cX8_half 9 = .ok (.iadd, 1) := by decide +kernel
theorem dX8_half_10 : decode cX8_half 10 = .ok (.bipush 96, 2) := by decide +kernel
theorem dX8_half_12 : decode cX8_half 12 = .ok (.if_icmp .ge 11, 3) := by decide +kernel
theorem dX8_half_15 : decode cX8_half 15 = .ok (.aload_n 0, 1) := by decide +kernel
theorem dX8_half_16 : decode cX8_half 16 = .ok (.iload_n 2, 1) := by decide +kernel
theorem dX8_half_17 : decode cX8_half 17 = .ok (.iconst 1, 1) := by decide +kernel
theorem dX8_half_18 : decode cX8_half 18 = .ok (.iadd, 1) := by decide +kernel
theorem dX8_half_19 : decode cX8_half 19 = .ok (.laload, 1) := by decide +kernel
theorem dX8_half_20 : decode cX8_half 20 = .ok (.goto 4, 3) := by decide +kernel
theorem dX8_half_23 : decode cX8_half 23 = .ok (.lconst 0, 1) := by decide +kernel
theorem dX8_half_24 : decode cX8_half 24 = .ok (.lstore_n 3, 1) := by decide +kernel
theorem dX8_half_25 : decode cX8_half 25 = .ok (.aload_n 0, 1) := by decide +kernel
theorem dX8_half_26 : decode cX8_half 26 = .ok (.iload_n 2, 1) := by decide +kernel
theorem dX8_half_27 : decode cX8_half 27 = .ok (.aload_n 0, 1) := by decide +kernel
theorem dX8_half_28 : decode cX8_half 28 = .ok (.iload_n 2, 1) := by decide +kernel
theorem dX8_half_29 : decode cX8_half 29 = .ok (.laload, 1) := by decide +kernel
theorem dX8_half_30 : decode cX8_half 30 = .ok (.iconst 1, 1) := by decide +kernel
theorem dX8_half_31 : decode cX8_half 31 = .ok (.lshr, 1) := by decide +kernel
theorem dX8_half_32 : decode cX8_half 32 = .ok (.lload_n 3, 1) := by decide +kernel
theorem dX8_half_33 : decode cX8_half 33 = .ok (.lconst 1, 1) := by decide +kernel
theorem dX8_half_34 : decode cX8_half 34 = .ok (.land, 1) := by decide +kernel
theorem dX8_half_35 : decode cX8_half 35 = .ok (.bipush 27, 2) := by decide +kernel
theorem dX8_half_37 : decode cX8_half 37 = .ok (.lshl, 1) := by decide +kernel
theorem dX8_half_38 : decode cX8_half 38 = .ok (.lor, 1) := by decide +kernel
theorem dX8_half_39 : decode cX8_half 39 = .ok (.lastore, 1) := by decide +kernel
theorem dX8_half_40 : decode cX8_half 40 = .ok (.iinc 2 1, 3) := by decide +kernel
theorem dX8_half_43 : decode cX8_half 43 = .ok (.goto (-41), 3) := by decide +kernel
theorem dX8_half_46 : decode cX8_half 46 = .ok (.return_, 1) := by decide +kernel
theorem dX8_twice_0 : decode cX8_twice 0 = .ok (.lload_n 1, 1) := by decide +kernel
theorem dX8_twice_1 : decode cX8_twice 1 = .ok (.lstore_n 3, 1) := by decide +kernel
theorem dX8_twice_2 : decode cX8_twice 2 = .ok (.iconst 0, 1) := by decide +kernel
theorem dX8_twice_3 : decode cX8_twice 3 = .ok (.istore 5, 2) := by decide +kernel
theorem dX8_twice_5 : decode cX8_twice 5 = .ok (.iload 5, 2) := by decide +kernel
theorem dX8_twice_7 : decode cX8_twice 7 = .ok (.bipush 96, 2) := by decide +kernel
theorem dX8_twice_9 : decode cX8_twice 9 = .ok (.if_icmp .ge 35, 3) := by decide +kernel
theorem dX8_twice_12 : decode cX8_twice 12 = .ok (.aload_n 0, 1) := by decide +kernel
theorem dX8_twice_13 : decode cX8_twice 13 = .ok (.iload 5, 2) := by decide +kernel
theorem dX8_twice_15 : decode cX8_twice 15 = .ok (.laload, 1) := by decide +kernel
theorem dX8_twice_16 : decode cX8_twice 16 = .ok (.iconst 1, 1) := by decide +kernel
theorem dX8_twice_17 : decode cX8_twice 17 = .ok (.lshl, 1) := by decide +kernel
theorem dX8_twice_18 : decode cX8_twice 18 = .ok (.lload_n 3, 1) := by decide +kernel
theorem dX8_twice_19 : decode cX8_twice 19 = .ok (.lor, 1) := by decide +kernel
theorem dX8_twice_20 : decode cX8_twice 20 = .ok (.lstore 6, 2) := by decide +kernel
theorem dX8_twice_22 : decode cX8_twice 22 = .ok (.aload_n 0, 1) := by decide +kernel
theorem dX8_twice_23 : decode cX8_twice 23 = .ok (.iload 5, 2) := by decide +kernel
theorem dX8_twice_25 : decode cX8_twice 25 = .ok (.lload 6, 2) := by decide +kernel
theorem dX8_twice_27 : decode cX8_twice 27 = .ok (.ldc2_w 118, 3) := by decide +kernel
theorem dX8_twice_30 : decode cX8_twice 30 = .ok (.land, 1) := by decide +kernel
theorem dX8_twice_31 : decode cX8_twice 31 = .ok (.lastore, 1) := by decide +kernel
theorem dX8_twice_32 : decode cX8_twice 32 = .ok (.lload 6, 2) := by decide +kernel
theorem dX8_twice_34 : decode cX8_twice 34 = .ok (.bipush 28, 2) := by decide +kernel
theorem dX8_twice_36 : decode cX8_twice 36 = .ok (.lshr, 1) := by decide +kernel
theorem dX8_twice_37 : decode cX8_twice 37 = .ok (.lstore_n 3, 1) := by decide +kernel
theorem dX8_twice_38 : decode cX8_twice 38 = .ok (.iinc 5 1, 3) := by decide +kernel
theorem dX8_twice_41 : decode cX8_twice 41 = .ok (.goto (-36), 3) := by decide +kernel
theorem dX8_twice_44 : decode cX8_twice 44 = .ok (.return_, 1) := by decide +kernel
theorem dX8_bitOf_0 : decode cX8_bitOf 0 = .ok (.aload_n 0, 1) := by decide +kernel
theorem dX8_bitOf_1 : decode cX8_bitOf 1 = .ok (.iload_n 1, 1) := by decide +kernel
theorem dX8_bitOf_2 : decode cX8_bitOf 2 = .ok (.bipush 28, 2) := by decide +kernel
theorem dX8_bitOf_4 : decode cX8_bitOf 4 = .ok (.idiv, 1) := by decide +kernel
theorem dX8_bitOf_5 : decode cX8_bitOf 5 = .ok (.laload, 1) := by decide +kernel
theorem dX8_bitOf_6 : decode cX8_bitOf 6 = .ok (.iload_n 1, 1) := by decide +kernel
theorem dX8_bitOf_7 : decode cX8_bitOf 7 = .ok (.bipush 28, 2) := by decide +kernel
theorem dX8_bitOf_9 : decode cX8_bitOf 9 = .ok (.irem, 1) := by decide +kernel
theorem dX8_bitOf_10 : decode cX8_bitOf 10 = .ok (.lshr, 1) := by decide +kernel
theorem dX8_bitOf_11 : decode cX8_bitOf 11 = .ok (.lconst 1, 1) := by decide +kernel
theorem dX8_bitOf_12 : decode cX8_bitOf 12 = .ok (.land, 1) := by decide +kernel
theorem dX8_bitOf_13 : decode cX8_bitOf 13 = .ok (.lreturn, 1) := by decide +kernel
theorem dX8_findDivisor_0 : decode cX8_findDivisor 0 = .ok (.aload_n 0, 1) := by decide +kernel
theorem dX8_findDivisor_1 : decode cX8_findDivisor 1 = .ok (.getfield 7, 3) := by decide +kernel
theorem dX8_findDivisor_4 : decode cX8_findDivisor 4 = .ok (.aload_n 1, 1) := by decide +kernel
theorem dX8_findDivisor_5 : decode cX8_findDivisor 5 = .ok (.invokestatic 128, 3) := by decide +kernel
theorem dX8_findDivisor_8 : decode cX8_findDivisor 8 = .ok (.aload_n 0, 1) := by decide +kernel
theorem dX8_findDivisor_9 : decode cX8_findDivisor 9 = .ok (.getfield 13, 3) := by decide +kernel
theorem dX8_findDivisor_12 : decode cX8_findDivisor 12 = .ok (.aload_n 2, 1) := by decide +kernel
theorem dX8_findDivisor_13 : decode cX8_findDivisor 13 = .ok (.invokestatic 128, 3) := by decide +kernel
theorem dX8_findDivisor_16 : decode cX8_findDivisor 16 = .ok (.aload_n 1, 1) := by decide +kernel
theorem dX8_findDivisor_17 : decode cX8_findDivisor 17 = .ok (.invokestatic 120, 3) := by decide +kernel
theorem dX8_findDivisor_20 : decode cX8_findDivisor 20 = .ok (.aload_n 2, 1) := by decide +kernel
theorem dX8_findDivisor_21 : decode cX8_findDivisor 21 = .ok (.invokestatic 120, 3) := by decide +kernel
theorem dX8_findDivisor_24 : decode cX8_findDivisor 24 = .ok (.if_icmp .le 10, 3) := by decide +kernel
theorem dX8_findDivisor_27 : decode cX8_findDivisor 27 = .ok (.aload_n 1, 1) := by decide +kernel
theorem dX8_findDivisor_28 : decode cX8_findDivisor 28 = .ok (.invokestatic 120, 3) := by decide +kernel
theorem dX8_findDivisor_31 : decode cX8_findDivisor 31 = .ok (.goto 7, 3) := by decide +kernel
theorem dX8_findDivisor_34 : decode cX8_findDivisor 34 = .ok (.aload_n 2, 1) := by decide +kernel
theorem dX8_findDivisor_35 : decode cX8_findDivisor 35 = .ok (.invokestatic 120, 3) := by decide +kernel
theorem dX8_findDivisor_38 : decode cX8_findDivisor 38 = .ok (.istore_n 3, 1) := by decide +kernel
theorem dX8_findDivisor_39 : decode cX8_findDivisor 39 = .ok (.iconst 0, 1) := by decide +kernel
theorem dX8_findDivisor_40 : decode cX8_findDivisor 40 = .ok (.istore 4, 2) := by decide +kernel
theorem dX8_findDivisor_42 : decode cX8_findDivisor 42 = .ok (.aload_n 0, 1) := by decide +kernel
theorem dX8_findDivisor_43 : decode cX8_findDivisor 43 = .ok (.getfield 7, 3) := by decide +kernel
theorem dX8_findDivisor_46 : decode cX8_findDivisor 46 = .ok (.iconst 0, 1) := by decide +kernel
theorem dX8_findDivisor_47 : decode cX8_findDivisor 47 = .ok (.laload, 1) := by decide +kernel
theorem dX8_findDivisor_48 : decode cX8_findDivisor 48 = .ok (.lconst 1, 1) := by decide +kernel
theorem dX8_findDivisor_49 : decode cX8_findDivisor 49 = .ok (.land, 1) := by decide +kernel
theorem dX8_findDivisor_50 : decode cX8_findDivisor 50 = .ok (.lconst 0, 1) := by decide +kernel
theorem dX8_findDivisor_51 : decode cX8_findDivisor 51 = .ok (.lcmp, 1) := by decide +kernel
theorem dX8_findDivisor_52 : decode cX8_findDivisor 52 = .ok (.ifCond .ne 38, 3) := by decide +kernel
theorem dX8_findDivisor_55 : decode cX8_findDivisor 55 = .ok (.aload_n 0, 1) := by decide +kernel
theorem dX8_findDivisor_56 : decode cX8_findDivisor 56 = .ok (.getfield 13, 3) := by decide +kernel
theorem dX8_findDivisor_59 : decode cX8_findDivisor 59 = .ok (.iconst 0, 1) := by decide +kernel
theorem dX8_findDivisor_60 : decode cX8_findDivisor 60 = .ok (.laload, 1) := by decide +kernel
theorem dX8_findDivisor_61 : decode cX8_findDivisor 61 = .ok (.lconst 1, 1) := by decide +kernel
theorem dX8_findDivisor_62 : decode cX8_findDivisor 62 = .ok (.land, 1) := by decide +kernel
theorem dX8_findDivisor_63 : decode cX8_findDivisor 63 = .ok (.lconst 0, 1) := by decide +kernel
theorem dX8_findDivisor_64 : decode cX8_findDivisor 64 = .ok (.lcmp, 1) := by decide +kernel
theorem dX8_findDivisor_65 : decode cX8_findDivisor 65 = .ok (.ifCond .ne 25, 3) := by decide +kernel
theorem dX8_findDivisor_68 : decode cX8_findDivisor 68 = .ok (.aload_n 0, 1) := by decide +kernel
theorem dX8_findDivisor_69 : decode cX8_findDivisor 69 = .ok (.getfield 7, 3) := by decide +kernel
theorem dX8_findDivisor_72 : decode cX8_findDivisor 72 = .ok (.iload_n 3, 1) := by decide +kernel
theorem dX8_findDivisor_73 : decode cX8_findDivisor 73 = .ok (.invokestatic 132, 3) := by decide +kernel
theorem dX8_findDivisor_76 : decode cX8_findDivisor 76 = .ok (.aload_n 0, 1) := by decide +kernel
theorem dX8_findDivisor_77 : decode cX8_findDivisor 77 = .ok (.getfield 13, 3) := by decide +kernel
theorem dX8_findDivisor_80 : decode cX8_findDivisor 80 = .ok (.iload_n 3, 1) := by decide +kernel
theorem dX8_findDivisor_81 : decode cX8_findDivisor 81 = .ok (.invokestatic 132, 3) := by decide +kernel
theorem dX8_findDivisor_84 : decode cX8_findDivisor 84 = .ok (.iinc 4 1, 3) := by decide +kernel
theorem dX8_findDivisor_87 : decode cX8_findDivisor 87 = .ok (.goto (-45), 3) := by decide +kernel
theorem dX8_findDivisor_90 : decode cX8_findDivisor 90 = .ok (.aload_n 0, 1) := by decide +kernel
theorem dX8_findDivisor_91 : decode cX8_findDivisor 91 = .ok (.getfield 7, 3) := by decide +kernel
theorem dX8_findDivisor_94 : decode cX8_findDivisor 94 = .ok (.iconst 0, 1) := by decide +kernel
theorem dX8_findDivisor_95 : decode cX8_findDivisor 95 = .ok (.laload, 1) := by decide +kernel
theorem dX8_findDivisor_96 : decode cX8_findDivisor 96 = .ok (.lconst 1, 1) := by decide +kernel
theorem dX8_findDivisor_97 : decode cX8_findDivisor 97 = .ok (.land, 1) := by decide +kernel
theorem dX8_findDivisor_98 : decode cX8_findDivisor 98 = .ok (.lconst 0, 1) := by decide +kernel
theorem dX8_findDivisor_99 : decode cX8_findDivisor 99 = .ok (.lcmp, 1) := by decide +kernel
theorem dX8_findDivisor_100 : decode cX8_findDivisor 100 = .ok (.ifCond .ne 14, 3) := by decide +kernel
theorem dX8_findDivisor_103 : decode cX8_findDivisor 103 = .ok (.aload_n 0, 1) := by decide +kernel
theorem dX8_findDivisor_104 : decode cX8_findDivisor 104 = .ok (.getfield 7, 3) := by decide +kernel
theorem dX8_findDivisor_107 : decode cX8_findDivisor 107 = .ok (.iload_n 3, 1) := by decide +kernel
theorem dX8_findDivisor_108 : decode cX8_findDivisor 108 = .ok (.invokestatic 132, 3) := by decide +kernel
theorem dX8_findDivisor_111 : decode cX8_findDivisor 111 = .ok (.goto (-21), 3) := by decide +kernel
theorem dX8_findDivisor_114 : decode cX8_findDivisor 114 = .ok (.aload_n 0, 1) := by decide +kernel
theorem dX8_findDivisor_115 : decode cX8_findDivisor 115 = .ok (.getfield 13, 3) := by decide +kernel
theorem dX8_findDivisor_118 : decode cX8_findDivisor 118 = .ok (.invokestatic 120, 3) := by decide +kernel
theorem dX8_findDivisor_121 : decode cX8_findDivisor 121 = .ok (.ifCond .lt 88, 3) := by decide +kernel
theorem dX8_findDivisor_124 : decode cX8_findDivisor 124 = .ok (.aload_n 0, 1) := by decide +kernel
theorem dX8_findDivisor_125 : decode cX8_findDivisor 125 = .ok (.getfield 13, 3) := by decide +kernel
theorem dX8_findDivisor_128 : decode cX8_findDivisor 128 = .ok (.iconst 0, 1) := by decide +kernel
theorem dX8_findDivisor_129 : decode cX8_findDivisor 129 = .ok (.laload, 1) := by decide +kernel
theorem dX8_findDivisor_130 : decode cX8_findDivisor 130 = .ok (.lconst 1, 1) := by decide +kernel
theorem dX8_findDivisor_131 : decode cX8_findDivisor 131 = .ok (.land, 1) := by decide +kernel
theorem dX8_findDivisor_132 : decode cX8_findDivisor 132 = .ok (.lconst 0, 1) := by decide +kernel
theorem dX8_findDivisor_133 : decode cX8_findDivisor 133 = .ok (.lcmp, 1) := by decide +kernel
theorem dX8_findDivisor_134 : decode cX8_findDivisor 134 = .ok (.ifCond .ne 14, 3) := by decide +kernel
theorem dX8_findDivisor_137 : decode cX8_findDivisor 137 = .ok (.aload_n 0, 1) := by decide +kernel
theorem dX8_findDivisor_138 : decode cX8_findDivisor 138 = .ok (.getfield 13, 3) := by decide +kernel
theorem dX8_findDivisor_141 : decode cX8_findDivisor 141 = .ok (.iload_n 3, 1) := by decide +kernel
theorem dX8_findDivisor_142 : decode cX8_findDivisor 142 = .ok (.invokestatic 132, 3) := by decide +kernel
theorem dX8_findDivisor_145 : decode cX8_findDivisor 145 = .ok (.goto (-21), 3) := by decide +kernel
theorem dX8_findDivisor_148 : decode cX8_findDivisor 148 = .ok (.aload_n 0, 1) := by decide +kernel
theorem dX8_findDivisor_149 : decode cX8_findDivisor 149 = .ok (.getfield 7, 3) := by decide +kernel
theorem dX8_findDivisor_152 : decode cX8_findDivisor 152 = .ok (.aload_n 0, 1) := by decide +kernel
theorem dX8_findDivisor_153 : decode cX8_findDivisor 153 = .ok (.getfield 13, 3) := by decide +kernel
theorem dX8_findDivisor_156 : decode cX8_findDivisor 156 = .ok (.invokestatic 136, 3) := by decide +kernel
theorem dX8_findDivisor_159 : decode cX8_findDivisor 159 = .ok (.ifCond .le 36, 3) := by decide +kernel
theorem dX8_findDivisor_162 : decode cX8_findDivisor 162 = .ok (.aload_n 0, 1) := by decide +kernel
theorem dX8_findDivisor_163 : decode cX8_findDivisor 163 = .ok (.getfield 22, 3) := by decide +kernel
theorem dX8_findDivisor_166 : decode cX8_findDivisor 166 = .ok (.aload_n 0, 1) := by decide +kernel
theorem dX8_findDivisor_167 : decode cX8_findDivisor 167 = .ok (.getfield 7, 3) := by decide +kernel
theorem dX8_findDivisor_170 : decode cX8_findDivisor 170 = .ok (.invokestatic 128, 3) := by decide +kernel
theorem dX8_findDivisor_173 : decode cX8_findDivisor 173 = .ok (.aload_n 0, 1) := by decide +kernel
theorem dX8_findDivisor_174 : decode cX8_findDivisor 174 = .ok (.getfield 7, 3) := by decide +kernel
theorem dX8_findDivisor_177 : decode cX8_findDivisor 177 = .ok (.aload_n 0, 1) := by decide +kernel
theorem dX8_findDivisor_178 : decode cX8_findDivisor 178 = .ok (.getfield 13, 3) := by decide +kernel
theorem dX8_findDivisor_181 : decode cX8_findDivisor 181 = .ok (.invokestatic 128, 3) := by decide +kernel
theorem dX8_findDivisor_184 : decode cX8_findDivisor 184 = .ok (.aload_n 0, 1) := by decide +kernel
theorem dX8_findDivisor_185 : decode cX8_findDivisor 185 = .ok (.getfield 13, 3) := by decide +kernel
theorem dX8_findDivisor_188 : decode cX8_findDivisor 188 = .ok (.aload_n 0, 1) := by decide +kernel
theorem dX8_findDivisor_189 : decode cX8_findDivisor 189 = .ok (.getfield 22, 3) := by decide +kernel
theorem dX8_findDivisor_192 : decode cX8_findDivisor 192 = .ok (.invokestatic 128, 3) := by decide +kernel
theorem dX8_findDivisor_195 : decode cX8_findDivisor 195 = .ok (.aload_n 0, 1) := by decide +kernel
theorem dX8_findDivisor_196 : decode cX8_findDivisor 196 = .ok (.getfield 13, 3) := by decide +kernel
theorem dX8_findDivisor_199 : decode cX8_findDivisor 199 = .ok (.aload_n 0, 1) := by decide +kernel
theorem dX8_findDivisor_200 : decode cX8_findDivisor 200 = .ok (.getfield 7, 3) := by decide +kernel
theorem dX8_findDivisor_203 : decode cX8_findDivisor 203 = .ok (.invokestatic 140, 3) := by decide +kernel
theorem dX8_findDivisor_206 : decode cX8_findDivisor 206 = .ok (.goto (-92), 3) := by decide +kernel
theorem dX8_findDivisor_209 : decode cX8_findDivisor 209 = .ok (.aload_n 0, 1) := by decide +kernel
theorem dX8_findDivisor_210 : decode cX8_findDivisor 210 = .ok (.getfield 16, 3) := by decide +kernel
theorem dX8_findDivisor_213 : decode cX8_findDivisor 213 = .ok (.aload_n 0, 1) := by decide +kernel
theorem dX8_findDivisor_214 : decode cX8_findDivisor 214 = .ok (.getfield 7, 3) := by decide +kernel
theorem dX8_findDivisor_217 : decode cX8_findDivisor 217 = .ok (.invokestatic 128, 3) := by decide +kernel
theorem dX8_findDivisor_220 : decode cX8_findDivisor 220 = .ok (.iconst 0, 1) := by decide +kernel
theorem dX8_findDivisor_221 : decode cX8_findDivisor 221 = .ok (.istore 5, 2) := by decide +kernel
theorem dX8_findDivisor_223 : decode cX8_findDivisor 223 = .ok (.iload 5, 2) := by decide +kernel
theorem dX8_findDivisor_225 : decode cX8_findDivisor 225 = .ok (.iload 4, 2) := by decide +kernel
theorem dX8_findDivisor_227 : decode cX8_findDivisor 227 = .ok (.if_icmp .ge 17, 3) := by decide +kernel
theorem dX8_findDivisor_230 : decode cX8_findDivisor 230 = .ok (.aload_n 0, 1) := by decide +kernel
theorem dX8_findDivisor_231 : decode cX8_findDivisor 231 = .ok (.getfield 16, 3) := by decide +kernel
theorem dX8_findDivisor_234 : decode cX8_findDivisor 234 = .ok (.lconst 0, 1) := by decide +kernel
theorem dX8_findDivisor_235 : decode cX8_findDivisor 235 = .ok (.invokestatic 143, 3) := by decide +kernel
theorem dX8_findDivisor_238 : decode cX8_findDivisor 238 = .ok (.iinc 5 1, 3) := by decide +kernel
theorem dX8_findDivisor_241 : decode cX8_findDivisor 241 = .ok (.goto (-18), 3) := by decide +kernel
theorem dX8_findDivisor_244 : decode cX8_findDivisor 244 = .ok (.return_, 1) := by decide +kernel
theorem dX8_divide_0 : decode cX8_divide 0 = .ok (.aload_n 0, 1) := by decide +kernel
theorem dX8_divide_1 : decode cX8_divide 1 = .ok (.getfield 19, 3) := by decide +kernel
theorem dX8_divide_4 : decode cX8_divide 4 = .ok (.lconst 0, 1) := by decide +kernel
theorem dX8_divide_5 : decode cX8_divide 5 = .ok (.invokestatic 124, 3) := by decide +kernel
theorem dX8_divide_8 : decode cX8_divide 8 = .ok (.aload_n 0, 1) := by decide +kernel
theorem dX8_divide_9 : decode cX8_divide 9 = .ok (.getfield 22, 3) := by decide +kernel
theorem dX8_divide_12 : decode cX8_divide 12 = .ok (.lconst 0, 1) := by decide +kernel
theorem dX8_divide_13 : decode cX8_divide 13 = .ok (.invokestatic 124, 3) := by decide +kernel
theorem dX8_divide_16 : decode cX8_divide 16 = .ok (.aload_n 1, 1) := by decide +kernel
theorem dX8_divide_17 : decode cX8_divide 17 = .ok (.invokestatic 146, 3) := by decide +kernel
theorem dX8_divide_20 : decode cX8_divide 20 = .ok (.iconst 1, 1) := by decide +kernel
theorem dX8_divide_21 : decode cX8_divide 21 = .ok (.isub, 1) := by decide +kernel
theorem dX8_divide_22 : decode cX8_divide 22 = .ok (.istore_n 3, 1) := by decide +kernel
theorem dX8_divide_23 : decode cX8_divide 23 = .ok (.iload_n 3, 1) := by decide +kernel
theorem dX8_divide_24 : decode cX8_divide 24 = .ok (.ifCond .lt 69, 3) := by decide +kernel
theorem dX8_divide_27 : decode cX8_divide 27 = .ok (.aload_n 0, 1) := by decide +kernel
theorem dX8_divide_28 : decode cX8_divide 28 = .ok (.getfield 22, 3) := by decide +kernel
theorem dX8_divide_31 : decode cX8_divide 31 = .ok (.aload_n 1, 1) := by decide +kernel
theorem dX8_divide_32 : decode cX8_divide 32 = .ok (.iload_n 3, 1) := by decide +kernel
theorem dX8_divide_33 : decode cX8_divide 33 = .ok (.invokestatic 149, 3) := by decide +kernel
theorem dX8_divide_36 : decode cX8_divide 36 = .ok (.invokestatic 143, 3) := by decide +kernel
theorem dX8_divide_39 : decode cX8_divide 39 = .ok (.aload_n 0, 1) := by decide +kernel
theorem dX8_divide_40 : decode cX8_divide 40 = .ok (.getfield 22, 3) := by decide +kernel
theorem dX8_divide_43 : decode cX8_divide 43 = .ok (.aload_n 2, 1) := by decide +kernel
theorem dX8_divide_44 : decode cX8_divide 44 = .ok (.invokestatic 136, 3) := by decide +kernel
theorem dX8_divide_47 : decode cX8_divide 47 = .ok (.ifCond .lt 7, 3) := by decide +kernel
theorem dX8_divide_50 : decode cX8_divide 50 = .ok (.iconst 1, 1) := by decide +kernel
theorem dX8_divide_51 : decode cX8_divide 51 = .ok (.goto 4, 3) := by decide +kernel
theorem dX8_divide_54 : decode cX8_divide 54 = .ok (.iconst 0, 1) := by decide +kernel
theorem dX8_divide_55 : decode cX8_divide 55 = .ok (.istore 4, 2) := by decide +kernel
theorem dX8_divide_57 : decode cX8_divide 57 = .ok (.iload 4, 2) := by decide +kernel
theorem dX8_divide_59 : decode cX8_divide 59 = .ok (.ifCond .eq 11, 3) := by decide +kernel
theorem dX8_divide_62 : decode cX8_divide 62 = .ok (.aload_n 0, 1) := by decide +kernel
theorem dX8_divide_63 : decode cX8_divide 63 = .ok (.getfield 22, 3) := by decide +kernel
theorem dX8_divide_66 : decode cX8_divide 66 = .ok (.aload_n 2, 1) := by decide +kernel
theorem dX8_divide_67 : decode cX8_divide 67 = .ok (.invokestatic 140, 3) := by decide +kernel
theorem dX8_divide_70 : decode cX8_divide 70 = .ok (.aload_n 0, 1) := by decide +kernel
theorem dX8_divide_71 : decode cX8_divide 71 = .ok (.getfield 19, 3) := by decide +kernel
theorem dX8_divide_74 : decode cX8_divide 74 = .ok (.iload 4, 2) := by decide +kernel
theorem dX8_divide_76 : decode cX8_divide 76 = .ok (.ifCond .eq 7, 3) := by decide +kernel
theorem dX8_divide_79 : decode cX8_divide 79 = .ok (.lconst 1, 1) := by decide +kernel
theorem dX8_divide_80 : decode cX8_divide 80 = .ok (.goto 4, 3) := by decide +kernel
theorem dX8_divide_83 : decode cX8_divide 83 = .ok (.lconst 0, 1) := by decide +kernel
theorem dX8_divide_84 : decode cX8_divide 84 = .ok (.invokestatic 143, 3) := by decide +kernel
theorem dX8_divide_87 : decode cX8_divide 87 = .ok (.iinc 3 (-1), 3) := by decide +kernel
theorem dX8_divide_90 : decode cX8_divide 90 = .ok (.goto (-67), 3) := by decide +kernel
theorem dX8_divide_93 : decode cX8_divide 93 = .ok (.return_, 1) := by decide +kernel
theorem dX8_isPlace_0 : decode cX8_isPlace 0 = .ok (.iload_n 0, 1) := by decide +kernel
theorem dX8_isPlace_1 : decode cX8_isPlace 1 = .ok (.iconst 0, 1) := by decide +kernel
theorem dX8_isPlace_2 : decode cX8_isPlace 2 = .ok (.bipush 15, 2) := by decide +kernel
theorem dX8_isPlace_4 : decode cX8_isPlace 4 = .ok (.invokestatic 153, 3) := by decide +kernel
theorem dX8_isPlace_7 : decode cX8_isPlace 7 = .ok (.ireturn, 1) := by decide +kernel
theorem dX8_lowest_0 : decode cX8_lowest 0 = .ok (.aload_n 0, 1) := by decide +kernel
theorem dX8_lowest_1 : decode cX8_lowest 1 = .ok (.getfield 35, 3) := by decide +kernel
theorem dX8_lowest_4 : decode cX8_lowest 4 = .ok (.invokestatic 120, 3) := by decide +kernel
theorem dX8_lowest_7 : decode cX8_lowest 7 = .ok (.ifCond .ge 12, 3) := by decide +kernel
theorem dX8_lowest_10 : decode cX8_lowest 10 = .ok (.aload_n 0, 1) := by decide +kernel
theorem dX8_lowest_11 : decode cX8_lowest 11 = .ok (.getfield 38, 3) := by decide +kernel
theorem dX8_lowest_14 : decode cX8_lowest 14 = .ok (.lconst 1, 1) := by decide +kernel
theorem dX8_lowest_15 : decode cX8_lowest 15 = .ok (.invokestatic 124, 3) := by decide +kernel
theorem dX8_lowest_18 : decode cX8_lowest 18 = .ok (.return_, 1) := by decide +kernel
theorem dX8_lowest_19 : decode cX8_lowest 19 = .ok (.aload_n 0, 1) := by decide +kernel
theorem dX8_lowest_20 : decode cX8_lowest 20 = .ok (.aload_n 0, 1) := by decide +kernel
theorem dX8_lowest_21 : decode cX8_lowest 21 = .ok (.getfield 35, 3) := by decide +kernel
theorem dX8_lowest_24 : decode cX8_lowest 24 = .ok (.aload_n 0, 1) := by decide +kernel
theorem dX8_lowest_25 : decode cX8_lowest 25 = .ok (.getfield 38, 3) := by decide +kernel
theorem dX8_lowest_28 : decode cX8_lowest 28 = .ok (.invokevirtual 157, 3) := by decide +kernel
theorem dX8_lowest_31 : decode cX8_lowest 31 = .ok (.aload_n 0, 1) := by decide +kernel
theorem dX8_lowest_32 : decode cX8_lowest 32 = .ok (.getfield 16, 3) := by decide +kernel
theorem dX8_lowest_35 : decode cX8_lowest 35 = .ok (.invokestatic 146, 3) := by decide +kernel
theorem dX8_lowest_38 : decode cX8_lowest 38 = .ok (.iconst 1, 1) := by decide +kernel
theorem dX8_lowest_39 : decode cX8_lowest 39 = .ok (.if_icmp .le 49, 3) := by decide +kernel
theorem dX8_lowest_42 : decode cX8_lowest 42 = .ok (.aload_n 0, 1) := by decide +kernel
theorem dX8_lowest_43 : decode cX8_lowest 43 = .ok (.aload_n 0, 1) := by decide +kernel
theorem dX8_lowest_44 : decode cX8_lowest 44 = .ok (.getfield 35, 3) := by decide +kernel
theorem dX8_lowest_47 : decode cX8_lowest 47 = .ok (.aload_n 0, 1) := by decide +kernel
theorem dX8_lowest_48 : decode cX8_lowest 48 = .ok (.getfield 16, 3) := by decide +kernel
theorem dX8_lowest_51 : decode cX8_lowest 51 = .ok (.invokevirtual 160, 3) := by decide +kernel
theorem dX8_lowest_54 : decode cX8_lowest 54 = .ok (.aload_n 0, 1) := by decide +kernel
theorem dX8_lowest_55 : decode cX8_lowest 55 = .ok (.getfield 35, 3) := by decide +kernel
theorem dX8_lowest_58 : decode cX8_lowest 58 = .ok (.aload_n 0, 1) := by decide +kernel
theorem dX8_lowest_59 : decode cX8_lowest 59 = .ok (.getfield 19, 3) := by decide +kernel
theorem dX8_lowest_62 : decode cX8_lowest 62 = .ok (.invokestatic 128, 3) := by decide +kernel
theorem dX8_lowest_65 : decode cX8_lowest 65 = .ok (.aload_n 0, 1) := by decide +kernel
theorem dX8_lowest_66 : decode cX8_lowest 66 = .ok (.aload_n 0, 1) := by decide +kernel
theorem dX8_lowest_67 : decode cX8_lowest 67 = .ok (.getfield 38, 3) := by decide +kernel
theorem dX8_lowest_70 : decode cX8_lowest 70 = .ok (.aload_n 0, 1) := by decide +kernel
theorem dX8_lowest_71 : decode cX8_lowest 71 = .ok (.getfield 16, 3) := by decide +kernel
theorem dX8_lowest_74 : decode cX8_lowest 74 = .ok (.invokevirtual 160, 3) := by decide +kernel
theorem dX8_lowest_77 : decode cX8_lowest 77 = .ok (.aload_n 0, 1) := by decide +kernel
theorem dX8_lowest_78 : decode cX8_lowest 78 = .ok (.getfield 38, 3) := by decide +kernel
theorem dX8_lowest_81 : decode cX8_lowest 81 = .ok (.aload_n 0, 1) := by decide +kernel
theorem dX8_lowest_82 : decode cX8_lowest 82 = .ok (.getfield 19, 3) := by decide +kernel
theorem dX8_lowest_85 : decode cX8_lowest 85 = .ok (.invokestatic 128, 3) := by decide +kernel
theorem dX8_lowest_88 : decode cX8_lowest 88 = .ok (.return_, 1) := by decide +kernel
theorem dX8_give_0 : decode cX8_give 0 = .ok (.aload_n 0, 1) := by decide +kernel
theorem dX8_give_1 : decode cX8_give 1 = .ok (.invokevirtual 163, 3) := by decide +kernel
theorem dX8_give_4 : decode cX8_give 4 = .ok (.aload_n 0, 1) := by decide +kernel
theorem dX8_give_5 : decode cX8_give 5 = .ok (.getfield 35, 3) := by decide +kernel
theorem dX8_give_8 : decode cX8_give 8 = .ok (.invokestatic 146, 3) := by decide +kernel
theorem dX8_give_11 : decode cX8_give 11 = .ok (.sipush 1024, 3) := by decide +kernel
theorem dX8_give_14 : decode cX8_give 14 = .ok (.if_icmp .gt 16, 3) := by decide +kernel
theorem dX8_give_17 : decode cX8_give 17 = .ok (.aload_n 0, 1) := by decide +kernel
theorem dX8_give_18 : decode cX8_give 18 = .ok (.getfield 38, 3) := by decide +kernel
theorem dX8_give_21 : decode cX8_give 21 = .ok (.invokestatic 146, 3) := by decide +kernel
theorem dX8_give_24 : decode cX8_give 24 = .ok (.sipush 1024, 3) := by decide +kernel
theorem dX8_give_27 : decode cX8_give 27 = .ok (.if_icmp .le 6, 3) := by decide +kernel
theorem dX8_give_30 : decode cX8_give 30 = .ok (.bipush (-4), 2) := by decide +kernel
theorem dX8_give_32 : decode cX8_give 32 = .ok (.ireturn, 1) := by decide +kernel
theorem dX8_give_33 : decode cX8_give 33 = .ok (.aload_n 0, 1) := by decide +kernel
theorem dX8_give_34 : decode cX8_give 34 = .ok (.getfield 25, 3) := by decide +kernel
theorem dX8_give_37 : decode cX8_give 37 = .ok (.bipush 40, 2) := by decide +kernel
theorem dX8_give_39 : decode cX8_give 39 = .ok (.iload_n 1, 1) := by decide +kernel
theorem dX8_give_40 : decode cX8_give 40 = .ok (.imul, 1) := by decide +kernel
theorem dX8_give_41 : decode cX8_give 41 = .ok (.bipush 40, 2) := by decide +kernel
theorem dX8_give_43 : decode cX8_give 43 = .ok (.aload_n 0, 1) := by decide +kernel
theorem dX8_give_44 : decode cX8_give 44 = .ok (.getfield 35, 3) := by decide +kernel
theorem dX8_give_47 : decode cX8_give 47 = .ok (.invokestatic 166, 3) := by decide +kernel
theorem dX8_give_50 : decode cX8_give 50 = .ok (.aload_n 0, 1) := by decide +kernel
theorem dX8_give_51 : decode cX8_give 51 = .ok (.getfield 28, 3) := by decide +kernel
theorem dX8_give_54 : decode cX8_give 54 = .ok (.bipush 40, 2) := by decide +kernel
theorem dX8_give_56 : decode cX8_give 56 = .ok (.iload_n 1, 1) := by decide +kernel
theorem dX8_give_57 : decode cX8_give 57 = .ok (.imul, 1) := by decide +kernel
theorem dX8_give_58 : decode cX8_give 58 = .ok (.bipush 40, 2) := by decide +kernel
theorem dX8_give_60 : decode cX8_give 60 = .ok (.aload_n 0, 1) := by decide +kernel
theorem dX8_give_61 : decode cX8_give 61 = .ok (.getfield 38, 3) := by decide +kernel
theorem dX8_give_64 : decode cX8_give 64 = .ok (.invokestatic 166, 3) := by decide +kernel
theorem dX8_give_67 : decode cX8_give 67 = .ok (.aload_n 0, 1) := by decide +kernel
theorem dX8_give_68 : decode cX8_give 68 = .ok (.getfield 31, 3) := by decide +kernel
theorem dX8_give_71 : decode cX8_give 71 = .ok (.iload_n 1, 1) := by decide +kernel
theorem dX8_give_72 : decode cX8_give 72 = .ok (.iconst 1, 1) := by decide +kernel
theorem dX8_give_73 : decode cX8_give 73 = .ok (.bastore, 1) := by decide +kernel
theorem dX8_give_74 : decode cX8_give 74 = .ok (.iconst 1, 1) := by decide +kernel
theorem dX8_give_75 : decode cX8_give 75 = .ok (.ireturn, 1) := by decide +kernel
theorem dX8_takeLeft_0 : decode cX8_takeLeft 0 = .ok (.aload_n 0, 1) := by decide +kernel
theorem dX8_takeLeft_1 : decode cX8_takeLeft 1 = .ok (.getfield 41, 3) := by decide +kernel
theorem dX8_takeLeft_4 : decode cX8_takeLeft 4 = .ok (.aload_n 0, 1) := by decide +kernel
theorem dX8_takeLeft_5 : decode cX8_takeLeft 5 = .ok (.getfield 25, 3) := by decide +kernel
theorem dX8_takeLeft_8 : decode cX8_takeLeft 8 = .ok (.bipush 40, 2) := by decide +kernel
theorem dX8_takeLeft_10 : decode cX8_takeLeft 10 = .ok (.iload_n 1, 1) := by decide +kernel
theorem dX8_takeLeft_11 : decode cX8_takeLeft 11 = .ok (.imul, 1) := by decide +kernel
theorem dX8_takeLeft_12 : decode cX8_takeLeft 12 = .ok (.bipush 40, 2) := by decide +kernel
theorem dX8_takeLeft_14 : decode cX8_takeLeft 14 = .ok (.invokestatic 170, 3) := by decide +kernel
theorem dX8_takeLeft_17 : decode cX8_takeLeft 17 = .ok (.aload_n 0, 1) := by decide +kernel
theorem dX8_takeLeft_18 : decode cX8_takeLeft 18 = .ok (.getfield 44, 3) := by decide +kernel
theorem dX8_takeLeft_21 : decode cX8_takeLeft 21 = .ok (.aload_n 0, 1) := by decide +kernel
theorem dX8_takeLeft_22 : decode cX8_takeLeft 22 = .ok (.getfield 28, 3) := by decide +kernel
theorem dX8_takeLeft_25 : decode cX8_takeLeft 25 = .ok (.bipush 40, 2) := by decide +kernel
theorem dX8_takeLeft_27 : decode cX8_takeLeft 27 = .ok (.iload_n 1, 1) := by decide +kernel
theorem dX8_takeLeft_28 : decode cX8_takeLeft 28 = .ok (.imul, 1) := by decide +kernel
theorem dX8_takeLeft_29 : decode cX8_takeLeft 29 = .ok (.bipush 40, 2) := by decide +kernel
theorem dX8_takeLeft_31 : decode cX8_takeLeft 31 = .ok (.invokestatic 170, 3) := by decide +kernel
theorem dX8_takeLeft_34 : decode cX8_takeLeft 34 = .ok (.return_, 1) := by decide +kernel
theorem dX8_takeRight_0 : decode cX8_takeRight 0 = .ok (.aload_n 0, 1) := by decide +kernel
theorem dX8_takeRight_1 : decode cX8_takeRight 1 = .ok (.getfield 47, 3) := by decide +kernel
theorem dX8_takeRight_4 : decode cX8_takeRight 4 = .ok (.aload_n 0, 1) := by decide +kernel
theorem dX8_takeRight_5 : decode cX8_takeRight 5 = .ok (.getfield 25, 3) := by decide +kernel
theorem dX8_takeRight_8 : decode cX8_takeRight 8 = .ok (.bipush 40, 2) := by decide +kernel
theorem dX8_takeRight_10 : decode cX8_takeRight 10 = .ok (.iload_n 1, 1) := by decide +kernel
theorem dX8_takeRight_11 : decode cX8_takeRight 11 = .ok (.imul, 1) := by decide +kernel
theorem dX8_takeRight_12 : decode cX8_takeRight 12 = .ok (.bipush 40, 2) := by decide +kernel
theorem dX8_takeRight_14 : decode cX8_takeRight 14 = .ok (.invokestatic 170, 3) := by decide +kernel
theorem dX8_takeRight_17 : decode cX8_takeRight 17 = .ok (.aload_n 0, 1) := by decide +kernel
theorem dX8_takeRight_18 : decode cX8_takeRight 18 = .ok (.getfield 50, 3) := by decide +kernel
theorem dX8_takeRight_21 : decode cX8_takeRight 21 = .ok (.aload_n 0, 1) := by decide +kernel
theorem dX8_takeRight_22 : decode cX8_takeRight 22 = .ok (.getfield 28, 3) := by decide +kernel
theorem dX8_takeRight_25 : decode cX8_takeRight 25 = .ok (.bipush 40, 2) := by decide +kernel
theorem dX8_takeRight_27 : decode cX8_takeRight 27 = .ok (.iload_n 1, 1) := by decide +kernel
theorem dX8_takeRight_28 : decode cX8_takeRight 28 = .ok (.imul, 1) := by decide +kernel
theorem dX8_takeRight_29 : decode cX8_takeRight 29 = .ok (.bipush 40, 2) := by decide +kernel
theorem dX8_takeRight_31 : decode cX8_takeRight 31 = .ok (.invokestatic 170, 3) := by decide +kernel
theorem dX8_takeRight_34 : decode cX8_takeRight 34 = .ok (.return_, 1) := by decide +kernel
theorem dX8_ordered_0 : decode cX8_ordered 0 = .ok (.aload_n 0, 1) := by decide +kernel
theorem dX8_ordered_1 : decode cX8_ordered 1 = .ok (.getfield 53, 3) := by decide +kernel
theorem dX8_ordered_4 : decode cX8_ordered 4 = .ok (.aload_n 0, 1) := by decide +kernel
theorem dX8_ordered_5 : decode cX8_ordered 5 = .ok (.getfield 41, 3) := by decide +kernel
theorem dX8_ordered_8 : decode cX8_ordered 8 = .ok (.aload_n 0, 1) := by decide +kernel
theorem dX8_ordered_9 : decode cX8_ordered 9 = .ok (.getfield 50, 3) := by decide +kernel
theorem dX8_ordered_12 : decode cX8_ordered 12 = .ok (.invokestatic 174, 3) := by decide +kernel
theorem dX8_ordered_15 : decode cX8_ordered 15 = .ok (.aload_n 0, 1) := by decide +kernel
theorem dX8_ordered_16 : decode cX8_ordered 16 = .ok (.getfield 56, 3) := by decide +kernel
theorem dX8_ordered_19 : decode cX8_ordered 19 = .ok (.aload_n 0, 1) := by decide +kernel
theorem dX8_ordered_20 : decode cX8_ordered 20 = .ok (.getfield 47, 3) := by decide +kernel
theorem dX8_ordered_23 : decode cX8_ordered 23 = .ok (.aload_n 0, 1) := by decide +kernel
theorem dX8_ordered_24 : decode cX8_ordered 24 = .ok (.getfield 44, 3) := by decide +kernel
theorem dX8_ordered_27 : decode cX8_ordered 27 = .ok (.invokestatic 174, 3) := by decide +kernel
theorem dX8_ordered_30 : decode cX8_ordered 30 = .ok (.aload_n 0, 1) := by decide +kernel
theorem dX8_ordered_31 : decode cX8_ordered 31 = .ok (.getfield 53, 3) := by decide +kernel
theorem dX8_ordered_34 : decode cX8_ordered 34 = .ok (.aload_n 0, 1) := by decide +kernel
theorem dX8_ordered_35 : decode cX8_ordered 35 = .ok (.getfield 56, 3) := by decide +kernel
theorem dX8_ordered_38 : decode cX8_ordered 38 = .ok (.invokestatic 136, 3) := by decide +kernel
theorem dX8_ordered_41 : decode cX8_ordered 41 = .ok (.ireturn, 1) := by decide +kernel
theorem dX8_at_0 : decode cX8_at 0 = .ok (.bipush 10, 2) := by decide +kernel
theorem dX8_at_2 : decode cX8_at 2 = .ok (.bipush 121, 2) := by decide +kernel
theorem dX8_at_4 : decode cX8_at 4 = .ok (.iload_n 0, 1) := by decide +kernel
theorem dX8_at_5 : decode cX8_at 5 = .ok (.imul, 1) := by decide +kernel
theorem dX8_at_6 : decode cX8_at 6 = .ok (.iload_n 1, 1) := by decide +kernel
theorem dX8_at_7 : decode cX8_at 7 = .ok (.iadd, 1) := by decide +kernel
theorem dX8_at_8 : decode cX8_at 8 = .ok (.imul, 1) := by decide +kernel
theorem dX8_at_9 : decode cX8_at 9 = .ok (.ireturn, 1) := by decide +kernel
theorem dX8_isSource_0 : decode cX8_isSource 0 = .ok (.iload_n 1, 1) := by decide +kernel
theorem dX8_isSource_1 : decode cX8_isSource 1 = .ok (.iconst 0, 1) := by decide +kernel
theorem dX8_isSource_2 : decode cX8_isSource 2 = .ok (.aload_n 0, 1) := by decide +kernel
theorem dX8_isSource_3 : decode cX8_isSource 3 = .ok (.getfield 178, 3) := by decide +kernel
theorem dX8_isSource_6 : decode cX8_isSource 6 = .ok (.iconst 1, 1) := by decide +kernel
theorem dX8_isSource_7 : decode cX8_isSource 7 = .ok (.isub, 1) := by decide +kernel
theorem dX8_isSource_8 : decode cX8_isSource 8 = .ok (.invokestatic 153, 3) := by decide +kernel
theorem dX8_isSource_11 : decode cX8_isSource 11 = .ok (.ireturn, 1) := by decide +kernel
theorem dX8_weight_0 : decode cX8_weight 0 = .ok (.iload_n 1, 1) := by decide +kernel
theorem dX8_weight_1 : decode cX8_weight 1 = .ok (.iconst 0, 1) := by decide +kernel
theorem dX8_weight_2 : decode cX8_weight 2 = .ok (.sipush 1000, 3) := by decide +kernel
theorem dX8_weight_5 : decode cX8_weight 5 = .ok (.invokestatic 153, 3) := by decide +kernel
theorem dX8_weight_8 : decode cX8_weight 8 = .ok (.ifCond .ne 5, 3) := by decide +kernel
theorem dX8_weight_11 : decode cX8_weight 11 = .ok (.iconst (-1), 1) := by decide +kernel
theorem dX8_weight_12 : decode cX8_weight 12 = .ok (.ireturn, 1) := by decide +kernel
theorem dX8_weight_13 : decode cX8_weight 13 = .ok (.aload_n 0, 1) := by decide +kernel
theorem dX8_weight_14 : decode cX8_weight 14 = .ok (.getfield 181, 3) := by decide +kernel
theorem dX8_weight_17 : decode cX8_weight 17 = .ok (.bipush 8, 2) := by decide +kernel
theorem dX8_weight_19 : decode cX8_weight 19 = .ok (.if_icmp .ne 6, 3) := by decide +kernel
theorem dX8_weight_22 : decode cX8_weight 22 = .ok (.bipush (-3), 2) := by decide +kernel
theorem dX8_weight_24 : decode cX8_weight 24 = .ok (.ireturn, 1) := by decide +kernel
theorem dX8_weight_25 : decode cX8_weight 25 = .ok (.aload_n 0, 1) := by decide +kernel
theorem dX8_weight_26 : decode cX8_weight 26 = .ok (.getfield 72, 3) := by decide +kernel
theorem dX8_weight_29 : decode cX8_weight 29 = .ok (.aload_n 0, 1) := by decide +kernel
theorem dX8_weight_30 : decode cX8_weight 30 = .ok (.getfield 181, 3) := by decide +kernel
theorem dX8_weight_33 : decode cX8_weight 33 = .ok (.iload_n 1, 1) := by decide +kernel
theorem dX8_weight_34 : decode cX8_weight 34 = .ok (.iastore, 1) := by decide +kernel
theorem dX8_weight_35 : decode cX8_weight 35 = .ok (.aload_n 0, 1) := by decide +kernel
theorem dX8_weight_36 : decode cX8_weight 36 = .ok (.dup, 1) := by decide +kernel
theorem dX8_weight_37 : decode cX8_weight 37 = .ok (.getfield 181, 3) := by decide +kernel
theorem dX8_weight_40 : decode cX8_weight 40 = .ok (.iconst 1, 1) := by decide +kernel
theorem dX8_weight_41 : decode cX8_weight 41 = .ok (.iadd, 1) := by decide +kernel
theorem dX8_weight_42 : decode cX8_weight 42 = .ok (.putfield 181, 3) := by decide +kernel
theorem dX8_weight_45 : decode cX8_weight 45 = .ok (.aload_n 0, 1) := by decide +kernel
theorem dX8_weight_46 : decode cX8_weight 46 = .ok (.getfield 181, 3) := by decide +kernel
theorem dX8_weight_49 : decode cX8_weight 49 = .ok (.ireturn, 1) := by decide +kernel
theorem dX8_wipe_0 : decode cX8_wipe 0 = .ok (.aload_n 0, 1) := by decide +kernel
theorem dX8_wipe_1 : decode cX8_wipe 1 = .ok (.getfield 181, 3) := by decide +kernel
theorem dX8_wipe_4 : decode cX8_wipe 4 = .ok (.istore_n 1, 1) := by decide +kernel
theorem dX8_wipe_5 : decode cX8_wipe 5 = .ok (.aload_n 0, 1) := by decide +kernel
theorem dX8_wipe_6 : decode cX8_wipe 6 = .ok (.iconst 0, 1) := by decide +kernel
theorem dX8_wipe_7 : decode cX8_wipe 7 = .ok (.putfield 181, 3) := by decide +kernel
theorem dX8_wipe_10 : decode cX8_wipe 10 = .ok (.iload_n 1, 1) := by decide +kernel
theorem dX8_wipe_11 : decode cX8_wipe 11 = .ok (.ireturn, 1) := by decide +kernel
theorem dX8_choose_0 : decode cX8_choose 0 = .ok (.iload_n 1, 1) := by decide +kernel
theorem dX8_choose_1 : decode cX8_choose 1 = .ok (.ifCond .lt 8, 3) := by decide +kernel
theorem dX8_choose_4 : decode cX8_choose 4 = .ok (.iload_n 1, 1) := by decide +kernel
theorem dX8_choose_5 : decode cX8_choose 5 = .ok (.iload_n 0, 1) := by decide +kernel
theorem dX8_choose_6 : decode cX8_choose 6 = .ok (.if_icmp .le 5, 3) := by decide +kernel
theorem dX8_choose_9 : decode cX8_choose 9 = .ok (.lconst 0, 1) := by decide +kernel
theorem dX8_choose_10 : decode cX8_choose 10 = .ok (.lreturn, 1) := by decide +kernel
theorem dX8_choose_11 : decode cX8_choose 11 = .ok (.lconst 1, 1) := by decide +kernel
theorem dX8_choose_12 : decode cX8_choose 12 = .ok (.lstore_n 2, 1) := by decide +kernel
theorem dX8_choose_13 : decode cX8_choose 13 = .ok (.iconst 1, 1) := by decide +kernel
theorem dX8_choose_14 : decode cX8_choose 14 = .ok (.istore 4, 2) := by decide +kernel
theorem dX8_choose_16 : decode cX8_choose 16 = .ok (.iload 4, 2) := by decide +kernel
theorem dX8_choose_18 : decode cX8_choose 18 = .ok (.iload_n 1, 1) := by decide +kernel
theorem dX8_choose_19 : decode cX8_choose 19 = .ok (.if_icmp .gt 23, 3) := by decide +kernel
theorem dX8_choose_22 : decode cX8_choose 22 = .ok (.lload_n 2, 1) := by decide +kernel
theorem dX8_choose_23 : decode cX8_choose 23 = .ok (.iload_n 0, 1) := by decide +kernel
theorem dX8_choose_24 : decode cX8_choose 24 = .ok (.iload_n 1, 1) := by decide +kernel
theorem dX8_choose_25 : decode cX8_choose 25 = .ok (.isub, 1) := by decide +kernel
theorem dX8_choose_26 : decode cX8_choose 26 = .ok (.iload 4, 2) := by decide +kernel
theorem dX8_choose_28 : decode cX8_choose 28 = .ok (.iadd, 1) := by decide +kernel
theorem dX8_choose_29 : decode cX8_choose 29 = .ok (.i2l, 1) := by decide +kernel
theorem dX8_choose_30 : decode cX8_choose 30 = .ok (.lmul, 1) := by decide +kernel
theorem dX8_choose_31 : decode cX8_choose 31 = .ok (.iload 4, 2) := by decide +kernel
theorem dX8_choose_33 : decode cX8_choose 33 = .ok (.i2l, 1) := by decide +kernel
theorem dX8_choose_34 : decode cX8_choose 34 = .ok (.ldiv, 1) := by decide +kernel
theorem dX8_choose_35 : decode cX8_choose 35 = .ok (.lstore_n 2, 1) := by decide +kernel
theorem dX8_choose_36 : decode cX8_choose 36 = .ok (.iinc 4 1, 3) := by decide +kernel
theorem dX8_choose_39 : decode cX8_choose 39 = .ok (.goto (-23), 3) := by decide +kernel
theorem dX8_choose_42 : decode cX8_choose 42 = .ok (.lload_n 2, 1) := by decide +kernel
theorem dX8_choose_43 : decode cX8_choose 43 = .ok (.lreturn, 1) := by decide +kernel
theorem dX8_power_0 : decode cX8_power 0 = .ok (.iconst 0, 1) := by decide +kernel
theorem dX8_power_1 : decode cX8_power 1 = .ok (.istore 5, 2) := by decide +kernel
theorem dX8_power_3 : decode cX8_power 3 = .ok (.iload 5, 2) := by decide +kernel
theorem dX8_power_5 : decode cX8_power 5 = .ok (.iload 4, 2) := by decide +kernel
theorem dX8_power_7 : decode cX8_power 7 = .ok (.if_icmp .ge 14, 3) := by decide +kernel
theorem dX8_power_10 : decode cX8_power 10 = .ok (.aload_n 1, 1) := by decide +kernel
theorem dX8_power_11 : decode cX8_power 11 = .ok (.lload_n 2, 1) := by decide +kernel
theorem dX8_power_12 : decode cX8_power 12 = .ok (.invokestatic 184, 3) := by decide +kernel
theorem dX8_power_15 : decode cX8_power 15 = .ok (.iinc 5 1, 3) := by decide +kernel
theorem dX8_power_18 : decode cX8_power 18 = .ok (.goto (-15), 3) := by decide +kernel
theorem dX8_power_21 : decode cX8_power 21 = .ok (.return_, 1) := by decide +kernel
theorem dX8_comes_0 : decode cX8_comes 0 = .ok (.aload_n 0, 1) := by decide +kernel
theorem dX8_comes_1 : decode cX8_comes 1 = .ok (.getfield 84, 3) := by decide +kernel
theorem dX8_comes_4 : decode cX8_comes 4 = .ok (.lconst 0, 1) := by decide +kernel
theorem dX8_comes_5 : decode cX8_comes 5 = .ok (.invokestatic 124, 3) := by decide +kernel
theorem dX8_comes_8 : decode cX8_comes 8 = .ok (.iconst 0, 1) := by decide +kernel
theorem dX8_comes_9 : decode cX8_comes 9 = .ok (.istore_n 3, 1) := by decide +kernel
theorem dX8_comes_10 : decode cX8_comes 10 = .ok (.iload_n 3, 1) := by decide +kernel
theorem dX8_comes_11 : decode cX8_comes 11 = .ok (.iload_n 2, 1) := by decide +kernel
theorem dX8_comes_12 : decode cX8_comes 12 = .ok (.if_icmp .gt 41, 3) := by decide +kernel
theorem dX8_comes_15 : decode cX8_comes 15 = .ok (.aload_n 0, 1) := by decide +kernel
theorem dX8_comes_16 : decode cX8_comes 16 = .ok (.getfield 75, 3) := by decide +kernel
theorem dX8_comes_19 : decode cX8_comes 19 = .ok (.aload_n 0, 1) := by decide +kernel
theorem dX8_comes_20 : decode cX8_comes 20 = .ok (.getfield 66, 3) := by decide +kernel
theorem dX8_comes_23 : decode cX8_comes 23 = .ok (.aload_n 0, 1) := by decide +kernel
theorem dX8_comes_24 : decode cX8_comes 24 = .ok (.getfield 178, 3) := by decide +kernel
theorem dX8_comes_27 : decode cX8_comes 27 = .ok (.iload_n 3, 1) := by decide +kernel
theorem dX8_comes_28 : decode cX8_comes 28 = .ok (.invokestatic 187, 3) := by decide +kernel
theorem dX8_comes_31 : decode cX8_comes 31 = .ok (.bipush 10, 2) := by decide +kernel
theorem dX8_comes_33 : decode cX8_comes 33 = .ok (.invokestatic 170, 3) := by decide +kernel
theorem dX8_comes_36 : decode cX8_comes 36 = .ok (.aload_n 0, 1) := by decide +kernel
theorem dX8_comes_37 : decode cX8_comes 37 = .ok (.getfield 84, 3) := by decide +kernel
theorem dX8_comes_40 : decode cX8_comes 40 = .ok (.aload_n 0, 1) := by decide +kernel
theorem dX8_comes_41 : decode cX8_comes 41 = .ok (.getfield 75, 3) := by decide +kernel
theorem dX8_comes_44 : decode cX8_comes 44 = .ok (.invokestatic 191, 3) := by decide +kernel
theorem dX8_comes_47 : decode cX8_comes 47 = .ok (.iinc 3 1, 3) := by decide +kernel
theorem dX8_comes_50 : decode cX8_comes 50 = .ok (.goto (-40), 3) := by decide +kernel
theorem dX8_comes_53 : decode cX8_comes 53 = .ok (.aload_n 0, 1) := by decide +kernel
theorem dX8_comes_54 : decode cX8_comes 54 = .ok (.getfield 69, 3) := by decide +kernel
theorem dX8_comes_57 : decode cX8_comes 57 = .ok (.bipush 10, 2) := by decide +kernel
theorem dX8_comes_59 : decode cX8_comes 59 = .ok (.aload_n 0, 1) := by decide +kernel
theorem dX8_comes_60 : decode cX8_comes 60 = .ok (.getfield 178, 3) := by decide +kernel
theorem dX8_comes_63 : decode cX8_comes 63 = .ok (.imul, 1) := by decide +kernel
theorem dX8_comes_64 : decode cX8_comes 64 = .ok (.bipush 10, 2) := by decide +kernel
theorem dX8_comes_66 : decode cX8_comes 66 = .ok (.aload_n 0, 1) := by decide +kernel
theorem dX8_comes_67 : decode cX8_comes 67 = .ok (.getfield 84, 3) := by decide +kernel
theorem dX8_comes_70 : decode cX8_comes 70 = .ok (.invokestatic 166, 3) := by decide +kernel
theorem dX8_comes_73 : decode cX8_comes 73 = .ok (.aload_n 0, 1) := by decide +kernel
theorem dX8_comes_74 : decode cX8_comes 74 = .ok (.getfield 59, 3) := by decide +kernel
theorem dX8_comes_77 : decode cX8_comes 77 = .ok (.aload_n 0, 1) := by decide +kernel
theorem dX8_comes_78 : decode cX8_comes 78 = .ok (.getfield 178, 3) := by decide +kernel
theorem dX8_comes_81 : decode cX8_comes 81 = .ok (.iload_n 1, 1) := by decide +kernel
theorem dX8_comes_82 : decode cX8_comes 82 = .ok (.iastore, 1) := by decide +kernel
theorem dX8_comes_83 : decode cX8_comes 83 = .ok (.aload_n 0, 1) := by decide +kernel
theorem dX8_comes_84 : decode cX8_comes 84 = .ok (.getfield 63, 3) := by decide +kernel
theorem dX8_comes_87 : decode cX8_comes 87 = .ok (.aload_n 0, 1) := by decide +kernel
theorem dX8_comes_88 : decode cX8_comes 88 = .ok (.getfield 178, 3) := by decide +kernel
theorem dX8_comes_91 : decode cX8_comes 91 = .ok (.iload_n 2, 1) := by decide +kernel
theorem dX8_comes_92 : decode cX8_comes 92 = .ok (.iastore, 1) := by decide +kernel
theorem dX8_comes_93 : decode cX8_comes 93 = .ok (.aload_n 0, 1) := by decide +kernel
theorem dX8_comes_94 : decode cX8_comes 94 = .ok (.dup, 1) := by decide +kernel
theorem dX8_comes_95 : decode cX8_comes 95 = .ok (.getfield 178, 3) := by decide +kernel
theorem dX8_comes_98 : decode cX8_comes 98 = .ok (.iconst 1, 1) := by decide +kernel
theorem dX8_comes_99 : decode cX8_comes 99 = .ok (.iadd, 1) := by decide +kernel
theorem dX8_comes_100 : decode cX8_comes 100 = .ok (.putfield 178, 3) := by decide +kernel
theorem dX8_comes_103 : decode cX8_comes 103 = .ok (.aload_n 0, 1) := by decide +kernel
theorem dX8_comes_104 : decode cX8_comes 104 = .ok (.getfield 178, 3) := by decide +kernel
theorem dX8_comes_107 : decode cX8_comes 107 = .ok (.iconst 1, 1) := by decide +kernel
theorem dX8_comes_108 : decode cX8_comes 108 = .ok (.isub, 1) := by decide +kernel
theorem dX8_comes_109 : decode cX8_comes 109 = .ok (.ireturn, 1) := by decide +kernel
theorem dX8_coins_0 : decode cX8_coins 0 = .ok (.iload_n 1, 1) := by decide +kernel
theorem dX8_coins_1 : decode cX8_coins 1 = .ok (.iconst 0, 1) := by decide +kernel
theorem dX8_coins_2 : decode cX8_coins 2 = .ok (.bipush 40, 2) := by decide +kernel
theorem dX8_coins_4 : decode cX8_coins 4 = .ok (.invokestatic 153, 3) := by decide +kernel
theorem dX8_coins_7 : decode cX8_coins 7 = .ok (.ifCond .eq 22, 3) := by decide +kernel
theorem dX8_coins_10 : decode cX8_coins 10 = .ok (.iload_n 3, 1) := by decide +kernel
theorem dX8_coins_11 : decode cX8_coins 11 = .ok (.iconst 1, 1) := by decide +kernel
theorem dX8_coins_12 : decode cX8_coins 12 = .ok (.bipush 60, 2) := by decide +kernel
theorem dX8_coins_14 : decode cX8_coins 14 = .ok (.invokestatic 153, 3) := by decide +kernel
theorem dX8_coins_17 : decode cX8_coins 17 = .ok (.ifCond .eq 12, 3) := by decide +kernel
theorem dX8_coins_20 : decode cX8_coins 20 = .ok (.iload_n 2, 1) := by decide +kernel
theorem dX8_coins_21 : decode cX8_coins 21 = .ok (.iconst 0, 1) := by decide +kernel
theorem dX8_coins_22 : decode cX8_coins 22 = .ok (.iload_n 3, 1) := by decide +kernel
theorem dX8_coins_23 : decode cX8_coins 23 = .ok (.invokestatic 153, 3) := by decide +kernel
theorem dX8_coins_26 : decode cX8_coins 26 = .ok (.ifCond .ne 5, 3) := by decide +kernel
theorem dX8_coins_29 : decode cX8_coins 29 = .ok (.iconst (-1), 1) := by decide +kernel
theorem dX8_coins_30 : decode cX8_coins 30 = .ok (.ireturn, 1) := by decide +kernel
theorem dX8_coins_31 : decode cX8_coins 31 = .ok (.aload_n 0, 1) := by decide +kernel
theorem dX8_coins_32 : decode cX8_coins 32 = .ok (.getfield 178, 3) := by decide +kernel
theorem dX8_coins_35 : decode cX8_coins 35 = .ok (.bipush 16, 2) := by decide +kernel
theorem dX8_coins_37 : decode cX8_coins 37 = .ok (.if_icmp .ne 6, 3) := by decide +kernel
theorem dX8_coins_40 : decode cX8_coins 40 = .ok (.bipush (-3), 2) := by decide +kernel
theorem dX8_coins_42 : decode cX8_coins 42 = .ok (.ireturn, 1) := by decide +kernel
theorem dX8_coins_43 : decode cX8_coins 43 = .ok (.iconst 0, 1) := by decide +kernel
theorem dX8_coins_44 : decode cX8_coins 44 = .ok (.istore 4, 2) := by decide +kernel
theorem dX8_coins_46 : decode cX8_coins 46 = .ok (.iload 4, 2) := by decide +kernel
theorem dX8_coins_48 : decode cX8_coins 48 = .ok (.iload_n 1, 1) := by decide +kernel
theorem dX8_coins_49 : decode cX8_coins 49 = .ok (.if_icmp .gt 72, 3) := by decide +kernel
theorem dX8_coins_52 : decode cX8_coins 52 = .ok (.aload_n 0, 1) := by decide +kernel
theorem dX8_coins_53 : decode cX8_coins 53 = .ok (.getfield 75, 3) := by decide +kernel
theorem dX8_coins_56 : decode cX8_coins 56 = .ok (.iload_n 1, 1) := by decide +kernel
theorem dX8_coins_57 : decode cX8_coins 57 = .ok (.iload 4, 2) := by decide +kernel
theorem dX8_coins_59 : decode cX8_coins 59 = .ok (.invokestatic 194, 3) := by decide +kernel
theorem dX8_coins_62 : decode cX8_coins 62 = .ok (.invokestatic 124, 3) := by decide +kernel
theorem dX8_coins_65 : decode cX8_coins 65 = .ok (.aload_n 0, 1) := by decide +kernel
theorem dX8_coins_66 : decode cX8_coins 66 = .ok (.aload_n 0, 1) := by decide +kernel
theorem dX8_coins_67 : decode cX8_coins 67 = .ok (.getfield 75, 3) := by decide +kernel
theorem dX8_coins_70 : decode cX8_coins 70 = .ok (.iload_n 2, 1) := by decide +kernel
theorem dX8_coins_71 : decode cX8_coins 71 = .ok (.i2l, 1) := by decide +kernel
theorem dX8_coins_72 : decode cX8_coins 72 = .ok (.iload 4, 2) := by decide +kernel
theorem dX8_coins_74 : decode cX8_coins 74 = .ok (.invokevirtual 198, 3) := by decide +kernel
theorem dX8_coins_77 : decode cX8_coins 77 = .ok (.aload_n 0, 1) := by decide +kernel
theorem dX8_coins_78 : decode cX8_coins 78 = .ok (.aload_n 0, 1) := by decide +kernel
theorem dX8_coins_79 : decode cX8_coins 79 = .ok (.getfield 75, 3) := by decide +kernel
theorem dX8_coins_82 : decode cX8_coins 82 = .ok (.iload_n 3, 1) := by decide +kernel
theorem dX8_coins_83 : decode cX8_coins 83 = .ok (.iload_n 2, 1) := by decide +kernel
theorem dX8_coins_84 : decode cX8_coins 84 = .ok (.isub, 1) := by decide +kernel
theorem dX8_coins_85 : decode cX8_coins 85 = .ok (.i2l, 1) := by decide +kernel
theorem dX8_coins_86 : decode cX8_coins 86 = .ok (.iload_n 1, 1) := by decide +kernel
theorem dX8_coins_87 : decode cX8_coins 87 = .ok (.iload 4, 2) := by decide +kernel
theorem dX8_coins_89 : decode cX8_coins 89 = .ok (.isub, 1) := by decide +kernel
theorem dX8_coins_90 : decode cX8_coins 90 = .ok (.invokevirtual 198, 3) := by decide +kernel
theorem dX8_coins_93 : decode cX8_coins 93 = .ok (.aload_n 0, 1) := by decide +kernel
theorem dX8_coins_94 : decode cX8_coins 94 = .ok (.getfield 66, 3) := by decide +kernel
theorem dX8_coins_97 : decode cX8_coins 97 = .ok (.aload_n 0, 1) := by decide +kernel
theorem dX8_coins_98 : decode cX8_coins 98 = .ok (.getfield 178, 3) := by decide +kernel
theorem dX8_coins_101 : decode cX8_coins 101 = .ok (.iload 4, 2) := by decide +kernel
theorem dX8_coins_103 : decode cX8_coins 103 = .ok (.invokestatic 187, 3) := by decide +kernel
theorem dX8_coins_106 : decode cX8_coins 106 = .ok (.bipush 10, 2) := by decide +kernel
theorem dX8_coins_108 : decode cX8_coins 108 = .ok (.aload_n 0, 1) := by decide +kernel
theorem dX8_coins_109 : decode cX8_coins 109 = .ok (.getfield 75, 3) := by decide +kernel
theorem dX8_coins_112 : decode cX8_coins 112 = .ok (.invokestatic 166, 3) := by decide +kernel
theorem dX8_coins_115 : decode cX8_coins 115 = .ok (.iinc 4 1, 3) := by decide +kernel
theorem dX8_coins_118 : decode cX8_coins 118 = .ok (.goto (-72), 3) := by decide +kernel
theorem dX8_coins_121 : decode cX8_coins 121 = .ok (.aload_n 0, 1) := by decide +kernel
theorem dX8_coins_122 : decode cX8_coins 122 = .ok (.iconst 0, 1) := by decide +kernel
theorem dX8_coins_123 : decode cX8_coins 123 = .ok (.iload_n 1, 1) := by decide +kernel
theorem dX8_coins_124 : decode cX8_coins 124 = .ok (.invokevirtual 202, 3) := by decide +kernel
theorem dX8_coins_127 : decode cX8_coins 127 = .ok (.ireturn, 1) := by decide +kernel
theorem dX8_drawn_0 : decode cX8_drawn 0 = .ok (.iload_n 1, 1) := by decide +kernel
theorem dX8_drawn_1 : decode cX8_drawn 1 = .ok (.iconst 1, 1) := by decide +kernel
theorem dX8_drawn_2 : decode cX8_drawn 2 = .ok (.bipush 60, 2) := by decide +kernel
theorem dX8_drawn_4 : decode cX8_drawn 4 = .ok (.invokestatic 153, 3) := by decide +kernel
theorem dX8_drawn_7 : decode cX8_drawn 7 = .ok (.ifCond .eq 21, 3) := by decide +kernel
theorem dX8_drawn_10 : decode cX8_drawn 10 = .ok (.iload_n 2, 1) := by decide +kernel
theorem dX8_drawn_11 : decode cX8_drawn 11 = .ok (.iconst 0, 1) := by decide +kernel
theorem dX8_drawn_12 : decode cX8_drawn 12 = .ok (.iload_n 1, 1) := by decide +kernel
theorem dX8_drawn_13 : decode cX8_drawn 13 = .ok (.invokestatic 153, 3) := by decide +kernel
theorem dX8_drawn_16 : decode cX8_drawn 16 = .ok (.ifCond .eq 12, 3) := by decide +kernel
theorem dX8_drawn_19 : decode cX8_drawn 19 = .ok (.iload_n 3, 1) := by decide +kernel
theorem dX8_drawn_20 : decode cX8_drawn 20 = .ok (.iconst 0, 1) := by decide +kernel
theorem dX8_drawn_21 : decode cX8_drawn 21 = .ok (.iload_n 1, 1) := by decide +kernel
theorem dX8_drawn_22 : decode cX8_drawn 22 = .ok (.invokestatic 153, 3) := by decide +kernel
theorem dX8_drawn_25 : decode cX8_drawn 25 = .ok (.ifCond .ne 5, 3) := by decide +kernel
theorem dX8_drawn_28 : decode cX8_drawn 28 = .ok (.iconst (-1), 1) := by decide +kernel
theorem dX8_drawn_29 : decode cX8_drawn 29 = .ok (.ireturn, 1) := by decide +kernel
theorem dX8_drawn_30 : decode cX8_drawn 30 = .ok (.aload_n 0, 1) := by decide +kernel
theorem dX8_drawn_31 : decode cX8_drawn 31 = .ok (.getfield 178, 3) := by decide +kernel
theorem dX8_drawn_34 : decode cX8_drawn 34 = .ok (.bipush 16, 2) := by decide +kernel
theorem dX8_drawn_36 : decode cX8_drawn 36 = .ok (.if_icmp .ne 6, 3) := by decide +kernel
theorem dX8_drawn_39 : decode cX8_drawn 39 = .ok (.bipush (-3), 2) := by decide +kernel
theorem dX8_drawn_41 : decode cX8_drawn 41 = .ok (.ireturn, 1) := by decide +kernel
theorem dX8_drawn_42 : decode cX8_drawn 42 = .ok (.iconst 0, 1) := by decide +kernel
theorem dX8_drawn_43 : decode cX8_drawn 43 = .ok (.istore 4, 2) := by decide +kernel
theorem dX8_drawn_45 : decode cX8_drawn 45 = .ok (.iload 4, 2) := by decide +kernel
theorem dX8_drawn_47 : decode cX8_drawn 47 = .ok (.iload_n 3, 1) := by decide +kernel
theorem dX8_drawn_48 : decode cX8_drawn 48 = .ok (.if_icmp .gt 76, 3) := by decide +kernel
theorem dX8_drawn_51 : decode cX8_drawn 51 = .ok (.aload_n 0, 1) := by decide +kernel
theorem dX8_drawn_52 : decode cX8_drawn 52 = .ok (.getfield 78, 3) := by decide +kernel
theorem dX8_drawn_55 : decode cX8_drawn 55 = .ok (.iload_n 2, 1) := by decide +kernel
theorem dX8_drawn_56 : decode cX8_drawn 56 = .ok (.iload 4, 2) := by decide +kernel
theorem dX8_drawn_58 : decode cX8_drawn 58 = .ok (.invokestatic 194, 3) := by decide +kernel
theorem dX8_drawn_61 : decode cX8_drawn 61 = .ok (.invokestatic 124, 3) := by decide +kernel
theorem dX8_drawn_64 : decode cX8_drawn 64 = .ok (.aload_n 0, 1) := by decide +kernel
theorem dX8_drawn_65 : decode cX8_drawn 65 = .ok (.getfield 81, 3) := by decide +kernel
theorem dX8_drawn_68 : decode cX8_drawn 68 = .ok (.iload_n 1, 1) := by decide +kernel
theorem dX8_drawn_69 : decode cX8_drawn 69 = .ok (.iload_n 2, 1) := by decide +kernel
theorem dX8_drawn_70 : decode cX8_drawn 70 = .ok (.isub, 1) := by decide +kernel
theorem dX8_drawn_71 : decode cX8_drawn 71 = .ok (.iload_n 3, 1) := by decide +kernel
theorem dX8_drawn_72 : decode cX8_drawn 72 = .ok (.iload 4, 2) := by decide +kernel
theorem dX8_drawn_74 : decode cX8_drawn 74 = .ok (.isub, 1) := by decide +kernel
theorem dX8_drawn_75 : decode cX8_drawn 75 = .ok (.invokestatic 194, 3) := by decide +kernel
theorem dX8_drawn_78 : decode cX8_drawn 78 = .ok (.invokestatic 124, 3) := by decide +kernel
theorem dX8_drawn_81 : decode cX8_drawn 81 = .ok (.aload_n 0, 1) := by decide +kernel
theorem dX8_drawn_82 : decode cX8_drawn 82 = .ok (.getfield 75, 3) := by decide +kernel
theorem dX8_drawn_85 : decode cX8_drawn 85 = .ok (.aload_n 0, 1) := by decide +kernel
theorem dX8_drawn_86 : decode cX8_drawn 86 = .ok (.getfield 78, 3) := by decide +kernel
theorem dX8_drawn_89 : decode cX8_drawn 89 = .ok (.aload_n 0, 1) := by decide +kernel
theorem dX8_drawn_90 : decode cX8_drawn 90 = .ok (.getfield 81, 3) := by decide +kernel
theorem dX8_drawn_93 : decode cX8_drawn 93 = .ok (.invokestatic 174, 3) := by decide +kernel
theorem dX8_drawn_96 : decode cX8_drawn 96 = .ok (.aload_n 0, 1) := by decide +kernel
theorem dX8_drawn_97 : decode cX8_drawn 97 = .ok (.getfield 66, 3) := by decide +kernel
theorem dX8_drawn_100 : decode cX8_drawn 100 = .ok (.aload_n 0, 1) := by decide +kernel
theorem dX8_drawn_101 : decode cX8_drawn 101 = .ok (.getfield 178, 3) := by decide +kernel
theorem dX8_drawn_104 : decode cX8_drawn 104 = .ok (.iload 4, 2) := by decide +kernel
theorem dX8_drawn_106 : decode cX8_drawn 106 = .ok (.invokestatic 187, 3) := by decide +kernel
theorem dX8_drawn_109 : decode cX8_drawn 109 = .ok (.bipush 10, 2) := by decide +kernel
theorem dX8_drawn_111 : decode cX8_drawn 111 = .ok (.aload_n 0, 1) := by decide +kernel
theorem dX8_drawn_112 : decode cX8_drawn 112 = .ok (.getfield 75, 3) := by decide +kernel
theorem dX8_drawn_115 : decode cX8_drawn 115 = .ok (.invokestatic 166, 3) := by decide +kernel
theorem dX8_drawn_118 : decode cX8_drawn 118 = .ok (.iinc 4 1, 3) := by decide +kernel
theorem dX8_drawn_121 : decode cX8_drawn 121 = .ok (.goto (-76), 3) := by decide +kernel
theorem dX8_drawn_124 : decode cX8_drawn 124 = .ok (.aload_n 0, 1) := by decide +kernel
theorem dX8_drawn_125 : decode cX8_drawn 125 = .ok (.iconst 1, 1) := by decide +kernel
theorem dX8_drawn_126 : decode cX8_drawn 126 = .ok (.iload_n 3, 1) := by decide +kernel
theorem dX8_drawn_127 : decode cX8_drawn 127 = .ok (.invokevirtual 202, 3) := by decide +kernel
theorem dX8_drawn_130 : decode cX8_drawn 130 = .ok (.ireturn, 1) := by decide +kernel
theorem dX8_sums_0 : decode cX8_sums 0 = .ok (.iconst 0, 1) := by decide +kernel
theorem dX8_sums_1 : decode cX8_sums 1 = .ok (.istore_n 2, 1) := by decide +kernel
theorem dX8_sums_2 : decode cX8_sums 2 = .ok (.iconst 0, 1) := by decide +kernel
theorem dX8_sums_3 : decode cX8_sums 3 = .ok (.istore_n 3, 1) := by decide +kernel
theorem dX8_sums_4 : decode cX8_sums 4 = .ok (.iload_n 3, 1) := by decide +kernel
theorem dX8_sums_5 : decode cX8_sums 5 = .ok (.aload_n 0, 1) := by decide +kernel
theorem dX8_sums_6 : decode cX8_sums 6 = .ok (.getfield 181, 3) := by decide +kernel
theorem dX8_sums_9 : decode cX8_sums 9 = .ok (.if_icmp .ge 18, 3) := by decide +kernel
theorem dX8_sums_12 : decode cX8_sums 12 = .ok (.iload_n 2, 1) := by decide +kernel
theorem dX8_sums_13 : decode cX8_sums 13 = .ok (.aload_n 0, 1) := by decide +kernel
theorem dX8_sums_14 : decode cX8_sums 14 = .ok (.getfield 72, 3) := by decide +kernel
theorem dX8_sums_17 : decode cX8_sums 17 = .ok (.iload_n 3, 1) := by decide +kernel
theorem dX8_sums_18 : decode cX8_sums 18 = .ok (.iaload, 1) := by decide +kernel
theorem dX8_sums_19 : decode cX8_sums 19 = .ok (.iadd, 1) := by decide +kernel
theorem dX8_sums_20 : decode cX8_sums 20 = .ok (.istore_n 2, 1) := by decide +kernel
theorem dX8_sums_21 : decode cX8_sums 21 = .ok (.iinc 3 1, 3) := by decide +kernel
theorem dX8_sums_24 : decode cX8_sums 24 = .ok (.goto (-20), 3) := by decide +kernel
theorem dX8_sums_27 : decode cX8_sums 27 = .ok (.iload_n 1, 1) := by decide +kernel
theorem dX8_sums_28 : decode cX8_sums 28 = .ok (.iconst 0, 1) := by decide +kernel
theorem dX8_sums_29 : decode cX8_sums 29 = .ok (.bipush 12, 2) := by decide +kernel
theorem dX8_sums_31 : decode cX8_sums 31 = .ok (.invokestatic 153, 3) := by decide +kernel
theorem dX8_sums_34 : decode cX8_sums 34 = .ok (.ifCond .eq 7, 3) := by decide +kernel
theorem dX8_sums_37 : decode cX8_sums 37 = .ok (.iload_n 2, 1) := by decide +kernel
theorem dX8_sums_38 : decode cX8_sums 38 = .ok (.ifCond .ne 5, 3) := by decide +kernel
theorem dX8_sums_41 : decode cX8_sums 41 = .ok (.iconst (-1), 1) := by decide +kernel
theorem dX8_sums_42 : decode cX8_sums 42 = .ok (.ireturn, 1) := by decide +kernel
theorem dX8_sums_43 : decode cX8_sums 43 = .ok (.aload_n 0, 1) := by decide +kernel
theorem dX8_sums_44 : decode cX8_sums 44 = .ok (.getfield 178, 3) := by decide +kernel
theorem dX8_sums_47 : decode cX8_sums 47 = .ok (.bipush 16, 2) := by decide +kernel
theorem dX8_sums_49 : decode cX8_sums 49 = .ok (.if_icmp .ne 6, 3) := by decide +kernel
theorem dX8_sums_52 : decode cX8_sums 52 = .ok (.bipush (-3), 2) := by decide +kernel
theorem dX8_sums_54 : decode cX8_sums 54 = .ok (.ireturn, 1) := by decide +kernel
theorem dX8_sums_55 : decode cX8_sums 55 = .ok (.iconst 0, 1) := by decide +kernel
theorem dX8_sums_56 : decode cX8_sums 56 = .ok (.istore_n 3, 1) := by decide +kernel
theorem dX8_sums_57 : decode cX8_sums 57 = .ok (.iload_n 3, 1) := by decide +kernel
theorem dX8_sums_58 : decode cX8_sums 58 = .ok (.sipush 1210, 3) := by decide +kernel
theorem dX8_sums_61 : decode cX8_sums 61 = .ok (.if_icmp .ge 16, 3) := by decide +kernel
theorem dX8_sums_64 : decode cX8_sums 64 = .ok (.aload_n 0, 1) := by decide +kernel
theorem dX8_sums_65 : decode cX8_sums 65 = .ok (.getfield 87, 3) := by decide +kernel
theorem dX8_sums_68 : decode cX8_sums 68 = .ok (.iload_n 3, 1) := by decide +kernel
theorem dX8_sums_69 : decode cX8_sums 69 = .ok (.lconst 0, 1) := by decide +kernel
theorem dX8_sums_70 : decode cX8_sums 70 = .ok (.lastore, 1) := by decide +kernel
theorem dX8_sums_71 : decode cX8_sums 71 = .ok (.iinc 3 1, 3) := by decide +kernel
theorem dX8_sums_74 : decode cX8_sums 74 = .ok (.goto (-17), 3) := by decide +kernel
theorem dX8_sums_77 : decode cX8_sums 77 = .ok (.aload_n 0, 1) := by decide +kernel
theorem dX8_sums_78 : decode cX8_sums 78 = .ok (.getfield 87, 3) := by decide +kernel
theorem dX8_sums_81 : decode cX8_sums 81 = .ok (.iconst 0, 1) := by decide +kernel
theorem dX8_sums_82 : decode cX8_sums 82 = .ok (.lconst 1, 1) := by decide +kernel
theorem dX8_sums_83 : decode cX8_sums 83 = .ok (.lastore, 1) := by decide +kernel
theorem dX8_sums_84 : decode cX8_sums 84 = .ok (.iconst 0, 1) := by decide +kernel
theorem dX8_sums_85 : decode cX8_sums 85 = .ok (.istore_n 3, 1) := by decide +kernel
theorem dX8_sums_86 : decode cX8_sums 86 = .ok (.iconst 0, 1) := by decide +kernel
theorem dX8_sums_87 : decode cX8_sums 87 = .ok (.istore 4, 2) := by decide +kernel
theorem dX8_sums_89 : decode cX8_sums 89 = .ok (.iload 4, 2) := by decide +kernel
theorem dX8_sums_91 : decode cX8_sums 91 = .ok (.iload_n 1, 1) := by decide +kernel
theorem dX8_sums_92 : decode cX8_sums 92 = .ok (.if_icmp .ge 176, 3) := by decide +kernel
theorem dX8_sums_95 : decode cX8_sums 95 = .ok (.iload_n 3, 1) := by decide +kernel
theorem dX8_sums_96 : decode cX8_sums 96 = .ok (.aload_n 0, 1) := by decide +kernel
theorem dX8_sums_97 : decode cX8_sums 97 = .ok (.getfield 181, 3) := by decide +kernel
theorem dX8_sums_100 : decode cX8_sums 100 = .ok (.iadd, 1) := by decide +kernel
theorem dX8_sums_101 : decode cX8_sums 101 = .ok (.iconst 1, 1) := by decide +kernel
theorem dX8_sums_102 : decode cX8_sums 102 = .ok (.isub, 1) := by decide +kernel
theorem dX8_sums_103 : decode cX8_sums 103 = .ok (.istore 5, 2) := by decide +kernel
theorem dX8_sums_105 : decode cX8_sums 105 = .ok (.iconst 0, 1) := by decide +kernel
theorem dX8_sums_106 : decode cX8_sums 106 = .ok (.istore 6, 2) := by decide +kernel
theorem dX8_sums_108 : decode cX8_sums 108 = .ok (.iload 6, 2) := by decide +kernel
theorem dX8_sums_110 : decode cX8_sums 110 = .ok (.iload 5, 2) := by decide +kernel
theorem dX8_sums_112 : decode cX8_sums 112 = .ok (.if_icmp .gt 113, 3) := by decide +kernel
theorem dX8_sums_115 : decode cX8_sums 115 = .ok (.aload_n 0, 1) := by decide +kernel
theorem dX8_sums_116 : decode cX8_sums 116 = .ok (.getfield 84, 3) := by decide +kernel
theorem dX8_sums_119 : decode cX8_sums 119 = .ok (.lconst 0, 1) := by decide +kernel
theorem dX8_sums_120 : decode cX8_sums 120 = .ok (.invokestatic 124, 3) := by decide +kernel
theorem dX8_sums_123 : decode cX8_sums 123 = .ok (.iconst 0, 1) := by decide +kernel
theorem dX8_sums_124 : decode cX8_sums 124 = .ok (.istore 7, 2) := by decide +kernel
theorem dX8_sums_126 : decode cX8_sums 126 = .ok (.iload 7, 2) := by decide +kernel
theorem dX8_sums_128 : decode cX8_sums 128 = .ok (.aload_n 0, 1) := by decide +kernel
theorem dX8_sums_129 : decode cX8_sums 129 = .ok (.getfield 181, 3) := by decide +kernel
theorem dX8_sums_132 : decode cX8_sums 132 = .ok (.if_icmp .ge 69, 3) := by decide +kernel
theorem dX8_sums_135 : decode cX8_sums 135 = .ok (.iload 6, 2) := by decide +kernel
theorem dX8_sums_137 : decode cX8_sums 137 = .ok (.iload 7, 2) := by decide +kernel
theorem dX8_sums_139 : decode cX8_sums 139 = .ok (.isub, 1) := by decide +kernel
theorem dX8_sums_140 : decode cX8_sums 140 = .ok (.iconst 0, 1) := by decide +kernel
theorem dX8_sums_141 : decode cX8_sums 141 = .ok (.iload_n 3, 1) := by decide +kernel
theorem dX8_sums_142 : decode cX8_sums 142 = .ok (.invokestatic 153, 3) := by decide +kernel
theorem dX8_sums_145 : decode cX8_sums 145 = .ok (.ifCond .eq 50, 3) := by decide +kernel
theorem dX8_sums_148 : decode cX8_sums 148 = .ok (.aload_n 0, 1) := by decide +kernel
theorem dX8_sums_149 : decode cX8_sums 149 = .ok (.getfield 75, 3) := by decide +kernel
theorem dX8_sums_152 : decode cX8_sums 152 = .ok (.aload_n 0, 1) := by decide +kernel
theorem dX8_sums_153 : decode cX8_sums 153 = .ok (.getfield 87, 3) := by decide +kernel
theorem dX8_sums_156 : decode cX8_sums 156 = .ok (.bipush 10, 2) := by decide +kernel
theorem dX8_sums_158 : decode cX8_sums 158 = .ok (.iload 6, 2) := by decide +kernel
theorem dX8_sums_160 : decode cX8_sums 160 = .ok (.iload 7, 2) := by decide +kernel
theorem dX8_sums_162 : decode cX8_sums 162 = .ok (.isub, 1) := by decide +kernel
theorem dX8_sums_163 : decode cX8_sums 163 = .ok (.imul, 1) := by decide +kernel
theorem dX8_sums_164 : decode cX8_sums 164 = .ok (.bipush 10, 2) := by decide +kernel
theorem dX8_sums_166 : decode cX8_sums 166 = .ok (.invokestatic 170, 3) := by decide +kernel
theorem dX8_sums_169 : decode cX8_sums 169 = .ok (.aload_n 0, 1) := by decide +kernel
theorem dX8_sums_170 : decode cX8_sums 170 = .ok (.getfield 75, 3) := by decide +kernel
theorem dX8_sums_173 : decode cX8_sums 173 = .ok (.aload_n 0, 1) := by decide +kernel
theorem dX8_sums_174 : decode cX8_sums 174 = .ok (.getfield 72, 3) := by decide +kernel
theorem dX8_sums_177 : decode cX8_sums 177 = .ok (.iload 7, 2) := by decide +kernel
theorem dX8_sums_179 : decode cX8_sums 179 = .ok (.iaload, 1) := by decide +kernel
theorem dX8_sums_180 : decode cX8_sums 180 = .ok (.i2l, 1) := by decide +kernel
theorem dX8_sums_181 : decode cX8_sums 181 = .ok (.invokestatic 184, 3) := by decide +kernel
theorem dX8_sums_184 : decode cX8_sums 184 = .ok (.aload_n 0, 1) := by decide +kernel
theorem dX8_sums_185 : decode cX8_sums 185 = .ok (.getfield 84, 3) := by decide +kernel
theorem dX8_sums_188 : decode cX8_sums 188 = .ok (.aload_n 0, 1) := by decide +kernel
theorem dX8_sums_189 : decode cX8_sums 189 = .ok (.getfield 75, 3) := by decide +kernel
theorem dX8_sums_192 : decode cX8_sums 192 = .ok (.invokestatic 191, 3) := by decide +kernel
theorem dX8_sums_195 : decode cX8_sums 195 = .ok (.iinc 7 1, 3) := by decide +kernel
theorem dX8_sums_198 : decode cX8_sums 198 = .ok (.goto (-72), 3) := by decide +kernel
theorem dX8_sums_201 : decode cX8_sums 201 = .ok (.aload_n 0, 1) := by decide +kernel
theorem dX8_sums_202 : decode cX8_sums 202 = .ok (.getfield 90, 3) := by decide +kernel
theorem dX8_sums_205 : decode cX8_sums 205 = .ok (.bipush 10, 2) := by decide +kernel
theorem dX8_sums_207 : decode cX8_sums 207 = .ok (.iload 6, 2) := by decide +kernel
theorem dX8_sums_209 : decode cX8_sums 209 = .ok (.imul, 1) := by decide +kernel
theorem dX8_sums_210 : decode cX8_sums 210 = .ok (.bipush 10, 2) := by decide +kernel
theorem dX8_sums_212 : decode cX8_sums 212 = .ok (.aload_n 0, 1) := by decide +kernel
theorem dX8_sums_213 : decode cX8_sums 213 = .ok (.getfield 84, 3) := by decide +kernel
theorem dX8_sums_216 : decode cX8_sums 216 = .ok (.invokestatic 166, 3) := by decide +kernel
theorem dX8_sums_219 : decode cX8_sums 219 = .ok (.iinc 6 1, 3) := by decide +kernel
theorem dX8_sums_222 : decode cX8_sums 222 = .ok (.goto (-114), 3) := by decide +kernel
theorem dX8_sums_225 : decode cX8_sums 225 = .ok (.iload 5, 2) := by decide +kernel
theorem dX8_sums_227 : decode cX8_sums 227 = .ok (.istore_n 3, 1) := by decide +kernel
theorem dX8_sums_228 : decode cX8_sums 228 = .ok (.iconst 0, 1) := by decide +kernel
theorem dX8_sums_229 : decode cX8_sums 229 = .ok (.istore 6, 2) := by decide +kernel
theorem dX8_sums_231 : decode cX8_sums 231 = .ok (.iload 6, 2) := by decide +kernel
theorem dX8_sums_233 : decode cX8_sums 233 = .ok (.bipush 10, 2) := by decide +kernel
theorem dX8_sums_235 : decode cX8_sums 235 = .ok (.iload_n 3, 1) := by decide +kernel
theorem dX8_sums_236 : decode cX8_sums 236 = .ok (.iconst 1, 1) := by decide +kernel
theorem dX8_sums_237 : decode cX8_sums 237 = .ok (.iadd, 1) := by decide +kernel
theorem dX8_sums_238 : decode cX8_sums 238 = .ok (.imul, 1) := by decide +kernel
theorem dX8_sums_239 : decode cX8_sums 239 = .ok (.if_icmp .ge 23, 3) := by decide +kernel
theorem dX8_sums_242 : decode cX8_sums 242 = .ok (.aload_n 0, 1) := by decide +kernel
theorem dX8_sums_243 : decode cX8_sums 243 = .ok (.getfield 87, 3) := by decide +kernel
theorem dX8_sums_246 : decode cX8_sums 246 = .ok (.iload 6, 2) := by decide +kernel
theorem dX8_sums_248 : decode cX8_sums 248 = .ok (.aload_n 0, 1) := by decide +kernel
theorem dX8_sums_249 : decode cX8_sums 249 = .ok (.getfield 90, 3) := by decide +kernel
theorem dX8_sums_252 : decode cX8_sums 252 = .ok (.iload 6, 2) := by decide +kernel
theorem dX8_sums_254 : decode cX8_sums 254 = .ok (.laload, 1) := by decide +kernel
theorem dX8_sums_255 : decode cX8_sums 255 = .ok (.lastore, 1) := by decide +kernel
theorem dX8_sums_256 : decode cX8_sums 256 = .ok (.iinc 6 1, 3) := by decide +kernel
theorem dX8_sums_259 : decode cX8_sums 259 = .ok (.goto (-28), 3) := by decide +kernel
theorem dX8_sums_262 : decode cX8_sums 262 = .ok (.iinc 4 1, 3) := by decide +kernel
theorem dX8_sums_265 : decode cX8_sums 265 = .ok (.goto (-176), 3) := by decide +kernel
theorem dX8_sums_268 : decode cX8_sums 268 = .ok (.iconst 0, 1) := by decide +kernel
theorem dX8_sums_269 : decode cX8_sums 269 = .ok (.istore 4, 2) := by decide +kernel
theorem dX8_sums_271 : decode cX8_sums 271 = .ok (.iload 4, 2) := by decide +kernel
theorem dX8_sums_273 : decode cX8_sums 273 = .ok (.iload_n 3, 1) := by decide +kernel
theorem dX8_sums_274 : decode cX8_sums 274 = .ok (.if_icmp .gt 49, 3) := by decide +kernel
theorem dX8_sums_277 : decode cX8_sums 277 = .ok (.aload_n 0, 1) := by decide +kernel
theorem dX8_sums_278 : decode cX8_sums 278 = .ok (.getfield 75, 3) := by decide +kernel
theorem dX8_sums_281 : decode cX8_sums 281 = .ok (.aload_n 0, 1) := by decide +kernel
theorem dX8_sums_282 : decode cX8_sums 282 = .ok (.getfield 87, 3) := by decide +kernel
theorem dX8_sums_285 : decode cX8_sums 285 = .ok (.bipush 10, 2) := by decide +kernel
theorem dX8_sums_287 : decode cX8_sums 287 = .ok (.iload 4, 2) := by decide +kernel
theorem dX8_sums_289 : decode cX8_sums 289 = .ok (.imul, 1) := by decide +kernel
theorem dX8_sums_290 : decode cX8_sums 290 = .ok (.bipush 10, 2) := by decide +kernel
theorem dX8_sums_292 : decode cX8_sums 292 = .ok (.invokestatic 170, 3) := by decide +kernel
theorem dX8_sums_295 : decode cX8_sums 295 = .ok (.aload_n 0, 1) := by decide +kernel
theorem dX8_sums_296 : decode cX8_sums 296 = .ok (.getfield 66, 3) := by decide +kernel
theorem dX8_sums_299 : decode cX8_sums 299 = .ok (.aload_n 0, 1) := by decide +kernel
theorem dX8_sums_300 : decode cX8_sums 300 = .ok (.getfield 178, 3) := by decide +kernel
theorem dX8_sums_303 : decode cX8_sums 303 = .ok (.iload 4, 2) := by decide +kernel
theorem dX8_sums_305 : decode cX8_sums 305 = .ok (.invokestatic 187, 3) := by decide +kernel
theorem dX8_sums_308 : decode cX8_sums 308 = .ok (.bipush 10, 2) := by decide +kernel
theorem dX8_sums_310 : decode cX8_sums 310 = .ok (.aload_n 0, 1) := by decide +kernel
theorem dX8_sums_311 : decode cX8_sums 311 = .ok (.getfield 75, 3) := by decide +kernel
theorem dX8_sums_314 : decode cX8_sums 314 = .ok (.invokestatic 166, 3) := by decide +kernel
theorem dX8_sums_317 : decode cX8_sums 317 = .ok (.iinc 4 1, 3) := by decide +kernel
theorem dX8_sums_320 : decode cX8_sums 320 = .ok (.goto (-49), 3) := by decide +kernel
theorem dX8_sums_323 : decode cX8_sums 323 = .ok (.aload_n 0, 1) := by decide +kernel
theorem dX8_sums_324 : decode cX8_sums 324 = .ok (.iconst 2, 1) := by decide +kernel
theorem dX8_sums_325 : decode cX8_sums 325 = .ok (.iload_n 3, 1) := by decide +kernel
theorem dX8_sums_326 : decode cX8_sums 326 = .ok (.invokevirtual 202, 3) := by decide +kernel
theorem dX8_sums_329 : decode cX8_sums 329 = .ok (.ireturn, 1) := by decide +kernel
theorem dX8_both_0 : decode cX8_both 0 = .ok (.aload_n 0, 1) := by decide +kernel
theorem dX8_both_1 : decode cX8_both 1 = .ok (.iload_n 1, 1) := by decide +kernel
theorem dX8_both_2 : decode cX8_both 2 = .ok (.invokevirtual 205, 3) := by decide +kernel
theorem dX8_both_5 : decode cX8_both 5 = .ok (.ifCond .eq 29, 3) := by decide +kernel
theorem dX8_both_8 : decode cX8_both 8 = .ok (.aload_n 0, 1) := by decide +kernel
theorem dX8_both_9 : decode cX8_both 9 = .ok (.iload_n 2, 1) := by decide +kernel
theorem dX8_both_10 : decode cX8_both 10 = .ok (.invokevirtual 205, 3) := by decide +kernel
theorem dX8_both_13 : decode cX8_both 13 = .ok (.ifCond .eq 21, 3) := by decide +kernel
theorem dX8_both_16 : decode cX8_both 16 = .ok (.aload_n 0, 1) := by decide +kernel
theorem dX8_both_17 : decode cX8_both 17 = .ok (.getfield 63, 3) := by decide +kernel
theorem dX8_both_20 : decode cX8_both 20 = .ok (.iload_n 1, 1) := by decide +kernel
theorem dX8_both_21 : decode cX8_both 21 = .ok (.iaload, 1) := by decide +kernel
theorem dX8_both_22 : decode cX8_both 22 = .ok (.aload_n 0, 1) := by decide +kernel
theorem dX8_both_23 : decode cX8_both 23 = .ok (.getfield 63, 3) := by decide +kernel
theorem dX8_both_26 : decode cX8_both 26 = .ok (.iload_n 2, 1) := by decide +kernel
theorem dX8_both_27 : decode cX8_both 27 = .ok (.iaload, 1) := by decide +kernel
theorem dX8_both_28 : decode cX8_both 28 = .ok (.iadd, 1) := by decide +kernel
theorem dX8_both_29 : decode cX8_both 29 = .ok (.bipush 120, 2) := by decide +kernel
theorem dX8_both_31 : decode cX8_both 31 = .ok (.if_icmp .le 5, 3) := by decide +kernel
theorem dX8_both_34 : decode cX8_both 34 = .ok (.iconst (-1), 1) := by decide +kernel
theorem dX8_both_35 : decode cX8_both 35 = .ok (.ireturn, 1) := by decide +kernel
theorem dX8_both_36 : decode cX8_both 36 = .ok (.aload_n 0, 1) := by decide +kernel
theorem dX8_both_37 : decode cX8_both 37 = .ok (.getfield 178, 3) := by decide +kernel
theorem dX8_both_40 : decode cX8_both 40 = .ok (.bipush 16, 2) := by decide +kernel
theorem dX8_both_42 : decode cX8_both 42 = .ok (.if_icmp .ne 6, 3) := by decide +kernel
theorem dX8_both_45 : decode cX8_both 45 = .ok (.bipush (-3), 2) := by decide +kernel
theorem dX8_both_47 : decode cX8_both 47 = .ok (.ireturn, 1) := by decide +kernel
theorem dX8_both_48 : decode cX8_both 48 = .ok (.aload_n 0, 1) := by decide +kernel
theorem dX8_both_49 : decode cX8_both 49 = .ok (.getfield 75, 3) := by decide +kernel
theorem dX8_both_52 : decode cX8_both 52 = .ok (.aload_n 0, 1) := by decide +kernel
theorem dX8_both_53 : decode cX8_both 53 = .ok (.getfield 69, 3) := by decide +kernel
theorem dX8_both_56 : decode cX8_both 56 = .ok (.bipush 10, 2) := by decide +kernel
theorem dX8_both_58 : decode cX8_both 58 = .ok (.iload_n 1, 1) := by decide +kernel
theorem dX8_both_59 : decode cX8_both 59 = .ok (.imul, 1) := by decide +kernel
theorem dX8_both_60 : decode cX8_both 60 = .ok (.bipush 10, 2) := by decide +kernel
theorem dX8_both_62 : decode cX8_both 62 = .ok (.invokestatic 170, 3) := by decide +kernel
theorem dX8_both_65 : decode cX8_both 65 = .ok (.aload_n 0, 1) := by decide +kernel
theorem dX8_both_66 : decode cX8_both 66 = .ok (.getfield 78, 3) := by decide +kernel
theorem dX8_both_69 : decode cX8_both 69 = .ok (.aload_n 0, 1) := by decide +kernel
theorem dX8_both_70 : decode cX8_both 70 = .ok (.getfield 69, 3) := by decide +kernel
theorem dX8_both_73 : decode cX8_both 73 = .ok (.bipush 10, 2) := by decide +kernel
theorem dX8_both_75 : decode cX8_both 75 = .ok (.iload_n 2, 1) := by decide +kernel
theorem dX8_both_76 : decode cX8_both 76 = .ok (.imul, 1) := by decide +kernel
theorem dX8_both_77 : decode cX8_both 77 = .ok (.bipush 10, 2) := by decide +kernel
theorem dX8_both_79 : decode cX8_both 79 = .ok (.invokestatic 170, 3) := by decide +kernel
theorem dX8_both_82 : decode cX8_both 82 = .ok (.aload_n 0, 1) := by decide +kernel
theorem dX8_both_83 : decode cX8_both 83 = .ok (.getfield 81, 3) := by decide +kernel
theorem dX8_both_86 : decode cX8_both 86 = .ok (.aload_n 0, 1) := by decide +kernel
theorem dX8_both_87 : decode cX8_both 87 = .ok (.getfield 75, 3) := by decide +kernel
theorem dX8_both_90 : decode cX8_both 90 = .ok (.aload_n 0, 1) := by decide +kernel
theorem dX8_both_91 : decode cX8_both 91 = .ok (.getfield 78, 3) := by decide +kernel
theorem dX8_both_94 : decode cX8_both 94 = .ok (.invokestatic 174, 3) := by decide +kernel
theorem dX8_both_97 : decode cX8_both 97 = .ok (.aload_n 0, 1) := by decide +kernel
theorem dX8_both_98 : decode cX8_both 98 = .ok (.getfield 81, 3) := by decide +kernel
theorem dX8_both_101 : decode cX8_both 101 = .ok (.invokestatic 146, 3) := by decide +kernel
theorem dX8_both_104 : decode cX8_both 104 = .ok (.sipush 256, 3) := by decide +kernel
theorem dX8_both_107 : decode cX8_both 107 = .ok (.if_icmp .le 6, 3) := by decide +kernel
theorem dX8_both_110 : decode cX8_both 110 = .ok (.bipush (-4), 2) := by decide +kernel
theorem dX8_both_112 : decode cX8_both 112 = .ok (.ireturn, 1) := by decide +kernel
theorem dX8_both_113 : decode cX8_both 113 = .ok (.aload_n 0, 1) := by decide +kernel
theorem dX8_both_114 : decode cX8_both 114 = .ok (.getfield 63, 3) := by decide +kernel
theorem dX8_both_117 : decode cX8_both 117 = .ok (.iload_n 1, 1) := by decide +kernel
theorem dX8_both_118 : decode cX8_both 118 = .ok (.iaload, 1) := by decide +kernel
theorem dX8_both_119 : decode cX8_both 119 = .ok (.aload_n 0, 1) := by decide +kernel
theorem dX8_both_120 : decode cX8_both 120 = .ok (.getfield 63, 3) := by decide +kernel
theorem dX8_both_123 : decode cX8_both 123 = .ok (.iload_n 2, 1) := by decide +kernel
theorem dX8_both_124 : decode cX8_both 124 = .ok (.iaload, 1) := by decide +kernel
theorem dX8_both_125 : decode cX8_both 125 = .ok (.iadd, 1) := by decide +kernel
theorem dX8_both_126 : decode cX8_both 126 = .ok (.istore_n 3, 1) := by decide +kernel
theorem dX8_both_127 : decode cX8_both 127 = .ok (.iconst 0, 1) := by decide +kernel
theorem dX8_both_128 : decode cX8_both 128 = .ok (.istore 4, 2) := by decide +kernel
theorem dX8_both_130 : decode cX8_both 130 = .ok (.iload 4, 2) := by decide +kernel
theorem dX8_both_132 : decode cX8_both 132 = .ok (.iload_n 3, 1) := by decide +kernel
theorem dX8_both_133 : decode cX8_both 133 = .ok (.if_icmp .gt 144, 3) := by decide +kernel
theorem dX8_both_136 : decode cX8_both 136 = .ok (.aload_n 0, 1) := by decide +kernel
theorem dX8_both_137 : decode cX8_both 137 = .ok (.getfield 84, 3) := by decide +kernel
theorem dX8_both_140 : decode cX8_both 140 = .ok (.lconst 0, 1) := by decide +kernel
theorem dX8_both_141 : decode cX8_both 141 = .ok (.invokestatic 124, 3) := by decide +kernel
theorem dX8_both_144 : decode cX8_both 144 = .ok (.iconst 0, 1) := by decide +kernel
theorem dX8_both_145 : decode cX8_both 145 = .ok (.istore 5, 2) := by decide +kernel
theorem dX8_both_147 : decode cX8_both 147 = .ok (.iload 5, 2) := by decide +kernel
theorem dX8_both_149 : decode cX8_both 149 = .ok (.aload_n 0, 1) := by decide +kernel
theorem dX8_both_150 : decode cX8_both 150 = .ok (.getfield 63, 3) := by decide +kernel
theorem dX8_both_153 : decode cX8_both 153 = .ok (.iload_n 1, 1) := by decide +kernel
theorem dX8_both_154 : decode cX8_both 154 = .ok (.iaload, 1) := by decide +kernel
theorem dX8_both_155 : decode cX8_both 155 = .ok (.if_icmp .gt 94, 3) := by decide +kernel
theorem dX8_both_158 : decode cX8_both 158 = .ok (.iload 4, 2) := by decide +kernel
theorem dX8_both_160 : decode cX8_both 160 = .ok (.iload 5, 2) := by decide +kernel
theorem dX8_both_162 : decode cX8_both 162 = .ok (.isub, 1) := by decide +kernel
theorem dX8_both_163 : decode cX8_both 163 = .ok (.iconst 0, 1) := by decide +kernel
theorem dX8_both_164 : decode cX8_both 164 = .ok (.aload_n 0, 1) := by decide +kernel
theorem dX8_both_165 : decode cX8_both 165 = .ok (.getfield 63, 3) := by decide +kernel
theorem dX8_both_168 : decode cX8_both 168 = .ok (.iload_n 2, 1) := by decide +kernel
theorem dX8_both_169 : decode cX8_both 169 = .ok (.iaload, 1) := by decide +kernel
theorem dX8_both_170 : decode cX8_both 170 = .ok (.invokestatic 153, 3) := by decide +kernel
theorem dX8_both_173 : decode cX8_both 173 = .ok (.ifCond .eq 70, 3) := by decide +kernel
theorem dX8_both_176 : decode cX8_both 176 = .ok (.aload_n 0, 1) := by decide +kernel
theorem dX8_both_177 : decode cX8_both 177 = .ok (.getfield 75, 3) := by decide +kernel
theorem dX8_both_180 : decode cX8_both 180 = .ok (.aload_n 0, 1) := by decide +kernel
theorem dX8_both_181 : decode cX8_both 181 = .ok (.getfield 66, 3) := by decide +kernel
theorem dX8_both_184 : decode cX8_both 184 = .ok (.iload_n 1, 1) := by decide +kernel
theorem dX8_both_185 : decode cX8_both 185 = .ok (.iload 5, 2) := by decide +kernel
theorem dX8_both_187 : decode cX8_both 187 = .ok (.invokestatic 187, 3) := by decide +kernel
theorem dX8_both_190 : decode cX8_both 190 = .ok (.bipush 10, 2) := by decide +kernel
theorem dX8_both_192 : decode cX8_both 192 = .ok (.invokestatic 170, 3) := by decide +kernel
theorem dX8_both_195 : decode cX8_both 195 = .ok (.aload_n 0, 1) := by decide +kernel
theorem dX8_both_196 : decode cX8_both 196 = .ok (.getfield 78, 3) := by decide +kernel
theorem dX8_both_199 : decode cX8_both 199 = .ok (.aload_n 0, 1) := by decide +kernel
theorem dX8_both_200 : decode cX8_both 200 = .ok (.getfield 66, 3) := by decide +kernel
theorem dX8_both_203 : decode cX8_both 203 = .ok (.iload_n 2, 1) := by decide +kernel
theorem dX8_both_204 : decode cX8_both 204 = .ok (.iload 4, 2) := by decide +kernel
theorem dX8_both_206 : decode cX8_both 206 = .ok (.iload 5, 2) := by decide +kernel
theorem dX8_both_208 : decode cX8_both 208 = .ok (.isub, 1) := by decide +kernel
theorem dX8_both_209 : decode cX8_both 209 = .ok (.invokestatic 187, 3) := by decide +kernel
theorem dX8_both_212 : decode cX8_both 212 = .ok (.bipush 10, 2) := by decide +kernel
theorem dX8_both_214 : decode cX8_both 214 = .ok (.invokestatic 170, 3) := by decide +kernel
theorem dX8_both_217 : decode cX8_both 217 = .ok (.aload_n 0, 1) := by decide +kernel
theorem dX8_both_218 : decode cX8_both 218 = .ok (.getfield 81, 3) := by decide +kernel
theorem dX8_both_221 : decode cX8_both 221 = .ok (.aload_n 0, 1) := by decide +kernel
theorem dX8_both_222 : decode cX8_both 222 = .ok (.getfield 75, 3) := by decide +kernel
theorem dX8_both_225 : decode cX8_both 225 = .ok (.aload_n 0, 1) := by decide +kernel
theorem dX8_both_226 : decode cX8_both 226 = .ok (.getfield 78, 3) := by decide +kernel
theorem dX8_both_229 : decode cX8_both 229 = .ok (.invokestatic 174, 3) := by decide +kernel
theorem dX8_both_232 : decode cX8_both 232 = .ok (.aload_n 0, 1) := by decide +kernel
theorem dX8_both_233 : decode cX8_both 233 = .ok (.getfield 84, 3) := by decide +kernel
theorem dX8_both_236 : decode cX8_both 236 = .ok (.aload_n 0, 1) := by decide +kernel
theorem dX8_both_237 : decode cX8_both 237 = .ok (.getfield 81, 3) := by decide +kernel
theorem dX8_both_240 : decode cX8_both 240 = .ok (.invokestatic 191, 3) := by decide +kernel
theorem dX8_both_243 : decode cX8_both 243 = .ok (.iinc 5 1, 3) := by decide +kernel
theorem dX8_both_246 : decode cX8_both 246 = .ok (.goto (-99), 3) := by decide +kernel
theorem dX8_both_249 : decode cX8_both 249 = .ok (.aload_n 0, 1) := by decide +kernel
theorem dX8_both_250 : decode cX8_both 250 = .ok (.getfield 66, 3) := by decide +kernel
theorem dX8_both_253 : decode cX8_both 253 = .ok (.aload_n 0, 1) := by decide +kernel
theorem dX8_both_254 : decode cX8_both 254 = .ok (.getfield 178, 3) := by decide +kernel
theorem dX8_both_257 : decode cX8_both 257 = .ok (.iload 4, 2) := by decide +kernel
theorem dX8_both_259 : decode cX8_both 259 = .ok (.invokestatic 187, 3) := by decide +kernel
theorem dX8_both_262 : decode cX8_both 262 = .ok (.bipush 10, 2) := by decide +kernel
theorem dX8_both_264 : decode cX8_both 264 = .ok (.aload_n 0, 1) := by decide +kernel
theorem dX8_both_265 : decode cX8_both 265 = .ok (.getfield 84, 3) := by decide +kernel
theorem dX8_both_268 : decode cX8_both 268 = .ok (.invokestatic 166, 3) := by decide +kernel
theorem dX8_both_271 : decode cX8_both 271 = .ok (.iinc 4 1, 3) := by decide +kernel
theorem dX8_both_274 : decode cX8_both 274 = .ok (.goto (-144), 3) := by decide +kernel
theorem dX8_both_277 : decode cX8_both 277 = .ok (.aload_n 0, 1) := by decide +kernel
theorem dX8_both_278 : decode cX8_both 278 = .ok (.iconst 3, 1) := by decide +kernel
theorem dX8_both_279 : decode cX8_both 279 = .ok (.iload_n 3, 1) := by decide +kernel
theorem dX8_both_280 : decode cX8_both 280 = .ok (.invokevirtual 202, 3) := by decide +kernel
theorem dX8_both_283 : decode cX8_both 283 = .ok (.ireturn, 1) := by decide +kernel
theorem dX8_held_0 : decode cX8_held 0 = .ok (.aload_n 0, 1) := by decide +kernel
theorem dX8_held_1 : decode cX8_held 1 = .ok (.iload_n 1, 1) := by decide +kernel
theorem dX8_held_2 : decode cX8_held 2 = .ok (.invokevirtual 205, 3) := by decide +kernel
theorem dX8_held_5 : decode cX8_held 5 = .ok (.ifCond .eq 31, 3) := by decide +kernel
theorem dX8_held_8 : decode cX8_held 8 = .ok (.iload_n 2, 1) := by decide +kernel
theorem dX8_held_9 : decode cX8_held 9 = .ok (.iconst 0, 1) := by decide +kernel
theorem dX8_held_10 : decode cX8_held 10 = .ok (.aload_n 0, 1) := by decide +kernel
theorem dX8_held_11 : decode cX8_held 11 = .ok (.getfield 63, 3) := by decide +kernel
theorem dX8_held_14 : decode cX8_held 14 = .ok (.iload_n 1, 1) := by decide +kernel
theorem dX8_held_15 : decode cX8_held 15 = .ok (.iaload, 1) := by decide +kernel
theorem dX8_held_16 : decode cX8_held 16 = .ok (.invokestatic 153, 3) := by decide +kernel
theorem dX8_held_19 : decode cX8_held 19 = .ok (.ifCond .eq 17, 3) := by decide +kernel
theorem dX8_held_22 : decode cX8_held 22 = .ok (.iload_n 3, 1) := by decide +kernel
theorem dX8_held_23 : decode cX8_held 23 = .ok (.iload_n 2, 1) := by decide +kernel
theorem dX8_held_24 : decode cX8_held 24 = .ok (.aload_n 0, 1) := by decide +kernel
theorem dX8_held_25 : decode cX8_held 25 = .ok (.getfield 63, 3) := by decide +kernel
theorem dX8_held_28 : decode cX8_held 28 = .ok (.iload_n 1, 1) := by decide +kernel
theorem dX8_held_29 : decode cX8_held 29 = .ok (.iaload, 1) := by decide +kernel
theorem dX8_held_30 : decode cX8_held 30 = .ok (.invokestatic 153, 3) := by decide +kernel
theorem dX8_held_33 : decode cX8_held 33 = .ok (.ifCond .ne 5, 3) := by decide +kernel
theorem dX8_held_36 : decode cX8_held 36 = .ok (.iconst (-1), 1) := by decide +kernel
theorem dX8_held_37 : decode cX8_held 37 = .ok (.ireturn, 1) := by decide +kernel
theorem dX8_held_38 : decode cX8_held 38 = .ok (.aload_n 0, 1) := by decide +kernel
theorem dX8_held_39 : decode cX8_held 39 = .ok (.getfield 178, 3) := by decide +kernel
theorem dX8_held_42 : decode cX8_held 42 = .ok (.bipush 16, 2) := by decide +kernel
theorem dX8_held_44 : decode cX8_held 44 = .ok (.if_icmp .ne 6, 3) := by decide +kernel
theorem dX8_held_47 : decode cX8_held 47 = .ok (.bipush (-3), 2) := by decide +kernel
theorem dX8_held_49 : decode cX8_held 49 = .ok (.ireturn, 1) := by decide +kernel
theorem dX8_held_50 : decode cX8_held 50 = .ok (.iconst 0, 1) := by decide +kernel
theorem dX8_held_51 : decode cX8_held 51 = .ok (.istore 4, 2) := by decide +kernel
theorem dX8_held_53 : decode cX8_held 53 = .ok (.iload 4, 2) := by decide +kernel
theorem dX8_held_55 : decode cX8_held 55 = .ok (.aload_n 0, 1) := by decide +kernel
theorem dX8_held_56 : decode cX8_held 56 = .ok (.getfield 63, 3) := by decide +kernel
theorem dX8_held_59 : decode cX8_held 59 = .ok (.iload_n 1, 1) := by decide +kernel
theorem dX8_held_60 : decode cX8_held 60 = .ok (.iaload, 1) := by decide +kernel
theorem dX8_held_61 : decode cX8_held 61 = .ok (.if_icmp .gt 120, 3) := by decide +kernel
theorem dX8_held_64 : decode cX8_held 64 = .ok (.aload_n 0, 1) := by decide +kernel
theorem dX8_held_65 : decode cX8_held 65 = .ok (.getfield 84, 3) := by decide +kernel
theorem dX8_held_68 : decode cX8_held 68 = .ok (.lconst 0, 1) := by decide +kernel
theorem dX8_held_69 : decode cX8_held 69 = .ok (.invokestatic 124, 3) := by decide +kernel
theorem dX8_held_72 : decode cX8_held 72 = .ok (.iconst 0, 1) := by decide +kernel
theorem dX8_held_73 : decode cX8_held 73 = .ok (.istore 5, 2) := by decide +kernel
theorem dX8_held_75 : decode cX8_held 75 = .ok (.iload 5, 2) := by decide +kernel
theorem dX8_held_77 : decode cX8_held 77 = .ok (.aload_n 0, 1) := by decide +kernel
theorem dX8_held_78 : decode cX8_held 78 = .ok (.getfield 63, 3) := by decide +kernel
theorem dX8_held_81 : decode cX8_held 81 = .ok (.iload_n 1, 1) := by decide +kernel
theorem dX8_held_82 : decode cX8_held 82 = .ok (.iaload, 1) := by decide +kernel
theorem dX8_held_83 : decode cX8_held 83 = .ok (.if_icmp .gt 70, 3) := by decide +kernel
theorem dX8_held_86 : decode cX8_held 86 = .ok (.iload 5, 2) := by decide +kernel
theorem dX8_held_88 : decode cX8_held 88 = .ok (.iload_n 2, 1) := by decide +kernel
theorem dX8_held_89 : decode cX8_held 89 = .ok (.if_icmp .ge 7, 3) := by decide +kernel
theorem dX8_held_92 : decode cX8_held 92 = .ok (.iload_n 2, 1) := by decide +kernel
theorem dX8_held_93 : decode cX8_held 93 = .ok (.goto 15, 3) := by decide +kernel
theorem dX8_held_96 : decode cX8_held 96 = .ok (.iload 5, 2) := by decide +kernel
theorem dX8_held_98 : decode cX8_held 98 = .ok (.iload_n 3, 1) := by decide +kernel
theorem dX8_held_99 : decode cX8_held 99 = .ok (.if_icmp .le 7, 3) := by decide +kernel
theorem dX8_held_102 : decode cX8_held 102 = .ok (.iload_n 3, 1) := by decide +kernel
theorem dX8_held_103 : decode cX8_held 103 = .ok (.goto 5, 3) := by decide +kernel
theorem dX8_held_106 : decode cX8_held 106 = .ok (.iload 5, 2) := by decide +kernel
theorem dX8_held_108 : decode cX8_held 108 = .ok (.istore 6, 2) := by decide +kernel
theorem dX8_held_110 : decode cX8_held 110 = .ok (.iload 6, 2) := by decide +kernel
theorem dX8_held_112 : decode cX8_held 112 = .ok (.iload 4, 2) := by decide +kernel
theorem dX8_held_114 : decode cX8_held 114 = .ok (.if_icmp .ne 33, 3) := by decide +kernel
theorem dX8_held_117 : decode cX8_held 117 = .ok (.aload_n 0, 1) := by decide +kernel
theorem dX8_held_118 : decode cX8_held 118 = .ok (.getfield 75, 3) := by decide +kernel
theorem dX8_held_121 : decode cX8_held 121 = .ok (.aload_n 0, 1) := by decide +kernel
theorem dX8_held_122 : decode cX8_held 122 = .ok (.getfield 66, 3) := by decide +kernel
theorem dX8_held_125 : decode cX8_held 125 = .ok (.iload_n 1, 1) := by decide +kernel
theorem dX8_held_126 : decode cX8_held 126 = .ok (.iload 5, 2) := by decide +kernel
theorem dX8_held_128 : decode cX8_held 128 = .ok (.invokestatic 187, 3) := by decide +kernel
theorem dX8_held_131 : decode cX8_held 131 = .ok (.bipush 10, 2) := by decide +kernel
theorem dX8_held_133 : decode cX8_held 133 = .ok (.invokestatic 170, 3) := by decide +kernel
theorem dX8_held_136 : decode cX8_held 136 = .ok (.aload_n 0, 1) := by decide +kernel
theorem dX8_held_137 : decode cX8_held 137 = .ok (.getfield 84, 3) := by decide +kernel
theorem dX8_held_140 : decode cX8_held 140 = .ok (.aload_n 0, 1) := by decide +kernel
theorem dX8_held_141 : decode cX8_held 141 = .ok (.getfield 75, 3) := by decide +kernel
theorem dX8_held_144 : decode cX8_held 144 = .ok (.invokestatic 191, 3) := by decide +kernel
theorem dX8_held_147 : decode cX8_held 147 = .ok (.iinc 5 1, 3) := by decide +kernel
theorem dX8_held_150 : decode cX8_held 150 = .ok (.goto (-75), 3) := by decide +kernel
theorem dX8_held_153 : decode cX8_held 153 = .ok (.aload_n 0, 1) := by decide +kernel
theorem dX8_held_154 : decode cX8_held 154 = .ok (.getfield 66, 3) := by decide +kernel
theorem dX8_held_157 : decode cX8_held 157 = .ok (.aload_n 0, 1) := by decide +kernel
theorem dX8_held_158 : decode cX8_held 158 = .ok (.getfield 178, 3) := by decide +kernel
theorem dX8_held_161 : decode cX8_held 161 = .ok (.iload 4, 2) := by decide +kernel
theorem dX8_held_163 : decode cX8_held 163 = .ok (.invokestatic 187, 3) := by decide +kernel
theorem dX8_held_166 : decode cX8_held 166 = .ok (.bipush 10, 2) := by decide +kernel
theorem dX8_held_168 : decode cX8_held 168 = .ok (.aload_n 0, 1) := by decide +kernel
theorem dX8_held_169 : decode cX8_held 169 = .ok (.getfield 84, 3) := by decide +kernel
theorem dX8_held_172 : decode cX8_held 172 = .ok (.invokestatic 166, 3) := by decide +kernel
theorem dX8_held_175 : decode cX8_held 175 = .ok (.iinc 4 1, 3) := by decide +kernel
theorem dX8_held_178 : decode cX8_held 178 = .ok (.goto (-125), 3) := by decide +kernel
theorem dX8_held_181 : decode cX8_held 181 = .ok (.aload_n 0, 1) := by decide +kernel
theorem dX8_held_182 : decode cX8_held 182 = .ok (.iconst 4, 1) := by decide +kernel
theorem dX8_held_183 : decode cX8_held 183 = .ok (.aload_n 0, 1) := by decide +kernel
theorem dX8_held_184 : decode cX8_held 184 = .ok (.getfield 63, 3) := by decide +kernel
theorem dX8_held_187 : decode cX8_held 187 = .ok (.iload_n 1, 1) := by decide +kernel
theorem dX8_held_188 : decode cX8_held 188 = .ok (.iaload, 1) := by decide +kernel
theorem dX8_held_189 : decode cX8_held 189 = .ok (.invokevirtual 202, 3) := by decide +kernel
theorem dX8_held_192 : decode cX8_held 192 = .ok (.ireturn, 1) := by decide +kernel
theorem dX8_source_0 : decode cX8_source 0 = .ok (.aload_n 0, 1) := by decide +kernel
theorem dX8_source_1 : decode cX8_source 1 = .ok (.iload_n 1, 1) := by decide +kernel
theorem dX8_source_2 : decode cX8_source 2 = .ok (.invokevirtual 205, 3) := by decide +kernel
theorem dX8_source_5 : decode cX8_source 5 = .ok (.ifCond .eq 12, 3) := by decide +kernel
theorem dX8_source_8 : decode cX8_source 8 = .ok (.iload_n 2, 1) := by decide +kernel
theorem dX8_source_9 : decode cX8_source 9 = .ok (.iconst 0, 1) := by decide +kernel
theorem dX8_source_10 : decode cX8_source 10 = .ok (.iconst 3, 1) := by decide +kernel
theorem dX8_source_11 : decode cX8_source 11 = .ok (.invokestatic 153, 3) := by decide +kernel
theorem dX8_source_14 : decode cX8_source 14 = .ok (.ifCond .ne 5, 3) := by decide +kernel
theorem dX8_source_17 : decode cX8_source 17 = .ok (.iconst (-1), 1) := by decide +kernel
theorem dX8_source_18 : decode cX8_source 18 = .ok (.ireturn, 1) := by decide +kernel
theorem dX8_source_19 : decode cX8_source 19 = .ok (.iload_n 2, 1) := by decide +kernel
theorem dX8_source_20 : decode cX8_source 20 = .ok (.iconst 2, 1) := by decide +kernel
theorem dX8_source_21 : decode cX8_source 21 = .ok (.if_icmp .ge 23, 3) := by decide +kernel
theorem dX8_source_24 : decode cX8_source 24 = .ok (.iload_n 2, 1) := by decide +kernel
theorem dX8_source_25 : decode cX8_source 25 = .ok (.ifCond .ne 12, 3) := by decide +kernel
theorem dX8_source_28 : decode cX8_source 28 = .ok (.aload_n 0, 1) := by decide +kernel
theorem dX8_source_29 : decode cX8_source 29 = .ok (.getfield 59, 3) := by decide +kernel
theorem dX8_source_32 : decode cX8_source 32 = .ok (.iload_n 1, 1) := by decide +kernel
theorem dX8_source_33 : decode cX8_source 33 = .ok (.iaload, 1) := by decide +kernel
theorem dX8_source_34 : decode cX8_source 34 = .ok (.goto 9, 3) := by decide +kernel
theorem dX8_source_37 : decode cX8_source 37 = .ok (.aload_n 0, 1) := by decide +kernel
theorem dX8_source_38 : decode cX8_source 38 = .ok (.getfield 63, 3) := by decide +kernel
theorem dX8_source_41 : decode cX8_source 41 = .ok (.iload_n 1, 1) := by decide +kernel
theorem dX8_source_42 : decode cX8_source 42 = .ok (.iaload, 1) := by decide +kernel
theorem dX8_source_43 : decode cX8_source 43 = .ok (.ireturn, 1) := by decide +kernel
theorem dX8_source_44 : decode cX8_source 44 = .ok (.iload_n 2, 1) := by decide +kernel
theorem dX8_source_45 : decode cX8_source 45 = .ok (.iconst 2, 1) := by decide +kernel
theorem dX8_source_46 : decode cX8_source 46 = .ok (.if_icmp .ne 28, 3) := by decide +kernel
theorem dX8_source_49 : decode cX8_source 49 = .ok (.aload_n 0, 1) := by decide +kernel
theorem dX8_source_50 : decode cX8_source 50 = .ok (.getfield 75, 3) := by decide +kernel
theorem dX8_source_53 : decode cX8_source 53 = .ok (.aload_n 0, 1) := by decide +kernel
theorem dX8_source_54 : decode cX8_source 54 = .ok (.getfield 69, 3) := by decide +kernel
theorem dX8_source_57 : decode cX8_source 57 = .ok (.bipush 10, 2) := by decide +kernel
theorem dX8_source_59 : decode cX8_source 59 = .ok (.iload_n 1, 1) := by decide +kernel
theorem dX8_source_60 : decode cX8_source 60 = .ok (.imul, 1) := by decide +kernel
theorem dX8_source_61 : decode cX8_source 61 = .ok (.bipush 10, 2) := by decide +kernel
theorem dX8_source_63 : decode cX8_source 63 = .ok (.invokestatic 170, 3) := by decide +kernel
theorem dX8_source_66 : decode cX8_source 66 = .ok (.aload_n 0, 1) := by decide +kernel
theorem dX8_source_67 : decode cX8_source 67 = .ok (.getfield 75, 3) := by decide +kernel
theorem dX8_source_70 : decode cX8_source 70 = .ok (.invokestatic 146, 3) := by decide +kernel
theorem dX8_source_73 : decode cX8_source 73 = .ok (.ireturn, 1) := by decide +kernel
theorem dX8_source_74 : decode cX8_source 74 = .ok (.iconst 0, 1) := by decide +kernel
theorem dX8_source_75 : decode cX8_source 75 = .ok (.istore_n 3, 1) := by decide +kernel
theorem dX8_source_76 : decode cX8_source 76 = .ok (.iconst 0, 1) := by decide +kernel
theorem dX8_source_77 : decode cX8_source 77 = .ok (.istore 4, 2) := by decide +kernel
theorem dX8_source_79 : decode cX8_source 79 = .ok (.iload 4, 2) := by decide +kernel
theorem dX8_source_81 : decode cX8_source 81 = .ok (.aload_n 0, 1) := by decide +kernel
theorem dX8_source_82 : decode cX8_source 82 = .ok (.getfield 63, 3) := by decide +kernel
theorem dX8_source_85 : decode cX8_source 85 = .ok (.iload_n 1, 1) := by decide +kernel
theorem dX8_source_86 : decode cX8_source 86 = .ok (.iaload, 1) := by decide +kernel
theorem dX8_source_87 : decode cX8_source 87 = .ok (.if_icmp .gt 46, 3) := by decide +kernel
theorem dX8_source_90 : decode cX8_source 90 = .ok (.aload_n 0, 1) := by decide +kernel
theorem dX8_source_91 : decode cX8_source 91 = .ok (.getfield 75, 3) := by decide +kernel
theorem dX8_source_94 : decode cX8_source 94 = .ok (.aload_n 0, 1) := by decide +kernel
theorem dX8_source_95 : decode cX8_source 95 = .ok (.getfield 66, 3) := by decide +kernel
theorem dX8_source_98 : decode cX8_source 98 = .ok (.iload_n 1, 1) := by decide +kernel
theorem dX8_source_99 : decode cX8_source 99 = .ok (.iload 4, 2) := by decide +kernel
theorem dX8_source_101 : decode cX8_source 101 = .ok (.invokestatic 187, 3) := by decide +kernel
theorem dX8_source_104 : decode cX8_source 104 = .ok (.bipush 10, 2) := by decide +kernel
theorem dX8_source_106 : decode cX8_source 106 = .ok (.invokestatic 170, 3) := by decide +kernel
theorem dX8_source_109 : decode cX8_source 109 = .ok (.iload_n 3, 1) := by decide +kernel
theorem dX8_source_110 : decode cX8_source 110 = .ok (.aload_n 0, 1) := by decide +kernel
theorem dX8_source_111 : decode cX8_source 111 = .ok (.getfield 75, 3) := by decide +kernel
theorem dX8_source_114 : decode cX8_source 114 = .ok (.invokestatic 120, 3) := by decide +kernel
theorem dX8_source_117 : decode cX8_source 117 = .ok (.ifCond .ge 7, 3) := by decide +kernel
theorem dX8_source_120 : decode cX8_source 120 = .ok (.iconst 1, 1) := by decide +kernel
theorem dX8_source_121 : decode cX8_source 121 = .ok (.goto 4, 3) := by decide +kernel
theorem dX8_source_124 : decode cX8_source 124 = .ok (.iconst 0, 1) := by decide +kernel
theorem dX8_source_125 : decode cX8_source 125 = .ok (.iadd, 1) := by decide +kernel
theorem dX8_source_126 : decode cX8_source 126 = .ok (.istore_n 3, 1) := by decide +kernel
theorem dX8_source_127 : decode cX8_source 127 = .ok (.iinc 4 1, 3) := by decide +kernel
theorem dX8_source_130 : decode cX8_source 130 = .ok (.goto (-51), 3) := by decide +kernel
theorem dX8_source_133 : decode cX8_source 133 = .ok (.iload_n 3, 1) := by decide +kernel
theorem dX8_source_134 : decode cX8_source 134 = .ok (.ireturn, 1) := by decide +kernel
theorem dX8_counted_0 : decode cX8_counted 0 = .ok (.aload_n 0, 1) := by decide +kernel
theorem dX8_counted_1 : decode cX8_counted 1 = .ok (.iload_n 1, 1) := by decide +kernel
theorem dX8_counted_2 : decode cX8_counted 2 = .ok (.invokevirtual 205, 3) := by decide +kernel
theorem dX8_counted_5 : decode cX8_counted 5 = .ok (.ifCond .eq 13, 3) := by decide +kernel
theorem dX8_counted_8 : decode cX8_counted 8 = .ok (.iload_n 2, 1) := by decide +kernel
theorem dX8_counted_9 : decode cX8_counted 9 = .ok (.iconst 0, 1) := by decide +kernel
theorem dX8_counted_10 : decode cX8_counted 10 = .ok (.bipush 120, 2) := by decide +kernel
theorem dX8_counted_12 : decode cX8_counted 12 = .ok (.invokestatic 153, 3) := by decide +kernel
theorem dX8_counted_15 : decode cX8_counted 15 = .ok (.ifCond .ne 5, 3) := by decide +kernel
theorem dX8_counted_18 : decode cX8_counted 18 = .ok (.iconst (-1), 1) := by decide +kernel
theorem dX8_counted_19 : decode cX8_counted 19 = .ok (.ireturn, 1) := by decide +kernel
theorem dX8_counted_20 : decode cX8_counted 20 = .ok (.aload_n 0, 1) := by decide +kernel
theorem dX8_counted_21 : decode cX8_counted 21 = .ok (.getfield 75, 3) := by decide +kernel
theorem dX8_counted_24 : decode cX8_counted 24 = .ok (.aload_n 0, 1) := by decide +kernel
theorem dX8_counted_25 : decode cX8_counted 25 = .ok (.getfield 69, 3) := by decide +kernel
theorem dX8_counted_28 : decode cX8_counted 28 = .ok (.bipush 10, 2) := by decide +kernel
theorem dX8_counted_30 : decode cX8_counted 30 = .ok (.iload_n 1, 1) := by decide +kernel
theorem dX8_counted_31 : decode cX8_counted 31 = .ok (.imul, 1) := by decide +kernel
theorem dX8_counted_32 : decode cX8_counted 32 = .ok (.bipush 10, 2) := by decide +kernel
theorem dX8_counted_34 : decode cX8_counted 34 = .ok (.invokestatic 170, 3) := by decide +kernel
theorem dX8_counted_37 : decode cX8_counted 37 = .ok (.aload_n 0, 1) := by decide +kernel
theorem dX8_counted_38 : decode cX8_counted 38 = .ok (.getfield 78, 3) := by decide +kernel
theorem dX8_counted_41 : decode cX8_counted 41 = .ok (.ldc2_w 209, 3) := by decide +kernel
theorem dX8_counted_44 : decode cX8_counted 44 = .ok (.invokestatic 124, 3) := by decide +kernel
theorem dX8_counted_47 : decode cX8_counted 47 = .ok (.aload_n 0, 1) := by decide +kernel
theorem dX8_counted_48 : decode cX8_counted 48 = .ok (.getfield 59, 3) := by decide +kernel
theorem dX8_counted_51 : decode cX8_counted 51 = .ok (.iload_n 1, 1) := by decide +kernel
theorem dX8_counted_52 : decode cX8_counted 52 = .ok (.iaload, 1) := by decide +kernel
theorem dX8_counted_53 : decode cX8_counted 53 = .ok (.ifCond .eq 13, 3) := by decide +kernel
theorem dX8_counted_56 : decode cX8_counted 56 = .ok (.aload_n 0, 1) := by decide +kernel
theorem dX8_counted_57 : decode cX8_counted 57 = .ok (.getfield 59, 3) := by decide +kernel
theorem dX8_counted_60 : decode cX8_counted 60 = .ok (.iload_n 1, 1) := by decide +kernel
theorem dX8_counted_61 : decode cX8_counted 61 = .ok (.iaload, 1) := by decide +kernel
theorem dX8_counted_62 : decode cX8_counted 62 = .ok (.iconst 2, 1) := by decide +kernel
theorem dX8_counted_63 : decode cX8_counted 63 = .ok (.if_icmp .ne 17, 3) := by decide +kernel
theorem dX8_counted_66 : decode cX8_counted 66 = .ok (.aload_n 0, 1) := by decide +kernel
theorem dX8_counted_67 : decode cX8_counted 67 = .ok (.getfield 75, 3) := by decide +kernel
theorem dX8_counted_70 : decode cX8_counted 70 = .ok (.aload_n 0, 1) := by decide +kernel
theorem dX8_counted_71 : decode cX8_counted 71 = .ok (.getfield 78, 3) := by decide +kernel
theorem dX8_counted_74 : decode cX8_counted 74 = .ok (.invokestatic 136, 3) := by decide +kernel
theorem dX8_counted_77 : decode cX8_counted 77 = .ok (.ifCond .le 6, 3) := by decide +kernel
theorem dX8_counted_80 : decode cX8_counted 80 = .ok (.bipush (-5), 2) := by decide +kernel
theorem dX8_counted_82 : decode cX8_counted 82 = .ok (.ireturn, 1) := by decide +kernel
theorem dX8_counted_83 : decode cX8_counted 83 = .ok (.iconst 0, 1) := by decide +kernel
theorem dX8_counted_84 : decode cX8_counted 84 = .ok (.istore_n 3, 1) := by decide +kernel
theorem dX8_counted_85 : decode cX8_counted 85 = .ok (.iload_n 2, 1) := by decide +kernel
theorem dX8_counted_86 : decode cX8_counted 86 = .ok (.istore 4, 2) := by decide +kernel
theorem dX8_counted_88 : decode cX8_counted 88 = .ok (.iload 4, 2) := by decide +kernel
theorem dX8_counted_90 : decode cX8_counted 90 = .ok (.aload_n 0, 1) := by decide +kernel
theorem dX8_counted_91 : decode cX8_counted 91 = .ok (.getfield 63, 3) := by decide +kernel
theorem dX8_counted_94 : decode cX8_counted 94 = .ok (.iload_n 1, 1) := by decide +kernel
theorem dX8_counted_95 : decode cX8_counted 95 = .ok (.iaload, 1) := by decide +kernel
theorem dX8_counted_96 : decode cX8_counted 96 = .ok (.if_icmp .gt 24, 3) := by decide +kernel
theorem dX8_counted_99 : decode cX8_counted 99 = .ok (.iload_n 3, 1) := by decide +kernel
theorem dX8_counted_100 : decode cX8_counted 100 = .ok (.aload_n 0, 1) := by decide +kernel
theorem dX8_counted_101 : decode cX8_counted 101 = .ok (.getfield 66, 3) := by decide +kernel
theorem dX8_counted_104 : decode cX8_counted 104 = .ok (.iload_n 1, 1) := by decide +kernel
theorem dX8_counted_105 : decode cX8_counted 105 = .ok (.iload 4, 2) := by decide +kernel
theorem dX8_counted_107 : decode cX8_counted 107 = .ok (.invokestatic 187, 3) := by decide +kernel
theorem dX8_counted_110 : decode cX8_counted 110 = .ok (.laload, 1) := by decide +kernel
theorem dX8_counted_111 : decode cX8_counted 111 = .ok (.l2i, 1) := by decide +kernel
theorem dX8_counted_112 : decode cX8_counted 112 = .ok (.iadd, 1) := by decide +kernel
theorem dX8_counted_113 : decode cX8_counted 113 = .ok (.istore_n 3, 1) := by decide +kernel
theorem dX8_counted_114 : decode cX8_counted 114 = .ok (.iinc 4 1, 3) := by decide +kernel
theorem dX8_counted_117 : decode cX8_counted 117 = .ok (.goto (-29), 3) := by decide +kernel
theorem dX8_counted_120 : decode cX8_counted 120 = .ok (.iload_n 3, 1) := by decide +kernel
theorem dX8_counted_121 : decode cX8_counted 121 = .ok (.ireturn, 1) := by decide +kernel
theorem dX8_set_0 : decode cX8_set 0 = .ok (.iload_n 1, 1) := by decide +kernel
theorem dX8_set_1 : decode cX8_set 1 = .ok (.invokestatic 211, 3) := by decide +kernel
theorem dX8_set_4 : decode cX8_set 4 = .ok (.ifCond .eq 12, 3) := by decide +kernel
theorem dX8_set_7 : decode cX8_set 7 = .ok (.iload_n 2, 1) := by decide +kernel
theorem dX8_set_8 : decode cX8_set 8 = .ok (.ifCond .lt 8, 3) := by decide +kernel
theorem dX8_set_11 : decode cX8_set 11 = .ok (.iload_n 3, 1) := by decide +kernel
theorem dX8_set_12 : decode cX8_set 12 = .ok (.iconst 1, 1) := by decide +kernel
theorem dX8_set_13 : decode cX8_set 13 = .ok (.if_icmp .ge 5, 3) := by decide +kernel
theorem dX8_set_16 : decode cX8_set 16 = .ok (.iconst (-1), 1) := by decide +kernel
theorem dX8_set_17 : decode cX8_set 17 = .ok (.ireturn, 1) := by decide +kernel
theorem dX8_set_18 : decode cX8_set 18 = .ok (.aload_n 0, 1) := by decide +kernel
theorem dX8_set_19 : decode cX8_set 19 = .ok (.getfield 35, 3) := by decide +kernel
theorem dX8_set_22 : decode cX8_set 22 = .ok (.iload_n 2, 1) := by decide +kernel
theorem dX8_set_23 : decode cX8_set 23 = .ok (.i2l, 1) := by decide +kernel
theorem dX8_set_24 : decode cX8_set 24 = .ok (.invokestatic 124, 3) := by decide +kernel
theorem dX8_set_27 : decode cX8_set 27 = .ok (.aload_n 0, 1) := by decide +kernel
theorem dX8_set_28 : decode cX8_set 28 = .ok (.getfield 38, 3) := by decide +kernel
theorem dX8_set_31 : decode cX8_set 31 = .ok (.iload_n 3, 1) := by decide +kernel
theorem dX8_set_32 : decode cX8_set 32 = .ok (.i2l, 1) := by decide +kernel
theorem dX8_set_33 : decode cX8_set 33 = .ok (.invokestatic 124, 3) := by decide +kernel
theorem dX8_set_36 : decode cX8_set 36 = .ok (.aload_n 0, 1) := by decide +kernel
theorem dX8_set_37 : decode cX8_set 37 = .ok (.iload_n 1, 1) := by decide +kernel
theorem dX8_set_38 : decode cX8_set 38 = .ok (.invokevirtual 214, 3) := by decide +kernel
theorem dX8_set_41 : decode cX8_set 41 = .ok (.ireturn, 1) := by decide +kernel
theorem dX8_weighs_0 : decode cX8_weighs 0 = .ok (.aload_n 0, 1) := by decide +kernel
theorem dX8_weighs_1 : decode cX8_weighs 1 = .ok (.getfield 93, 3) := by decide +kernel
theorem dX8_weighs_4 : decode cX8_weighs 4 = .ok (.aload_n 0, 1) := by decide +kernel
theorem dX8_weighs_5 : decode cX8_weighs 5 = .ok (.getfield 69, 3) := by decide +kernel
theorem dX8_weighs_8 : decode cX8_weighs 8 = .ok (.bipush 10, 2) := by decide +kernel
theorem dX8_weighs_10 : decode cX8_weighs 10 = .ok (.iload_n 1, 1) := by decide +kernel
theorem dX8_weighs_11 : decode cX8_weighs 11 = .ok (.imul, 1) := by decide +kernel
theorem dX8_weighs_12 : decode cX8_weighs 12 = .ok (.bipush 10, 2) := by decide +kernel
theorem dX8_weighs_14 : decode cX8_weighs 14 = .ok (.invokestatic 170, 3) := by decide +kernel
theorem dX8_weighs_17 : decode cX8_weighs 17 = .ok (.aload_n 0, 1) := by decide +kernel
theorem dX8_weighs_18 : decode cX8_weighs 18 = .ok (.getfield 96, 3) := by decide +kernel
theorem dX8_weighs_21 : decode cX8_weighs 21 = .ok (.lconst 0, 1) := by decide +kernel
theorem dX8_weighs_22 : decode cX8_weighs 22 = .ok (.invokestatic 124, 3) := by decide +kernel
theorem dX8_weighs_25 : decode cX8_weighs 25 = .ok (.iconst 0, 1) := by decide +kernel
theorem dX8_weighs_26 : decode cX8_weighs 26 = .ok (.istore_n 2, 1) := by decide +kernel
theorem dX8_weighs_27 : decode cX8_weighs 27 = .ok (.iload_n 2, 1) := by decide +kernel
theorem dX8_weighs_28 : decode cX8_weighs 28 = .ok (.aload_n 0, 1) := by decide +kernel
theorem dX8_weighs_29 : decode cX8_weighs 29 = .ok (.getfield 63, 3) := by decide +kernel
theorem dX8_weighs_32 : decode cX8_weighs 32 = .ok (.iload_n 1, 1) := by decide +kernel
theorem dX8_weighs_33 : decode cX8_weighs 33 = .ok (.iaload, 1) := by decide +kernel
theorem dX8_weighs_34 : decode cX8_weighs 34 = .ok (.if_icmp .gt 47, 3) := by decide +kernel
theorem dX8_weighs_37 : decode cX8_weighs 37 = .ok (.aload_n 0, 1) := by decide +kernel
theorem dX8_weighs_38 : decode cX8_weighs 38 = .ok (.getfield 75, 3) := by decide +kernel
theorem dX8_weighs_41 : decode cX8_weighs 41 = .ok (.aload_n 0, 1) := by decide +kernel
theorem dX8_weighs_42 : decode cX8_weighs 42 = .ok (.getfield 66, 3) := by decide +kernel
theorem dX8_weighs_45 : decode cX8_weighs 45 = .ok (.iload_n 1, 1) := by decide +kernel
theorem dX8_weighs_46 : decode cX8_weighs 46 = .ok (.iload_n 2, 1) := by decide +kernel
theorem dX8_weighs_47 : decode cX8_weighs 47 = .ok (.invokestatic 187, 3) := by decide +kernel
theorem dX8_weighs_50 : decode cX8_weighs 50 = .ok (.bipush 10, 2) := by decide +kernel
theorem dX8_weighs_52 : decode cX8_weighs 52 = .ok (.invokestatic 170, 3) := by decide +kernel
theorem dX8_weighs_55 : decode cX8_weighs 55 = .ok (.aload_n 0, 1) := by decide +kernel
theorem dX8_weighs_56 : decode cX8_weighs 56 = .ok (.getfield 75, 3) := by decide +kernel
theorem dX8_weighs_59 : decode cX8_weighs 59 = .ok (.iload_n 2, 1) := by decide +kernel
theorem dX8_weighs_60 : decode cX8_weighs 60 = .ok (.i2l, 1) := by decide +kernel
theorem dX8_weighs_61 : decode cX8_weighs 61 = .ok (.invokestatic 184, 3) := by decide +kernel
theorem dX8_weighs_64 : decode cX8_weighs 64 = .ok (.aload_n 0, 1) := by decide +kernel
theorem dX8_weighs_65 : decode cX8_weighs 65 = .ok (.getfield 96, 3) := by decide +kernel
theorem dX8_weighs_68 : decode cX8_weighs 68 = .ok (.aload_n 0, 1) := by decide +kernel
theorem dX8_weighs_69 : decode cX8_weighs 69 = .ok (.getfield 75, 3) := by decide +kernel
theorem dX8_weighs_72 : decode cX8_weighs 72 = .ok (.invokestatic 191, 3) := by decide +kernel
theorem dX8_weighs_75 : decode cX8_weighs 75 = .ok (.iinc 2 1, 3) := by decide +kernel
theorem dX8_weighs_78 : decode cX8_weighs 78 = .ok (.goto (-51), 3) := by decide +kernel
theorem dX8_weighs_81 : decode cX8_weighs 81 = .ok (.return_, 1) := by decide +kernel
theorem dX8_mean_0 : decode cX8_mean 0 = .ok (.iload_n 1, 1) := by decide +kernel
theorem dX8_mean_1 : decode cX8_mean 1 = .ok (.invokestatic 211, 3) := by decide +kernel
theorem dX8_mean_4 : decode cX8_mean 4 = .ok (.ifCond .eq 11, 3) := by decide +kernel
theorem dX8_mean_7 : decode cX8_mean 7 = .ok (.aload_n 0, 1) := by decide +kernel
theorem dX8_mean_8 : decode cX8_mean 8 = .ok (.iload_n 2, 1) := by decide +kernel
theorem dX8_mean_9 : decode cX8_mean 9 = .ok (.invokevirtual 205, 3) := by decide +kernel
theorem dX8_mean_12 : decode cX8_mean 12 = .ok (.ifCond .ne 5, 3) := by decide +kernel
theorem dX8_mean_15 : decode cX8_mean 15 = .ok (.iconst (-1), 1) := by decide +kernel
theorem dX8_mean_16 : decode cX8_mean 16 = .ok (.ireturn, 1) := by decide +kernel
theorem dX8_mean_17 : decode cX8_mean 17 = .ok (.aload_n 0, 1) := by decide +kernel
theorem dX8_mean_18 : decode cX8_mean 18 = .ok (.iload_n 2, 1) := by decide +kernel
theorem dX8_mean_19 : decode cX8_mean 19 = .ok (.invokevirtual 218, 3) := by decide +kernel
theorem dX8_mean_22 : decode cX8_mean 22 = .ok (.aload_n 0, 1) := by decide +kernel
theorem dX8_mean_23 : decode cX8_mean 23 = .ok (.getfield 35, 3) := by decide +kernel
theorem dX8_mean_26 : decode cX8_mean 26 = .ok (.aload_n 0, 1) := by decide +kernel
theorem dX8_mean_27 : decode cX8_mean 27 = .ok (.getfield 96, 3) := by decide +kernel
theorem dX8_mean_30 : decode cX8_mean 30 = .ok (.invokestatic 128, 3) := by decide +kernel
theorem dX8_mean_33 : decode cX8_mean 33 = .ok (.aload_n 0, 1) := by decide +kernel
theorem dX8_mean_34 : decode cX8_mean 34 = .ok (.getfield 38, 3) := by decide +kernel
theorem dX8_mean_37 : decode cX8_mean 37 = .ok (.aload_n 0, 1) := by decide +kernel
theorem dX8_mean_38 : decode cX8_mean 38 = .ok (.getfield 93, 3) := by decide +kernel
theorem dX8_mean_41 : decode cX8_mean 41 = .ok (.invokestatic 128, 3) := by decide +kernel
theorem dX8_mean_44 : decode cX8_mean 44 = .ok (.aload_n 0, 1) := by decide +kernel
theorem dX8_mean_45 : decode cX8_mean 45 = .ok (.iload_n 1, 1) := by decide +kernel
theorem dX8_mean_46 : decode cX8_mean 46 = .ok (.invokevirtual 214, 3) := by decide +kernel
theorem dX8_mean_49 : decode cX8_mean 49 = .ok (.ireturn, 1) := by decide +kernel
theorem dX8_away_0 : decode cX8_away 0 = .ok (.aload_n 1, 1) := by decide +kernel
theorem dX8_away_1 : decode cX8_away 1 = .ok (.aload_n 0, 1) := by decide +kernel
theorem dX8_away_2 : decode cX8_away 2 = .ok (.getfield 93, 3) := by decide +kernel
theorem dX8_away_5 : decode cX8_away 5 = .ok (.invokestatic 128, 3) := by decide +kernel
theorem dX8_away_8 : decode cX8_away 8 = .ok (.aload_n 1, 1) := by decide +kernel
theorem dX8_away_9 : decode cX8_away 9 = .ok (.iload_n 2, 1) := by decide +kernel
theorem dX8_away_10 : decode cX8_away 10 = .ok (.i2l, 1) := by decide +kernel
theorem dX8_away_11 : decode cX8_away 11 = .ok (.invokestatic 184, 3) := by decide +kernel
theorem dX8_away_14 : decode cX8_away 14 = .ok (.aload_n 1, 1) := by decide +kernel
theorem dX8_away_15 : decode cX8_away 15 = .ok (.aload_n 0, 1) := by decide +kernel
theorem dX8_away_16 : decode cX8_away 16 = .ok (.getfield 96, 3) := by decide +kernel
theorem dX8_away_19 : decode cX8_away 19 = .ok (.invokestatic 136, 3) := by decide +kernel
theorem dX8_away_22 : decode cX8_away 22 = .ok (.ifCond .le 13, 3) := by decide +kernel
theorem dX8_away_25 : decode cX8_away 25 = .ok (.aload_n 1, 1) := by decide +kernel
theorem dX8_away_26 : decode cX8_away 26 = .ok (.aload_n 0, 1) := by decide +kernel
theorem dX8_away_27 : decode cX8_away 27 = .ok (.getfield 96, 3) := by decide +kernel
theorem dX8_away_30 : decode cX8_away 30 = .ok (.invokestatic 140, 3) := by decide +kernel
theorem dX8_away_33 : decode cX8_away 33 = .ok (.iconst 1, 1) := by decide +kernel
theorem dX8_away_34 : decode cX8_away 34 = .ok (.ireturn, 1) := by decide +kernel
theorem dX8_away_35 : decode cX8_away 35 = .ok (.aload_n 0, 1) := by decide +kernel
theorem dX8_away_36 : decode cX8_away 36 = .ok (.getfield 78, 3) := by decide +kernel
theorem dX8_away_39 : decode cX8_away 39 = .ok (.aload_n 0, 1) := by decide +kernel
theorem dX8_away_40 : decode cX8_away 40 = .ok (.getfield 96, 3) := by decide +kernel
theorem dX8_away_43 : decode cX8_away 43 = .ok (.invokestatic 128, 3) := by decide +kernel
theorem dX8_away_46 : decode cX8_away 46 = .ok (.aload_n 0, 1) := by decide +kernel
theorem dX8_away_47 : decode cX8_away 47 = .ok (.getfield 78, 3) := by decide +kernel
theorem dX8_away_50 : decode cX8_away 50 = .ok (.aload_n 1, 1) := by decide +kernel
theorem dX8_away_51 : decode cX8_away 51 = .ok (.invokestatic 140, 3) := by decide +kernel
theorem dX8_away_54 : decode cX8_away 54 = .ok (.aload_n 1, 1) := by decide +kernel
theorem dX8_away_55 : decode cX8_away 55 = .ok (.aload_n 0, 1) := by decide +kernel
theorem dX8_away_56 : decode cX8_away 56 = .ok (.getfield 78, 3) := by decide +kernel
theorem dX8_away_59 : decode cX8_away 59 = .ok (.invokestatic 128, 3) := by decide +kernel
theorem dX8_away_62 : decode cX8_away 62 = .ok (.iconst 0, 1) := by decide +kernel
theorem dX8_away_63 : decode cX8_away 63 = .ok (.ireturn, 1) := by decide +kernel
theorem dX8_moments_0 : decode cX8_moments 0 = .ok (.aload_n 0, 1) := by decide +kernel
theorem dX8_moments_1 : decode cX8_moments 1 = .ok (.getfield 84, 3) := by decide +kernel
theorem dX8_moments_4 : decode cX8_moments 4 = .ok (.lconst 0, 1) := by decide +kernel
theorem dX8_moments_5 : decode cX8_moments 5 = .ok (.invokestatic 124, 3) := by decide +kernel
theorem dX8_moments_8 : decode cX8_moments 8 = .ok (.iconst 0, 1) := by decide +kernel
theorem dX8_moments_9 : decode cX8_moments 9 = .ok (.istore_n 3, 1) := by decide +kernel
theorem dX8_moments_10 : decode cX8_moments 10 = .ok (.iload_n 3, 1) := by decide +kernel
theorem dX8_moments_11 : decode cX8_moments 11 = .ok (.aload_n 0, 1) := by decide +kernel
theorem dX8_moments_12 : decode cX8_moments 12 = .ok (.getfield 63, 3) := by decide +kernel
theorem dX8_moments_15 : decode cX8_moments 15 = .ok (.iload_n 1, 1) := by decide +kernel
theorem dX8_moments_16 : decode cX8_moments 16 = .ok (.iaload, 1) := by decide +kernel
theorem dX8_moments_17 : decode cX8_moments 17 = .ok (.if_icmp .gt 110, 3) := by decide +kernel
theorem dX8_moments_20 : decode cX8_moments 20 = .ok (.aload_n 0, 1) := by decide +kernel
theorem dX8_moments_21 : decode cX8_moments 21 = .ok (.aload_n 0, 1) := by decide +kernel
theorem dX8_moments_22 : decode cX8_moments 22 = .ok (.getfield 75, 3) := by decide +kernel
theorem dX8_moments_25 : decode cX8_moments 25 = .ok (.iload_n 3, 1) := by decide +kernel
theorem dX8_moments_26 : decode cX8_moments 26 = .ok (.invokevirtual 222, 3) := by decide +kernel
theorem dX8_moments_29 : decode cX8_moments 29 = .ok (.istore 4, 2) := by decide +kernel
theorem dX8_moments_31 : decode cX8_moments 31 = .ok (.aload_n 0, 1) := by decide +kernel
theorem dX8_moments_32 : decode cX8_moments 32 = .ok (.getfield 78, 3) := by decide +kernel
theorem dX8_moments_35 : decode cX8_moments 35 = .ok (.aload_n 0, 1) := by decide +kernel
theorem dX8_moments_36 : decode cX8_moments 36 = .ok (.getfield 75, 3) := by decide +kernel
theorem dX8_moments_39 : decode cX8_moments 39 = .ok (.aload_n 0, 1) := by decide +kernel
theorem dX8_moments_40 : decode cX8_moments 40 = .ok (.getfield 75, 3) := by decide +kernel
theorem dX8_moments_43 : decode cX8_moments 43 = .ok (.invokestatic 174, 3) := by decide +kernel
theorem dX8_moments_46 : decode cX8_moments 46 = .ok (.iload_n 2, 1) := by decide +kernel
theorem dX8_moments_47 : decode cX8_moments 47 = .ok (.iconst 4, 1) := by decide +kernel
theorem dX8_moments_48 : decode cX8_moments 48 = .ok (.if_icmp .ne 29, 3) := by decide +kernel
theorem dX8_moments_51 : decode cX8_moments 51 = .ok (.aload_n 0, 1) := by decide +kernel
theorem dX8_moments_52 : decode cX8_moments 52 = .ok (.getfield 81, 3) := by decide +kernel
theorem dX8_moments_55 : decode cX8_moments 55 = .ok (.aload_n 0, 1) := by decide +kernel
theorem dX8_moments_56 : decode cX8_moments 56 = .ok (.getfield 78, 3) := by decide +kernel
theorem dX8_moments_59 : decode cX8_moments 59 = .ok (.aload_n 0, 1) := by decide +kernel
theorem dX8_moments_60 : decode cX8_moments 60 = .ok (.getfield 78, 3) := by decide +kernel
theorem dX8_moments_63 : decode cX8_moments 63 = .ok (.invokestatic 174, 3) := by decide +kernel
theorem dX8_moments_66 : decode cX8_moments 66 = .ok (.aload_n 0, 1) := by decide +kernel
theorem dX8_moments_67 : decode cX8_moments 67 = .ok (.getfield 78, 3) := by decide +kernel
theorem dX8_moments_70 : decode cX8_moments 70 = .ok (.aload_n 0, 1) := by decide +kernel
theorem dX8_moments_71 : decode cX8_moments 71 = .ok (.getfield 81, 3) := by decide +kernel
theorem dX8_moments_74 : decode cX8_moments 74 = .ok (.invokestatic 128, 3) := by decide +kernel
theorem dX8_moments_77 : decode cX8_moments 77 = .ok (.aload_n 0, 1) := by decide +kernel
theorem dX8_moments_78 : decode cX8_moments 78 = .ok (.getfield 75, 3) := by decide +kernel
theorem dX8_moments_81 : decode cX8_moments 81 = .ok (.aload_n 0, 1) := by decide +kernel
theorem dX8_moments_82 : decode cX8_moments 82 = .ok (.getfield 66, 3) := by decide +kernel
theorem dX8_moments_85 : decode cX8_moments 85 = .ok (.iload_n 1, 1) := by decide +kernel
theorem dX8_moments_86 : decode cX8_moments 86 = .ok (.iload_n 3, 1) := by decide +kernel
theorem dX8_moments_87 : decode cX8_moments 87 = .ok (.invokestatic 187, 3) := by decide +kernel
theorem dX8_moments_90 : decode cX8_moments 90 = .ok (.bipush 10, 2) := by decide +kernel
theorem dX8_moments_92 : decode cX8_moments 92 = .ok (.invokestatic 170, 3) := by decide +kernel
theorem dX8_moments_95 : decode cX8_moments 95 = .ok (.aload_n 0, 1) := by decide +kernel
theorem dX8_moments_96 : decode cX8_moments 96 = .ok (.getfield 81, 3) := by decide +kernel
theorem dX8_moments_99 : decode cX8_moments 99 = .ok (.aload_n 0, 1) := by decide +kernel
theorem dX8_moments_100 : decode cX8_moments 100 = .ok (.getfield 75, 3) := by decide +kernel
theorem dX8_moments_103 : decode cX8_moments 103 = .ok (.aload_n 0, 1) := by decide +kernel
theorem dX8_moments_104 : decode cX8_moments 104 = .ok (.getfield 78, 3) := by decide +kernel
theorem dX8_moments_107 : decode cX8_moments 107 = .ok (.invokestatic 174, 3) := by decide +kernel
theorem dX8_moments_110 : decode cX8_moments 110 = .ok (.aload_n 0, 1) := by decide +kernel
theorem dX8_moments_111 : decode cX8_moments 111 = .ok (.getfield 84, 3) := by decide +kernel
theorem dX8_moments_114 : decode cX8_moments 114 = .ok (.aload_n 0, 1) := by decide +kernel
theorem dX8_moments_115 : decode cX8_moments 115 = .ok (.getfield 81, 3) := by decide +kernel
theorem dX8_moments_118 : decode cX8_moments 118 = .ok (.invokestatic 191, 3) := by decide +kernel
theorem dX8_moments_121 : decode cX8_moments 121 = .ok (.iinc 3 1, 3) := by decide +kernel
theorem dX8_moments_124 : decode cX8_moments 124 = .ok (.goto (-114), 3) := by decide +kernel
theorem dX8_moments_127 : decode cX8_moments 127 = .ok (.return_, 1) := by decide +kernel
theorem dX8_moment_0 : decode cX8_moment 0 = .ok (.iload_n 1, 1) := by decide +kernel
theorem dX8_moment_1 : decode cX8_moment 1 = .ok (.invokestatic 211, 3) := by decide +kernel
theorem dX8_moment_4 : decode cX8_moment 4 = .ok (.ifCond .eq 21, 3) := by decide +kernel
theorem dX8_moment_7 : decode cX8_moment 7 = .ok (.aload_n 0, 1) := by decide +kernel
theorem dX8_moment_8 : decode cX8_moment 8 = .ok (.iload_n 2, 1) := by decide +kernel
theorem dX8_moment_9 : decode cX8_moment 9 = .ok (.invokevirtual 205, 3) := by decide +kernel
theorem dX8_moment_12 : decode cX8_moment 12 = .ok (.ifCond .eq 13, 3) := by decide +kernel
theorem dX8_moment_15 : decode cX8_moment 15 = .ok (.iload_n 3, 1) := by decide +kernel
theorem dX8_moment_16 : decode cX8_moment 16 = .ok (.iconst 2, 1) := by decide +kernel
theorem dX8_moment_17 : decode cX8_moment 17 = .ok (.if_icmp .eq 10, 3) := by decide +kernel
theorem dX8_moment_20 : decode cX8_moment 20 = .ok (.iload_n 3, 1) := by decide +kernel
theorem dX8_moment_21 : decode cX8_moment 21 = .ok (.iconst 4, 1) := by decide +kernel
theorem dX8_moment_22 : decode cX8_moment 22 = .ok (.if_icmp .eq 5, 3) := by decide +kernel
theorem dX8_moment_25 : decode cX8_moment 25 = .ok (.iconst (-1), 1) := by decide +kernel
theorem dX8_moment_26 : decode cX8_moment 26 = .ok (.ireturn, 1) := by decide +kernel
theorem dX8_moment_27 : decode cX8_moment 27 = .ok (.aload_n 0, 1) := by decide +kernel
theorem dX8_moment_28 : decode cX8_moment 28 = .ok (.iload_n 2, 1) := by decide +kernel
theorem dX8_moment_29 : decode cX8_moment 29 = .ok (.invokevirtual 218, 3) := by decide +kernel
theorem dX8_moment_32 : decode cX8_moment 32 = .ok (.aload_n 0, 1) := by decide +kernel
theorem dX8_moment_33 : decode cX8_moment 33 = .ok (.iload_n 2, 1) := by decide +kernel
theorem dX8_moment_34 : decode cX8_moment 34 = .ok (.iload_n 3, 1) := by decide +kernel
theorem dX8_moment_35 : decode cX8_moment 35 = .ok (.invokevirtual 226, 3) := by decide +kernel
theorem dX8_moment_38 : decode cX8_moment 38 = .ok (.aload_n 0, 1) := by decide +kernel
theorem dX8_moment_39 : decode cX8_moment 39 = .ok (.getfield 35, 3) := by decide +kernel
theorem dX8_moment_42 : decode cX8_moment 42 = .ok (.aload_n 0, 1) := by decide +kernel
theorem dX8_moment_43 : decode cX8_moment 43 = .ok (.getfield 84, 3) := by decide +kernel
theorem dX8_moment_46 : decode cX8_moment 46 = .ok (.invokestatic 128, 3) := by decide +kernel
theorem dX8_moment_49 : decode cX8_moment 49 = .ok (.aload_n 0, 1) := by decide +kernel
theorem dX8_moment_50 : decode cX8_moment 50 = .ok (.getfield 38, 3) := by decide +kernel
theorem dX8_moment_53 : decode cX8_moment 53 = .ok (.aload_n 0, 1) := by decide +kernel
theorem dX8_moment_54 : decode cX8_moment 54 = .ok (.getfield 93, 3) := by decide +kernel
theorem dX8_moment_57 : decode cX8_moment 57 = .ok (.invokestatic 128, 3) := by decide +kernel
theorem dX8_moment_60 : decode cX8_moment 60 = .ok (.iconst 0, 1) := by decide +kernel
theorem dX8_moment_61 : decode cX8_moment 61 = .ok (.istore 4, 2) := by decide +kernel
theorem dX8_moment_63 : decode cX8_moment 63 = .ok (.iload 4, 2) := by decide +kernel
theorem dX8_moment_65 : decode cX8_moment 65 = .ok (.iload_n 3, 1) := by decide +kernel
theorem dX8_moment_66 : decode cX8_moment 66 = .ok (.if_icmp .ge 35, 3) := by decide +kernel
theorem dX8_moment_69 : decode cX8_moment 69 = .ok (.aload_n 0, 1) := by decide +kernel
theorem dX8_moment_70 : decode cX8_moment 70 = .ok (.getfield 81, 3) := by decide +kernel
theorem dX8_moment_73 : decode cX8_moment 73 = .ok (.aload_n 0, 1) := by decide +kernel
theorem dX8_moment_74 : decode cX8_moment 74 = .ok (.getfield 38, 3) := by decide +kernel
theorem dX8_moment_77 : decode cX8_moment 77 = .ok (.aload_n 0, 1) := by decide +kernel
theorem dX8_moment_78 : decode cX8_moment 78 = .ok (.getfield 93, 3) := by decide +kernel
theorem dX8_moment_81 : decode cX8_moment 81 = .ok (.invokestatic 174, 3) := by decide +kernel
theorem dX8_moment_84 : decode cX8_moment 84 = .ok (.aload_n 0, 1) := by decide +kernel
theorem dX8_moment_85 : decode cX8_moment 85 = .ok (.getfield 38, 3) := by decide +kernel
theorem dX8_moment_88 : decode cX8_moment 88 = .ok (.aload_n 0, 1) := by decide +kernel
theorem dX8_moment_89 : decode cX8_moment 89 = .ok (.getfield 81, 3) := by decide +kernel
theorem dX8_moment_92 : decode cX8_moment 92 = .ok (.invokestatic 128, 3) := by decide +kernel
theorem dX8_moment_95 : decode cX8_moment 95 = .ok (.iinc 4 1, 3) := by decide +kernel
theorem dX8_moment_98 : decode cX8_moment 98 = .ok (.goto (-35), 3) := by decide +kernel
theorem dX8_moment_101 : decode cX8_moment 101 = .ok (.aload_n 0, 1) := by decide +kernel
theorem dX8_moment_102 : decode cX8_moment 102 = .ok (.iload_n 1, 1) := by decide +kernel
theorem dX8_moment_103 : decode cX8_moment 103 = .ok (.invokevirtual 214, 3) := by decide +kernel
theorem dX8_moment_106 : decode cX8_moment 106 = .ok (.ireturn, 1) := by decide +kernel
theorem dX8_tail_0 : decode cX8_tail 0 = .ok (.iload_n 1, 1) := by decide +kernel
theorem dX8_tail_1 : decode cX8_tail 1 = .ok (.invokestatic 211, 3) := by decide +kernel
theorem dX8_tail_4 : decode cX8_tail 4 = .ok (.ifCond .eq 31, 3) := by decide +kernel
theorem dX8_tail_7 : decode cX8_tail 7 = .ok (.aload_n 0, 1) := by decide +kernel
theorem dX8_tail_8 : decode cX8_tail 8 = .ok (.iload_n 2, 1) := by decide +kernel
theorem dX8_tail_9 : decode cX8_tail 9 = .ok (.invokevirtual 205, 3) := by decide +kernel
theorem dX8_tail_12 : decode cX8_tail 12 = .ok (.ifCond .eq 23, 3) := by decide +kernel
theorem dX8_tail_15 : decode cX8_tail 15 = .ok (.iload_n 3, 1) := by decide +kernel
theorem dX8_tail_16 : decode cX8_tail 16 = .ok (.iconst 0, 1) := by decide +kernel
theorem dX8_tail_17 : decode cX8_tail 17 = .ok (.bipush 120, 2) := by decide +kernel
theorem dX8_tail_19 : decode cX8_tail 19 = .ok (.invokestatic 153, 3) := by decide +kernel
theorem dX8_tail_22 : decode cX8_tail 22 = .ok (.ifCond .eq 13, 3) := by decide +kernel
theorem dX8_tail_25 : decode cX8_tail 25 = .ok (.iload 4, 2) := by decide +kernel
theorem dX8_tail_27 : decode cX8_tail 27 = .ok (.iconst 0, 1) := by decide +kernel
theorem dX8_tail_28 : decode cX8_tail 28 = .ok (.iconst 2, 1) := by decide +kernel
theorem dX8_tail_29 : decode cX8_tail 29 = .ok (.invokestatic 153, 3) := by decide +kernel
theorem dX8_tail_32 : decode cX8_tail 32 = .ok (.ifCond .ne 5, 3) := by decide +kernel
theorem dX8_tail_35 : decode cX8_tail 35 = .ok (.iconst (-1), 1) := by decide +kernel
theorem dX8_tail_36 : decode cX8_tail 36 = .ok (.ireturn, 1) := by decide +kernel
theorem dX8_tail_37 : decode cX8_tail 37 = .ok (.aload_n 0, 1) := by decide +kernel
theorem dX8_tail_38 : decode cX8_tail 38 = .ok (.iload_n 2, 1) := by decide +kernel
theorem dX8_tail_39 : decode cX8_tail 39 = .ok (.invokevirtual 218, 3) := by decide +kernel
theorem dX8_tail_42 : decode cX8_tail 42 = .ok (.aload_n 0, 1) := by decide +kernel
theorem dX8_tail_43 : decode cX8_tail 43 = .ok (.aload_n 0, 1) := by decide +kernel
theorem dX8_tail_44 : decode cX8_tail 44 = .ok (.getfield 53, 3) := by decide +kernel
theorem dX8_tail_47 : decode cX8_tail 47 = .ok (.iload_n 3, 1) := by decide +kernel
theorem dX8_tail_48 : decode cX8_tail 48 = .ok (.invokevirtual 222, 3) := by decide +kernel
theorem dX8_tail_51 : decode cX8_tail 51 = .ok (.istore 5, 2) := by decide +kernel
theorem dX8_tail_53 : decode cX8_tail 53 = .ok (.aload_n 0, 1) := by decide +kernel
theorem dX8_tail_54 : decode cX8_tail 54 = .ok (.getfield 84, 3) := by decide +kernel
theorem dX8_tail_57 : decode cX8_tail 57 = .ok (.lconst 0, 1) := by decide +kernel
theorem dX8_tail_58 : decode cX8_tail 58 = .ok (.invokestatic 124, 3) := by decide +kernel
theorem dX8_tail_61 : decode cX8_tail 61 = .ok (.iconst 0, 1) := by decide +kernel
theorem dX8_tail_62 : decode cX8_tail 62 = .ok (.istore 6, 2) := by decide +kernel
theorem dX8_tail_64 : decode cX8_tail 64 = .ok (.iload 6, 2) := by decide +kernel
theorem dX8_tail_66 : decode cX8_tail 66 = .ok (.aload_n 0, 1) := by decide +kernel
theorem dX8_tail_67 : decode cX8_tail 67 = .ok (.getfield 63, 3) := by decide +kernel
theorem dX8_tail_70 : decode cX8_tail 70 = .ok (.iload_n 2, 1) := by decide +kernel
theorem dX8_tail_71 : decode cX8_tail 71 = .ok (.iaload, 1) := by decide +kernel
theorem dX8_tail_72 : decode cX8_tail 72 = .ok (.if_icmp .gt 115, 3) := by decide +kernel
theorem dX8_tail_75 : decode cX8_tail 75 = .ok (.iload 4, 2) := by decide +kernel
theorem dX8_tail_77 : decode cX8_tail 77 = .ok (.ifCond .ne 17, 3) := by decide +kernel
theorem dX8_tail_80 : decode cX8_tail 80 = .ok (.iload 6, 2) := by decide +kernel
theorem dX8_tail_82 : decode cX8_tail 82 = .ok (.iload_n 3, 1) := by decide +kernel
theorem dX8_tail_83 : decode cX8_tail 83 = .ok (.if_icmp .lt 7, 3) := by decide +kernel
theorem dX8_tail_86 : decode cX8_tail 86 = .ok (.iconst 1, 1) := by decide +kernel
theorem dX8_tail_87 : decode cX8_tail 87 = .ok (.goto 18, 3) := by decide +kernel
theorem dX8_tail_90 : decode cX8_tail 90 = .ok (.iconst 0, 1) := by decide +kernel
theorem dX8_tail_91 : decode cX8_tail 91 = .ok (.goto 14, 3) := by decide +kernel
theorem dX8_tail_94 : decode cX8_tail 94 = .ok (.iload 6, 2) := by decide +kernel
theorem dX8_tail_96 : decode cX8_tail 96 = .ok (.iload_n 3, 1) := by decide +kernel
theorem dX8_tail_97 : decode cX8_tail 97 = .ok (.if_icmp .gt 7, 3) := by decide +kernel
theorem dX8_tail_100 : decode cX8_tail 100 = .ok (.iconst 1, 1) := by decide +kernel
theorem dX8_tail_101 : decode cX8_tail 101 = .ok (.goto 4, 3) := by decide +kernel
theorem dX8_tail_104 : decode cX8_tail 104 = .ok (.iconst 0, 1) := by decide +kernel
theorem dX8_tail_105 : decode cX8_tail 105 = .ok (.istore 7, 2) := by decide +kernel
theorem dX8_tail_107 : decode cX8_tail 107 = .ok (.iload 4, 2) := by decide +kernel
theorem dX8_tail_109 : decode cX8_tail 109 = .ok (.iconst 2, 1) := by decide +kernel
theorem dX8_tail_110 : decode cX8_tail 110 = .ok (.if_icmp .ne 36, 3) := by decide +kernel
theorem dX8_tail_113 : decode cX8_tail 113 = .ok (.aload_n 0, 1) := by decide +kernel
theorem dX8_tail_114 : decode cX8_tail 114 = .ok (.aload_n 0, 1) := by decide +kernel
theorem dX8_tail_115 : decode cX8_tail 115 = .ok (.getfield 56, 3) := by decide +kernel
theorem dX8_tail_118 : decode cX8_tail 118 = .ok (.iload 6, 2) := by decide +kernel
theorem dX8_tail_120 : decode cX8_tail 120 = .ok (.invokevirtual 222, 3) := by decide +kernel
theorem dX8_tail_123 : decode cX8_tail 123 = .ok (.istore 8, 2) := by decide +kernel
theorem dX8_tail_125 : decode cX8_tail 125 = .ok (.aload_n 0, 1) := by decide +kernel
theorem dX8_tail_126 : decode cX8_tail 126 = .ok (.getfield 56, 3) := by decide +kernel
theorem dX8_tail_129 : decode cX8_tail 129 = .ok (.aload_n 0, 1) := by decide +kernel
theorem dX8_tail_130 : decode cX8_tail 130 = .ok (.getfield 53, 3) := by decide +kernel
theorem dX8_tail_133 : decode cX8_tail 133 = .ok (.invokestatic 136, 3) := by decide +kernel
theorem dX8_tail_136 : decode cX8_tail 136 = .ok (.ifCond .lt 7, 3) := by decide +kernel
theorem dX8_tail_139 : decode cX8_tail 139 = .ok (.iconst 1, 1) := by decide +kernel
theorem dX8_tail_140 : decode cX8_tail 140 = .ok (.goto 4, 3) := by decide +kernel
theorem dX8_tail_143 : decode cX8_tail 143 = .ok (.iconst 0, 1) := by decide +kernel
theorem dX8_tail_144 : decode cX8_tail 144 = .ok (.istore 7, 2) := by decide +kernel
theorem dX8_tail_146 : decode cX8_tail 146 = .ok (.iload 7, 2) := by decide +kernel
theorem dX8_tail_148 : decode cX8_tail 148 = .ok (.ifCond .eq 33, 3) := by decide +kernel
theorem dX8_tail_151 : decode cX8_tail 151 = .ok (.aload_n 0, 1) := by decide +kernel
theorem dX8_tail_152 : decode cX8_tail 152 = .ok (.getfield 75, 3) := by decide +kernel
theorem dX8_tail_155 : decode cX8_tail 155 = .ok (.aload_n 0, 1) := by decide +kernel
theorem dX8_tail_156 : decode cX8_tail 156 = .ok (.getfield 66, 3) := by decide +kernel
theorem dX8_tail_159 : decode cX8_tail 159 = .ok (.iload_n 2, 1) := by decide +kernel
theorem dX8_tail_160 : decode cX8_tail 160 = .ok (.iload 6, 2) := by decide +kernel
theorem dX8_tail_162 : decode cX8_tail 162 = .ok (.invokestatic 187, 3) := by decide +kernel
theorem dX8_tail_165 : decode cX8_tail 165 = .ok (.bipush 10, 2) := by decide +kernel
theorem dX8_tail_167 : decode cX8_tail 167 = .ok (.invokestatic 170, 3) := by decide +kernel
theorem dX8_tail_170 : decode cX8_tail 170 = .ok (.aload_n 0, 1) := by decide +kernel
theorem dX8_tail_171 : decode cX8_tail 171 = .ok (.getfield 84, 3) := by decide +kernel
theorem dX8_tail_174 : decode cX8_tail 174 = .ok (.aload_n 0, 1) := by decide +kernel
theorem dX8_tail_175 : decode cX8_tail 175 = .ok (.getfield 75, 3) := by decide +kernel
theorem dX8_tail_178 : decode cX8_tail 178 = .ok (.invokestatic 191, 3) := by decide +kernel
theorem dX8_tail_181 : decode cX8_tail 181 = .ok (.iinc 6 1, 3) := by decide +kernel
theorem dX8_tail_184 : decode cX8_tail 184 = .ok (.goto (-120), 3) := by decide +kernel
theorem dX8_tail_187 : decode cX8_tail 187 = .ok (.aload_n 0, 1) := by decide +kernel
theorem dX8_tail_188 : decode cX8_tail 188 = .ok (.getfield 35, 3) := by decide +kernel
theorem dX8_tail_191 : decode cX8_tail 191 = .ok (.aload_n 0, 1) := by decide +kernel
theorem dX8_tail_192 : decode cX8_tail 192 = .ok (.getfield 84, 3) := by decide +kernel
theorem dX8_tail_195 : decode cX8_tail 195 = .ok (.invokestatic 128, 3) := by decide +kernel
theorem dX8_tail_198 : decode cX8_tail 198 = .ok (.aload_n 0, 1) := by decide +kernel
theorem dX8_tail_199 : decode cX8_tail 199 = .ok (.getfield 38, 3) := by decide +kernel
theorem dX8_tail_202 : decode cX8_tail 202 = .ok (.aload_n 0, 1) := by decide +kernel
theorem dX8_tail_203 : decode cX8_tail 203 = .ok (.getfield 93, 3) := by decide +kernel
theorem dX8_tail_206 : decode cX8_tail 206 = .ok (.invokestatic 128, 3) := by decide +kernel
theorem dX8_tail_209 : decode cX8_tail 209 = .ok (.aload_n 0, 1) := by decide +kernel
theorem dX8_tail_210 : decode cX8_tail 210 = .ok (.iload_n 1, 1) := by decide +kernel
theorem dX8_tail_211 : decode cX8_tail 211 = .ok (.invokevirtual 214, 3) := by decide +kernel
theorem dX8_tail_214 : decode cX8_tail 214 = .ok (.ireturn, 1) := by decide +kernel
theorem dX8_raised_0 : decode cX8_raised 0 = .ok (.aload_n 0, 1) := by decide +kernel
theorem dX8_raised_1 : decode cX8_raised 1 = .ok (.getfield 84, 3) := by decide +kernel
theorem dX8_raised_4 : decode cX8_raised 4 = .ok (.lconst 0, 1) := by decide +kernel
theorem dX8_raised_5 : decode cX8_raised 5 = .ok (.invokestatic 124, 3) := by decide +kernel
theorem dX8_raised_8 : decode cX8_raised 8 = .ok (.iconst 0, 1) := by decide +kernel
theorem dX8_raised_9 : decode cX8_raised 9 = .ok (.istore 4, 2) := by decide +kernel
theorem dX8_raised_11 : decode cX8_raised 11 = .ok (.iload 4, 2) := by decide +kernel
theorem dX8_raised_13 : decode cX8_raised 13 = .ok (.aload_n 0, 1) := by decide +kernel
theorem dX8_raised_14 : decode cX8_raised 14 = .ok (.getfield 63, 3) := by decide +kernel
theorem dX8_raised_17 : decode cX8_raised 17 = .ok (.iload_n 1, 1) := by decide +kernel
theorem dX8_raised_18 : decode cX8_raised 18 = .ok (.iaload, 1) := by decide +kernel
theorem dX8_raised_19 : decode cX8_raised 19 = .ok (.if_icmp .gt 71, 3) := by decide +kernel
theorem dX8_raised_22 : decode cX8_raised 22 = .ok (.aload_n 0, 1) := by decide +kernel
theorem dX8_raised_23 : decode cX8_raised 23 = .ok (.getfield 75, 3) := by decide +kernel
theorem dX8_raised_26 : decode cX8_raised 26 = .ok (.aload_n 0, 1) := by decide +kernel
theorem dX8_raised_27 : decode cX8_raised 27 = .ok (.getfield 66, 3) := by decide +kernel
theorem dX8_raised_30 : decode cX8_raised 30 = .ok (.iload_n 1, 1) := by decide +kernel
theorem dX8_raised_31 : decode cX8_raised 31 = .ok (.iload 4, 2) := by decide +kernel
theorem dX8_raised_33 : decode cX8_raised 33 = .ok (.invokestatic 187, 3) := by decide +kernel
theorem dX8_raised_36 : decode cX8_raised 36 = .ok (.bipush 10, 2) := by decide +kernel
theorem dX8_raised_38 : decode cX8_raised 38 = .ok (.invokestatic 170, 3) := by decide +kernel
theorem dX8_raised_41 : decode cX8_raised 41 = .ok (.aload_n 0, 1) := by decide +kernel
theorem dX8_raised_42 : decode cX8_raised 42 = .ok (.aload_n 0, 1) := by decide +kernel
theorem dX8_raised_43 : decode cX8_raised 43 = .ok (.getfield 75, 3) := by decide +kernel
theorem dX8_raised_46 : decode cX8_raised 46 = .ok (.iload_n 3, 1) := by decide +kernel
theorem dX8_raised_47 : decode cX8_raised 47 = .ok (.i2l, 1) := by decide +kernel
theorem dX8_raised_48 : decode cX8_raised 48 = .ok (.iload 4, 2) := by decide +kernel
theorem dX8_raised_50 : decode cX8_raised 50 = .ok (.invokevirtual 198, 3) := by decide +kernel
theorem dX8_raised_53 : decode cX8_raised 53 = .ok (.aload_n 0, 1) := by decide +kernel
theorem dX8_raised_54 : decode cX8_raised 54 = .ok (.aload_n 0, 1) := by decide +kernel
theorem dX8_raised_55 : decode cX8_raised 55 = .ok (.getfield 75, 3) := by decide +kernel
theorem dX8_raised_58 : decode cX8_raised 58 = .ok (.ldc2_w 230, 3) := by decide +kernel
theorem dX8_raised_61 : decode cX8_raised 61 = .ok (.aload_n 0, 1) := by decide +kernel
theorem dX8_raised_62 : decode cX8_raised 62 = .ok (.getfield 63, 3) := by decide +kernel
theorem dX8_raised_65 : decode cX8_raised 65 = .ok (.iload_n 1, 1) := by decide +kernel
theorem dX8_raised_66 : decode cX8_raised 66 = .ok (.iaload, 1) := by decide +kernel
theorem dX8_raised_67 : decode cX8_raised 67 = .ok (.iload 4, 2) := by decide +kernel
theorem dX8_raised_69 : decode cX8_raised 69 = .ok (.isub, 1) := by decide +kernel
theorem dX8_raised_70 : decode cX8_raised 70 = .ok (.invokevirtual 198, 3) := by decide +kernel
theorem dX8_raised_73 : decode cX8_raised 73 = .ok (.aload_n 0, 1) := by decide +kernel
theorem dX8_raised_74 : decode cX8_raised 74 = .ok (.getfield 84, 3) := by decide +kernel
theorem dX8_raised_77 : decode cX8_raised 77 = .ok (.aload_n 0, 1) := by decide +kernel
theorem dX8_raised_78 : decode cX8_raised 78 = .ok (.getfield 75, 3) := by decide +kernel
theorem dX8_raised_81 : decode cX8_raised 81 = .ok (.invokestatic 191, 3) := by decide +kernel
theorem dX8_raised_84 : decode cX8_raised 84 = .ok (.iinc 4 1, 3) := by decide +kernel
theorem dX8_raised_87 : decode cX8_raised 87 = .ok (.goto (-76), 3) := by decide +kernel
theorem dX8_raised_90 : decode cX8_raised 90 = .ok (.aload_n 0, 1) := by decide +kernel
theorem dX8_raised_91 : decode cX8_raised 91 = .ok (.aload_n 0, 1) := by decide +kernel
theorem dX8_raised_92 : decode cX8_raised 92 = .ok (.getfield 84, 3) := by decide +kernel
theorem dX8_raised_95 : decode cX8_raised 95 = .ok (.ldc2_w 230, 3) := by decide +kernel
theorem dX8_raised_98 : decode cX8_raised 98 = .ok (.iload_n 2, 1) := by decide +kernel
theorem dX8_raised_99 : decode cX8_raised 99 = .ok (.invokevirtual 198, 3) := by decide +kernel
theorem dX8_raised_102 : decode cX8_raised 102 = .ok (.aload_n 0, 1) := by decide +kernel
theorem dX8_raised_103 : decode cX8_raised 103 = .ok (.getfield 38, 3) := by decide +kernel
theorem dX8_raised_106 : decode cX8_raised 106 = .ok (.aload_n 0, 1) := by decide +kernel
theorem dX8_raised_107 : decode cX8_raised 107 = .ok (.getfield 93, 3) := by decide +kernel
theorem dX8_raised_110 : decode cX8_raised 110 = .ok (.invokestatic 128, 3) := by decide +kernel
theorem dX8_raised_113 : decode cX8_raised 113 = .ok (.aload_n 0, 1) := by decide +kernel
theorem dX8_raised_114 : decode cX8_raised 114 = .ok (.aload_n 0, 1) := by decide +kernel
theorem dX8_raised_115 : decode cX8_raised 115 = .ok (.getfield 38, 3) := by decide +kernel
theorem dX8_raised_118 : decode cX8_raised 118 = .ok (.iload_n 3, 1) := by decide +kernel
theorem dX8_raised_119 : decode cX8_raised 119 = .ok (.i2l, 1) := by decide +kernel
theorem dX8_raised_120 : decode cX8_raised 120 = .ok (.iload_n 2, 1) := by decide +kernel
theorem dX8_raised_121 : decode cX8_raised 121 = .ok (.invokevirtual 198, 3) := by decide +kernel
theorem dX8_raised_124 : decode cX8_raised 124 = .ok (.aload_n 0, 1) := by decide +kernel
theorem dX8_raised_125 : decode cX8_raised 125 = .ok (.aload_n 0, 1) := by decide +kernel
theorem dX8_raised_126 : decode cX8_raised 126 = .ok (.getfield 38, 3) := by decide +kernel
theorem dX8_raised_129 : decode cX8_raised 129 = .ok (.ldc2_w 230, 3) := by decide +kernel
theorem dX8_raised_132 : decode cX8_raised 132 = .ok (.aload_n 0, 1) := by decide +kernel
theorem dX8_raised_133 : decode cX8_raised 133 = .ok (.getfield 63, 3) := by decide +kernel
theorem dX8_raised_136 : decode cX8_raised 136 = .ok (.iload_n 1, 1) := by decide +kernel
theorem dX8_raised_137 : decode cX8_raised 137 = .ok (.iaload, 1) := by decide +kernel
theorem dX8_raised_138 : decode cX8_raised 138 = .ok (.invokevirtual 198, 3) := by decide +kernel
theorem dX8_raised_141 : decode cX8_raised 141 = .ok (.aload_n 0, 1) := by decide +kernel
theorem dX8_raised_142 : decode cX8_raised 142 = .ok (.getfield 35, 3) := by decide +kernel
theorem dX8_raised_145 : decode cX8_raised 145 = .ok (.aload_n 0, 1) := by decide +kernel
theorem dX8_raised_146 : decode cX8_raised 146 = .ok (.getfield 84, 3) := by decide +kernel
theorem dX8_raised_149 : decode cX8_raised 149 = .ok (.invokestatic 128, 3) := by decide +kernel
theorem dX8_raised_152 : decode cX8_raised 152 = .ok (.return_, 1) := by decide +kernel
theorem dX8_leastRaised_0 : decode cX8_leastRaised 0 = .ok (.iconst 0, 1) := by decide +kernel
theorem dX8_leastRaised_1 : decode cX8_leastRaised 1 = .ok (.istore_n 3, 1) := by decide +kernel
theorem dX8_leastRaised_2 : decode cX8_leastRaised 2 = .ok (.iconst 5, 1) := by decide +kernel
theorem dX8_leastRaised_3 : decode cX8_leastRaised 3 = .ok (.istore 4, 2) := by decide +kernel
theorem dX8_leastRaised_5 : decode cX8_leastRaised 5 = .ok (.iload 4, 2) := by decide +kernel
theorem dX8_leastRaised_7 : decode cX8_leastRaised 7 = .ok (.bipush 12, 2) := by decide +kernel
theorem dX8_leastRaised_9 : decode cX8_leastRaised 9 = .ok (.if_icmp .gt 114, 3) := by decide +kernel
theorem dX8_leastRaised_12 : decode cX8_leastRaised 12 = .ok (.aload_n 0, 1) := by decide +kernel
theorem dX8_leastRaised_13 : decode cX8_leastRaised 13 = .ok (.iload_n 1, 1) := by decide +kernel
theorem dX8_leastRaised_14 : decode cX8_leastRaised 14 = .ok (.iload_n 2, 1) := by decide +kernel
theorem dX8_leastRaised_15 : decode cX8_leastRaised 15 = .ok (.iload 4, 2) := by decide +kernel
theorem dX8_leastRaised_17 : decode cX8_leastRaised 17 = .ok (.invokevirtual 232, 3) := by decide +kernel
theorem dX8_leastRaised_20 : decode cX8_leastRaised 20 = .ok (.iload_n 3, 1) := by decide +kernel
theorem dX8_leastRaised_21 : decode cX8_leastRaised 21 = .ok (.ifCond .ne 7, 3) := by decide +kernel
theorem dX8_leastRaised_24 : decode cX8_leastRaised 24 = .ok (.iconst 1, 1) := by decide +kernel
theorem dX8_leastRaised_25 : decode cX8_leastRaised 25 = .ok (.goto 4, 3) := by decide +kernel
theorem dX8_leastRaised_28 : decode cX8_leastRaised 28 = .ok (.iconst 0, 1) := by decide +kernel
theorem dX8_leastRaised_29 : decode cX8_leastRaised 29 = .ok (.istore 5, 2) := by decide +kernel
theorem dX8_leastRaised_31 : decode cX8_leastRaised 31 = .ok (.iload 5, 2) := by decide +kernel
theorem dX8_leastRaised_33 : decode cX8_leastRaised 33 = .ok (.ifCond .ne 54, 3) := by decide +kernel
theorem dX8_leastRaised_36 : decode cX8_leastRaised 36 = .ok (.aload_n 0, 1) := by decide +kernel
theorem dX8_leastRaised_37 : decode cX8_leastRaised 37 = .ok (.getfield 53, 3) := by decide +kernel
theorem dX8_leastRaised_40 : decode cX8_leastRaised 40 = .ok (.aload_n 0, 1) := by decide +kernel
theorem dX8_leastRaised_41 : decode cX8_leastRaised 41 = .ok (.getfield 35, 3) := by decide +kernel
theorem dX8_leastRaised_44 : decode cX8_leastRaised 44 = .ok (.aload_n 0, 1) := by decide +kernel
theorem dX8_leastRaised_45 : decode cX8_leastRaised 45 = .ok (.getfield 102, 3) := by decide +kernel
theorem dX8_leastRaised_48 : decode cX8_leastRaised 48 = .ok (.invokestatic 174, 3) := by decide +kernel
theorem dX8_leastRaised_51 : decode cX8_leastRaised 51 = .ok (.aload_n 0, 1) := by decide +kernel
theorem dX8_leastRaised_52 : decode cX8_leastRaised 52 = .ok (.getfield 56, 3) := by decide +kernel
theorem dX8_leastRaised_55 : decode cX8_leastRaised 55 = .ok (.aload_n 0, 1) := by decide +kernel
theorem dX8_leastRaised_56 : decode cX8_leastRaised 56 = .ok (.getfield 99, 3) := by decide +kernel
theorem dX8_leastRaised_59 : decode cX8_leastRaised 59 = .ok (.aload_n 0, 1) := by decide +kernel
theorem dX8_leastRaised_60 : decode cX8_leastRaised 60 = .ok (.getfield 38, 3) := by decide +kernel
theorem dX8_leastRaised_63 : decode cX8_leastRaised 63 = .ok (.invokestatic 174, 3) := by decide +kernel
theorem dX8_leastRaised_66 : decode cX8_leastRaised 66 = .ok (.aload_n 0, 1) := by decide +kernel
theorem dX8_leastRaised_67 : decode cX8_leastRaised 67 = .ok (.getfield 53, 3) := by decide +kernel
theorem dX8_leastRaised_70 : decode cX8_leastRaised 70 = .ok (.aload_n 0, 1) := by decide +kernel
theorem dX8_leastRaised_71 : decode cX8_leastRaised 71 = .ok (.getfield 56, 3) := by decide +kernel
theorem dX8_leastRaised_74 : decode cX8_leastRaised 74 = .ok (.invokestatic 136, 3) := by decide +kernel
theorem dX8_leastRaised_77 : decode cX8_leastRaised 77 = .ok (.ifCond .ge 7, 3) := by decide +kernel
theorem dX8_leastRaised_80 : decode cX8_leastRaised 80 = .ok (.iconst 1, 1) := by decide +kernel
theorem dX8_leastRaised_81 : decode cX8_leastRaised 81 = .ok (.goto 4, 3) := by decide +kernel
theorem dX8_leastRaised_84 : decode cX8_leastRaised 84 = .ok (.iconst 0, 1) := by decide +kernel
theorem dX8_leastRaised_85 : decode cX8_leastRaised 85 = .ok (.istore 5, 2) := by decide +kernel
theorem dX8_leastRaised_87 : decode cX8_leastRaised 87 = .ok (.iload 5, 2) := by decide +kernel
theorem dX8_leastRaised_89 : decode cX8_leastRaised 89 = .ok (.ifCond .eq 28, 3) := by decide +kernel
theorem dX8_leastRaised_92 : decode cX8_leastRaised 92 = .ok (.iload 4, 2) := by decide +kernel
theorem dX8_leastRaised_94 : decode cX8_leastRaised 94 = .ok (.istore_n 3, 1) := by decide +kernel
theorem dX8_leastRaised_95 : decode cX8_leastRaised 95 = .ok (.aload_n 0, 1) := by decide +kernel
theorem dX8_leastRaised_96 : decode cX8_leastRaised 96 = .ok (.getfield 99, 3) := by decide +kernel
theorem dX8_leastRaised_99 : decode cX8_leastRaised 99 = .ok (.aload_n 0, 1) := by decide +kernel
theorem dX8_leastRaised_100 : decode cX8_leastRaised 100 = .ok (.getfield 35, 3) := by decide +kernel
theorem dX8_leastRaised_103 : decode cX8_leastRaised 103 = .ok (.invokestatic 128, 3) := by decide +kernel
theorem dX8_leastRaised_106 : decode cX8_leastRaised 106 = .ok (.aload_n 0, 1) := by decide +kernel
theorem dX8_leastRaised_107 : decode cX8_leastRaised 107 = .ok (.getfield 102, 3) := by decide +kernel
theorem dX8_leastRaised_110 : decode cX8_leastRaised 110 = .ok (.aload_n 0, 1) := by decide +kernel
theorem dX8_leastRaised_111 : decode cX8_leastRaised 111 = .ok (.getfield 38, 3) := by decide +kernel
theorem dX8_leastRaised_114 : decode cX8_leastRaised 114 = .ok (.invokestatic 128, 3) := by decide +kernel
theorem dX8_leastRaised_117 : decode cX8_leastRaised 117 = .ok (.iinc 4 1, 3) := by decide +kernel
theorem dX8_leastRaised_120 : decode cX8_leastRaised 120 = .ok (.goto (-115), 3) := by decide +kernel
theorem dX8_leastRaised_123 : decode cX8_leastRaised 123 = .ok (.aload_n 0, 1) := by decide +kernel
theorem dX8_leastRaised_124 : decode cX8_leastRaised 124 = .ok (.getfield 35, 3) := by decide +kernel
theorem dX8_leastRaised_127 : decode cX8_leastRaised 127 = .ok (.aload_n 0, 1) := by decide +kernel
theorem dX8_leastRaised_128 : decode cX8_leastRaised 128 = .ok (.getfield 99, 3) := by decide +kernel
theorem dX8_leastRaised_131 : decode cX8_leastRaised 131 = .ok (.invokestatic 128, 3) := by decide +kernel
theorem dX8_leastRaised_134 : decode cX8_leastRaised 134 = .ok (.aload_n 0, 1) := by decide +kernel
theorem dX8_leastRaised_135 : decode cX8_leastRaised 135 = .ok (.getfield 38, 3) := by decide +kernel
theorem dX8_leastRaised_138 : decode cX8_leastRaised 138 = .ok (.aload_n 0, 1) := by decide +kernel
theorem dX8_leastRaised_139 : decode cX8_leastRaised 139 = .ok (.getfield 102, 3) := by decide +kernel
theorem dX8_leastRaised_142 : decode cX8_leastRaised 142 = .ok (.invokestatic 128, 3) := by decide +kernel
theorem dX8_leastRaised_145 : decode cX8_leastRaised 145 = .ok (.iload_n 3, 1) := by decide +kernel
theorem dX8_leastRaised_146 : decode cX8_leastRaised 146 = .ok (.ireturn, 1) := by decide +kernel
theorem dX8_bounded_0 : decode cX8_bounded 0 = .ok (.aload_n 0, 1) := by decide +kernel
theorem dX8_bounded_1 : decode cX8_bounded 1 = .ok (.iload_n 1, 1) := by decide +kernel
theorem dX8_bounded_2 : decode cX8_bounded 2 = .ok (.invokevirtual 218, 3) := by decide +kernel
theorem dX8_bounded_5 : decode cX8_bounded 5 = .ok (.aload_n 0, 1) := by decide +kernel
theorem dX8_bounded_6 : decode cX8_bounded 6 = .ok (.aload_n 0, 1) := by decide +kernel
theorem dX8_bounded_7 : decode cX8_bounded 7 = .ok (.getfield 53, 3) := by decide +kernel
theorem dX8_bounded_10 : decode cX8_bounded 10 = .ok (.iload_n 2, 1) := by decide +kernel
theorem dX8_bounded_11 : decode cX8_bounded 11 = .ok (.invokevirtual 222, 3) := by decide +kernel
theorem dX8_bounded_14 : decode cX8_bounded 14 = .ok (.ifCond .ne 21, 3) := by decide +kernel
theorem dX8_bounded_17 : decode cX8_bounded 17 = .ok (.aload_n 0, 1) := by decide +kernel
theorem dX8_bounded_18 : decode cX8_bounded 18 = .ok (.getfield 35, 3) := by decide +kernel
theorem dX8_bounded_21 : decode cX8_bounded 21 = .ok (.lconst 1, 1) := by decide +kernel
theorem dX8_bounded_22 : decode cX8_bounded 22 = .ok (.invokestatic 124, 3) := by decide +kernel
theorem dX8_bounded_25 : decode cX8_bounded 25 = .ok (.aload_n 0, 1) := by decide +kernel
theorem dX8_bounded_26 : decode cX8_bounded 26 = .ok (.getfield 38, 3) := by decide +kernel
theorem dX8_bounded_29 : decode cX8_bounded 29 = .ok (.lconst 1, 1) := by decide +kernel
theorem dX8_bounded_30 : decode cX8_bounded 30 = .ok (.invokestatic 124, 3) := by decide +kernel
theorem dX8_bounded_33 : decode cX8_bounded 33 = .ok (.iconst 0, 1) := by decide +kernel
theorem dX8_bounded_34 : decode cX8_bounded 34 = .ok (.ireturn, 1) := by decide +kernel
theorem dX8_bounded_35 : decode cX8_bounded 35 = .ok (.iload_n 3, 1) := by decide +kernel
theorem dX8_bounded_36 : decode cX8_bounded 36 = .ok (.ifCond .ne 37, 3) := by decide +kernel
theorem dX8_bounded_39 : decode cX8_bounded 39 = .ok (.aload_n 0, 1) := by decide +kernel
theorem dX8_bounded_40 : decode cX8_bounded 40 = .ok (.getfield 35, 3) := by decide +kernel
theorem dX8_bounded_43 : decode cX8_bounded 43 = .ok (.aload_n 0, 1) := by decide +kernel
theorem dX8_bounded_44 : decode cX8_bounded 44 = .ok (.getfield 96, 3) := by decide +kernel
theorem dX8_bounded_47 : decode cX8_bounded 47 = .ok (.invokestatic 128, 3) := by decide +kernel
theorem dX8_bounded_50 : decode cX8_bounded 50 = .ok (.aload_n 0, 1) := by decide +kernel
theorem dX8_bounded_51 : decode cX8_bounded 51 = .ok (.getfield 38, 3) := by decide +kernel
theorem dX8_bounded_54 : decode cX8_bounded 54 = .ok (.aload_n 0, 1) := by decide +kernel
theorem dX8_bounded_55 : decode cX8_bounded 55 = .ok (.getfield 93, 3) := by decide +kernel
theorem dX8_bounded_58 : decode cX8_bounded 58 = .ok (.invokestatic 128, 3) := by decide +kernel
theorem dX8_bounded_61 : decode cX8_bounded 61 = .ok (.aload_n 0, 1) := by decide +kernel
theorem dX8_bounded_62 : decode cX8_bounded 62 = .ok (.getfield 38, 3) := by decide +kernel
theorem dX8_bounded_65 : decode cX8_bounded 65 = .ok (.iload_n 2, 1) := by decide +kernel
theorem dX8_bounded_66 : decode cX8_bounded 66 = .ok (.i2l, 1) := by decide +kernel
theorem dX8_bounded_67 : decode cX8_bounded 67 = .ok (.invokestatic 184, 3) := by decide +kernel
theorem dX8_bounded_70 : decode cX8_bounded 70 = .ok (.goto 118, 3) := by decide +kernel
theorem dX8_bounded_73 : decode cX8_bounded 73 = .ok (.iload_n 3, 1) := by decide +kernel
theorem dX8_bounded_74 : decode cX8_bounded 74 = .ok (.iconst 4, 1) := by decide +kernel
theorem dX8_bounded_75 : decode cX8_bounded 75 = .ok (.if_icmp .ne 10, 3) := by decide +kernel
theorem dX8_bounded_78 : decode cX8_bounded 78 = .ok (.aload_n 0, 1) := by decide +kernel
theorem dX8_bounded_79 : decode cX8_bounded 79 = .ok (.iload_n 1, 1) := by decide +kernel
theorem dX8_bounded_80 : decode cX8_bounded 80 = .ok (.iload_n 2, 1) := by decide +kernel
theorem dX8_bounded_81 : decode cX8_bounded 81 = .ok (.invokevirtual 236, 3) := by decide +kernel
theorem dX8_bounded_84 : decode cX8_bounded 84 = .ok (.ireturn, 1) := by decide +kernel
theorem dX8_bounded_85 : decode cX8_bounded 85 = .ok (.aload_n 0, 1) := by decide +kernel
theorem dX8_bounded_86 : decode cX8_bounded 86 = .ok (.iload_n 1, 1) := by decide +kernel
theorem dX8_bounded_87 : decode cX8_bounded 87 = .ok (.iload_n 3, 1) := by decide +kernel
theorem dX8_bounded_88 : decode cX8_bounded 88 = .ok (.iconst 2, 1) := by decide +kernel
theorem dX8_bounded_89 : decode cX8_bounded 89 = .ok (.if_icmp .ne 7, 3) := by decide +kernel
theorem dX8_bounded_92 : decode cX8_bounded 92 = .ok (.iconst 4, 1) := by decide +kernel
theorem dX8_bounded_93 : decode cX8_bounded 93 = .ok (.goto 4, 3) := by decide +kernel
theorem dX8_bounded_96 : decode cX8_bounded 96 = .ok (.iconst 2, 1) := by decide +kernel
theorem dX8_bounded_97 : decode cX8_bounded 97 = .ok (.invokevirtual 226, 3) := by decide +kernel
theorem dX8_bounded_100 : decode cX8_bounded 100 = .ok (.aload_n 0, 1) := by decide +kernel
theorem dX8_bounded_101 : decode cX8_bounded 101 = .ok (.getfield 35, 3) := by decide +kernel
theorem dX8_bounded_104 : decode cX8_bounded 104 = .ok (.aload_n 0, 1) := by decide +kernel
theorem dX8_bounded_105 : decode cX8_bounded 105 = .ok (.getfield 84, 3) := by decide +kernel
theorem dX8_bounded_108 : decode cX8_bounded 108 = .ok (.invokestatic 128, 3) := by decide +kernel
theorem dX8_bounded_111 : decode cX8_bounded 111 = .ok (.aload_n 0, 1) := by decide +kernel
theorem dX8_bounded_112 : decode cX8_bounded 112 = .ok (.getfield 78, 3) := by decide +kernel
theorem dX8_bounded_115 : decode cX8_bounded 115 = .ok (.aload_n 0, 1) := by decide +kernel
theorem dX8_bounded_116 : decode cX8_bounded 116 = .ok (.getfield 53, 3) := by decide +kernel
theorem dX8_bounded_119 : decode cX8_bounded 119 = .ok (.aload_n 0, 1) := by decide +kernel
theorem dX8_bounded_120 : decode cX8_bounded 120 = .ok (.getfield 53, 3) := by decide +kernel
theorem dX8_bounded_123 : decode cX8_bounded 123 = .ok (.invokestatic 174, 3) := by decide +kernel
theorem dX8_bounded_126 : decode cX8_bounded 126 = .ok (.iload_n 3, 1) := by decide +kernel
theorem dX8_bounded_127 : decode cX8_bounded 127 = .ok (.iconst 2, 1) := by decide +kernel
theorem dX8_bounded_128 : decode cX8_bounded 128 = .ok (.if_icmp .ne 29, 3) := by decide +kernel
theorem dX8_bounded_131 : decode cX8_bounded 131 = .ok (.aload_n 0, 1) := by decide +kernel
theorem dX8_bounded_132 : decode cX8_bounded 132 = .ok (.getfield 81, 3) := by decide +kernel
theorem dX8_bounded_135 : decode cX8_bounded 135 = .ok (.aload_n 0, 1) := by decide +kernel
theorem dX8_bounded_136 : decode cX8_bounded 136 = .ok (.getfield 78, 3) := by decide +kernel
theorem dX8_bounded_139 : decode cX8_bounded 139 = .ok (.aload_n 0, 1) := by decide +kernel
theorem dX8_bounded_140 : decode cX8_bounded 140 = .ok (.getfield 78, 3) := by decide +kernel
theorem dX8_bounded_143 : decode cX8_bounded 143 = .ok (.invokestatic 174, 3) := by decide +kernel
theorem dX8_bounded_146 : decode cX8_bounded 146 = .ok (.aload_n 0, 1) := by decide +kernel
theorem dX8_bounded_147 : decode cX8_bounded 147 = .ok (.getfield 78, 3) := by decide +kernel
theorem dX8_bounded_150 : decode cX8_bounded 150 = .ok (.aload_n 0, 1) := by decide +kernel
theorem dX8_bounded_151 : decode cX8_bounded 151 = .ok (.getfield 81, 3) := by decide +kernel
theorem dX8_bounded_154 : decode cX8_bounded 154 = .ok (.invokestatic 128, 3) := by decide +kernel
theorem dX8_bounded_157 : decode cX8_bounded 157 = .ok (.aload_n 0, 1) := by decide +kernel
theorem dX8_bounded_158 : decode cX8_bounded 158 = .ok (.getfield 38, 3) := by decide +kernel
theorem dX8_bounded_161 : decode cX8_bounded 161 = .ok (.aload_n 0, 1) := by decide +kernel
theorem dX8_bounded_162 : decode cX8_bounded 162 = .ok (.getfield 78, 3) := by decide +kernel
theorem dX8_bounded_165 : decode cX8_bounded 165 = .ok (.aload_n 0, 1) := by decide +kernel
theorem dX8_bounded_166 : decode cX8_bounded 166 = .ok (.getfield 93, 3) := by decide +kernel
theorem dX8_bounded_169 : decode cX8_bounded 169 = .ok (.invokestatic 174, 3) := by decide +kernel
theorem dX8_bounded_172 : decode cX8_bounded 172 = .ok (.iload_n 3, 1) := by decide +kernel
theorem dX8_bounded_173 : decode cX8_bounded 173 = .ok (.iconst 3, 1) := by decide +kernel
theorem dX8_bounded_174 : decode cX8_bounded 174 = .ok (.if_icmp .ne 14, 3) := by decide +kernel
theorem dX8_bounded_177 : decode cX8_bounded 177 = .ok (.aload_n 0, 1) := by decide +kernel
theorem dX8_bounded_178 : decode cX8_bounded 178 = .ok (.getfield 38, 3) := by decide +kernel
theorem dX8_bounded_181 : decode cX8_bounded 181 = .ok (.aload_n 0, 1) := by decide +kernel
theorem dX8_bounded_182 : decode cX8_bounded 182 = .ok (.getfield 35, 3) := by decide +kernel
theorem dX8_bounded_185 : decode cX8_bounded 185 = .ok (.invokestatic 191, 3) := by decide +kernel
theorem dX8_bounded_188 : decode cX8_bounded 188 = .ok (.iconst 0, 1) := by decide +kernel
theorem dX8_bounded_189 : decode cX8_bounded 189 = .ok (.ireturn, 1) := by decide +kernel
theorem dX8_bound_0 : decode cX8_bound 0 = .ok (.iload_n 1, 1) := by decide +kernel
theorem dX8_bound_1 : decode cX8_bound 1 = .ok (.invokestatic 211, 3) := by decide +kernel
theorem dX8_bound_4 : decode cX8_bound 4 = .ok (.ifCond .eq 31, 3) := by decide +kernel
theorem dX8_bound_7 : decode cX8_bound 7 = .ok (.aload_n 0, 1) := by decide +kernel
theorem dX8_bound_8 : decode cX8_bound 8 = .ok (.iload_n 2, 1) := by decide +kernel
theorem dX8_bound_9 : decode cX8_bound 9 = .ok (.invokevirtual 205, 3) := by decide +kernel
theorem dX8_bound_12 : decode cX8_bound 12 = .ok (.ifCond .eq 23, 3) := by decide +kernel
theorem dX8_bound_15 : decode cX8_bound 15 = .ok (.iload_n 3, 1) := by decide +kernel
theorem dX8_bound_16 : decode cX8_bound 16 = .ok (.iconst 0, 1) := by decide +kernel
theorem dX8_bound_17 : decode cX8_bound 17 = .ok (.bipush 120, 2) := by decide +kernel
theorem dX8_bound_19 : decode cX8_bound 19 = .ok (.invokestatic 153, 3) := by decide +kernel
theorem dX8_bound_22 : decode cX8_bound 22 = .ok (.ifCond .eq 13, 3) := by decide +kernel
theorem dX8_bound_25 : decode cX8_bound 25 = .ok (.iload 4, 2) := by decide +kernel
theorem dX8_bound_27 : decode cX8_bound 27 = .ok (.iconst 0, 1) := by decide +kernel
theorem dX8_bound_28 : decode cX8_bound 28 = .ok (.iconst 4, 1) := by decide +kernel
theorem dX8_bound_29 : decode cX8_bound 29 = .ok (.invokestatic 153, 3) := by decide +kernel
theorem dX8_bound_32 : decode cX8_bound 32 = .ok (.ifCond .ne 5, 3) := by decide +kernel
theorem dX8_bound_35 : decode cX8_bound 35 = .ok (.iconst (-1), 1) := by decide +kernel
theorem dX8_bound_36 : decode cX8_bound 36 = .ok (.ireturn, 1) := by decide +kernel
theorem dX8_bound_37 : decode cX8_bound 37 = .ok (.aload_n 0, 1) := by decide +kernel
theorem dX8_bound_38 : decode cX8_bound 38 = .ok (.iload_n 2, 1) := by decide +kernel
theorem dX8_bound_39 : decode cX8_bound 39 = .ok (.iload_n 3, 1) := by decide +kernel
theorem dX8_bound_40 : decode cX8_bound 40 = .ok (.iload 4, 2) := by decide +kernel
theorem dX8_bound_42 : decode cX8_bound 42 = .ok (.invokevirtual 239, 3) := by decide +kernel
theorem dX8_bound_45 : decode cX8_bound 45 = .ok (.istore 5, 2) := by decide +kernel
theorem dX8_bound_47 : decode cX8_bound 47 = .ok (.aload_n 0, 1) := by decide +kernel
theorem dX8_bound_48 : decode cX8_bound 48 = .ok (.getfield 35, 3) := by decide +kernel
theorem dX8_bound_51 : decode cX8_bound 51 = .ok (.aload_n 0, 1) := by decide +kernel
theorem dX8_bound_52 : decode cX8_bound 52 = .ok (.getfield 38, 3) := by decide +kernel
theorem dX8_bound_55 : decode cX8_bound 55 = .ok (.invokestatic 136, 3) := by decide +kernel
theorem dX8_bound_58 : decode cX8_bound 58 = .ok (.ifCond .le 19, 3) := by decide +kernel
theorem dX8_bound_61 : decode cX8_bound 61 = .ok (.aload_n 0, 1) := by decide +kernel
theorem dX8_bound_62 : decode cX8_bound 62 = .ok (.getfield 35, 3) := by decide +kernel
theorem dX8_bound_65 : decode cX8_bound 65 = .ok (.lconst 1, 1) := by decide +kernel
theorem dX8_bound_66 : decode cX8_bound 66 = .ok (.invokestatic 124, 3) := by decide +kernel
theorem dX8_bound_69 : decode cX8_bound 69 = .ok (.aload_n 0, 1) := by decide +kernel
theorem dX8_bound_70 : decode cX8_bound 70 = .ok (.getfield 38, 3) := by decide +kernel
theorem dX8_bound_73 : decode cX8_bound 73 = .ok (.lconst 1, 1) := by decide +kernel
theorem dX8_bound_74 : decode cX8_bound 74 = .ok (.invokestatic 124, 3) := by decide +kernel
theorem dX8_bound_77 : decode cX8_bound 77 = .ok (.aload_n 0, 1) := by decide +kernel
theorem dX8_bound_78 : decode cX8_bound 78 = .ok (.iload_n 1, 1) := by decide +kernel
theorem dX8_bound_79 : decode cX8_bound 79 = .ok (.invokevirtual 214, 3) := by decide +kernel
theorem dX8_bound_82 : decode cX8_bound 82 = .ok (.istore 6, 2) := by decide +kernel
theorem dX8_bound_84 : decode cX8_bound 84 = .ok (.aload_n 0, 1) := by decide +kernel
theorem dX8_bound_85 : decode cX8_bound 85 = .ok (.iload 4, 2) := by decide +kernel
theorem dX8_bound_87 : decode cX8_bound 87 = .ok (.iconst 4, 1) := by decide +kernel
theorem dX8_bound_88 : decode cX8_bound 88 = .ok (.if_icmp .ne 14, 3) := by decide +kernel
theorem dX8_bound_91 : decode cX8_bound 91 = .ok (.iload 6, 2) := by decide +kernel
theorem dX8_bound_93 : decode cX8_bound 93 = .ok (.iconst 1, 1) := by decide +kernel
theorem dX8_bound_94 : decode cX8_bound 94 = .ok (.if_icmp .ne 8, 3) := by decide +kernel
theorem dX8_bound_97 : decode cX8_bound 97 = .ok (.iload 5, 2) := by decide +kernel
theorem dX8_bound_99 : decode cX8_bound 99 = .ok (.goto 7, 3) := by decide +kernel
theorem dX8_bound_102 : decode cX8_bound 102 = .ok (.aload_n 0, 1) := by decide +kernel
theorem dX8_bound_103 : decode cX8_bound 103 = .ok (.getfield 243, 3) := by decide +kernel
theorem dX8_bound_106 : decode cX8_bound 106 = .ok (.putfield 243, 3) := by decide +kernel
theorem dX8_bound_109 : decode cX8_bound 109 = .ok (.iload 6, 2) := by decide +kernel
theorem dX8_bound_111 : decode cX8_bound 111 = .ok (.ireturn, 1) := by decide +kernel
theorem dX8_base_0 : decode cX8_base 0 = .ok (.aload_n 0, 1) := by decide +kernel
theorem dX8_base_1 : decode cX8_base 1 = .ok (.getfield 243, 3) := by decide +kernel
theorem dX8_base_4 : decode cX8_base 4 = .ok (.ireturn, 1) := by decide +kernel
theorem dX8_work_0 : decode cX8_work 0 = .ok (.iload_n 1, 1) := by decide +kernel
theorem dX8_work_1 : decode cX8_work 1 = .ok (.iconst 0, 1) := by decide +kernel
theorem dX8_work_2 : decode cX8_work 2 = .ok (.iconst 3, 1) := by decide +kernel
theorem dX8_work_3 : decode cX8_work 3 = .ok (.invokestatic 153, 3) := by decide +kernel
theorem dX8_work_6 : decode cX8_work 6 = .ok (.ifCond .eq 30, 3) := by decide +kernel
theorem dX8_work_9 : decode cX8_work 9 = .ok (.iload_n 2, 1) := by decide +kernel
theorem dX8_work_10 : decode cX8_work 10 = .ok (.invokestatic 211, 3) := by decide +kernel
theorem dX8_work_13 : decode cX8_work 13 = .ok (.ifCond .eq 23, 3) := by decide +kernel
theorem dX8_work_16 : decode cX8_work 16 = .ok (.iload_n 3, 1) := by decide +kernel
theorem dX8_work_17 : decode cX8_work 17 = .ok (.invokestatic 211, 3) := by decide +kernel
theorem dX8_work_20 : decode cX8_work 20 = .ok (.ifCond .eq 16, 3) := by decide +kernel
theorem dX8_work_23 : decode cX8_work 23 = .ok (.iload_n 1, 1) := by decide +kernel
theorem dX8_work_24 : decode cX8_work 24 = .ok (.iconst 3, 1) := by decide +kernel
theorem dX8_work_25 : decode cX8_work 25 = .ok (.if_icmp .ge 13, 3) := by decide +kernel
theorem dX8_work_28 : decode cX8_work 28 = .ok (.iload 4, 2) := by decide +kernel
theorem dX8_work_30 : decode cX8_work 30 = .ok (.invokestatic 211, 3) := by decide +kernel
theorem dX8_work_33 : decode cX8_work 33 = .ok (.ifCond .ne 5, 3) := by decide +kernel
theorem dX8_work_36 : decode cX8_work 36 = .ok (.iconst (-1), 1) := by decide +kernel
theorem dX8_work_37 : decode cX8_work 37 = .ok (.ireturn, 1) := by decide +kernel
theorem dX8_work_38 : decode cX8_work 38 = .ok (.aload_n 0, 1) := by decide +kernel
theorem dX8_work_39 : decode cX8_work 39 = .ok (.getfield 31, 3) := by decide +kernel
theorem dX8_work_42 : decode cX8_work 42 = .ok (.iload_n 3, 1) := by decide +kernel
theorem dX8_work_43 : decode cX8_work 43 = .ok (.baload, 1) := by decide +kernel
theorem dX8_work_44 : decode cX8_work 44 = .ok (.ifCond .eq 18, 3) := by decide +kernel
theorem dX8_work_47 : decode cX8_work 47 = .ok (.iload_n 1, 1) := by decide +kernel
theorem dX8_work_48 : decode cX8_work 48 = .ok (.iconst 3, 1) := by decide +kernel
theorem dX8_work_49 : decode cX8_work 49 = .ok (.if_icmp .ge 16, 3) := by decide +kernel
theorem dX8_work_52 : decode cX8_work 52 = .ok (.aload_n 0, 1) := by decide +kernel
theorem dX8_work_53 : decode cX8_work 53 = .ok (.getfield 31, 3) := by decide +kernel
theorem dX8_work_56 : decode cX8_work 56 = .ok (.iload 4, 2) := by decide +kernel
theorem dX8_work_58 : decode cX8_work 58 = .ok (.baload, 1) := by decide +kernel
theorem dX8_work_59 : decode cX8_work 59 = .ok (.ifCond .ne 6, 3) := by decide +kernel
theorem dX8_work_62 : decode cX8_work 62 = .ok (.bipush (-2), 2) := by decide +kernel
theorem dX8_work_64 : decode cX8_work 64 = .ok (.ireturn, 1) := by decide +kernel
theorem dX8_work_65 : decode cX8_work 65 = .ok (.aload_n 0, 1) := by decide +kernel
theorem dX8_work_66 : decode cX8_work 66 = .ok (.iload_n 3, 1) := by decide +kernel
theorem dX8_work_67 : decode cX8_work 67 = .ok (.invokevirtual 246, 3) := by decide +kernel
theorem dX8_work_70 : decode cX8_work 70 = .ok (.iload_n 1, 1) := by decide +kernel
theorem dX8_work_71 : decode cX8_work 71 = .ok (.iconst 3, 1) := by decide +kernel
theorem dX8_work_72 : decode cX8_work 72 = .ok (.if_icmp .ne 22, 3) := by decide +kernel
theorem dX8_work_75 : decode cX8_work 75 = .ok (.aload_n 0, 1) := by decide +kernel
theorem dX8_work_76 : decode cX8_work 76 = .ok (.getfield 47, 3) := by decide +kernel
theorem dX8_work_79 : decode cX8_work 79 = .ok (.lconst 1, 1) := by decide +kernel
theorem dX8_work_80 : decode cX8_work 80 = .ok (.invokestatic 124, 3) := by decide +kernel
theorem dX8_work_83 : decode cX8_work 83 = .ok (.aload_n 0, 1) := by decide +kernel
theorem dX8_work_84 : decode cX8_work 84 = .ok (.getfield 50, 3) := by decide +kernel
theorem dX8_work_87 : decode cX8_work 87 = .ok (.lconst 1, 1) := by decide +kernel
theorem dX8_work_88 : decode cX8_work 88 = .ok (.invokestatic 124, 3) := by decide +kernel
theorem dX8_work_91 : decode cX8_work 91 = .ok (.goto 9, 3) := by decide +kernel
theorem dX8_work_94 : decode cX8_work 94 = .ok (.aload_n 0, 1) := by decide +kernel
theorem dX8_work_95 : decode cX8_work 95 = .ok (.iload 4, 2) := by decide +kernel
theorem dX8_work_97 : decode cX8_work 97 = .ok (.invokevirtual 249, 3) := by decide +kernel
theorem dX8_work_100 : decode cX8_work 100 = .ok (.aload_n 0, 1) := by decide +kernel
theorem dX8_work_101 : decode cX8_work 101 = .ok (.invokevirtual 252, 3) := by decide +kernel
theorem dX8_work_104 : decode cX8_work 104 = .ok (.istore 5, 2) := by decide +kernel
theorem dX8_work_106 : decode cX8_work 106 = .ok (.iload_n 1, 1) := by decide +kernel
theorem dX8_work_107 : decode cX8_work 107 = .ok (.tableswitch 147 0 2 #[25, 65, 98], 25) := by decide +kernel
theorem dX8_work_132 : decode cX8_work 132 = .ok (.aload_n 0, 1) := by decide +kernel
theorem dX8_work_133 : decode cX8_work 133 = .ok (.getfield 38, 3) := by decide +kernel
theorem dX8_work_136 : decode cX8_work 136 = .ok (.aload_n 0, 1) := by decide +kernel
theorem dX8_work_137 : decode cX8_work 137 = .ok (.getfield 44, 3) := by decide +kernel
theorem dX8_work_140 : decode cX8_work 140 = .ok (.aload_n 0, 1) := by decide +kernel
theorem dX8_work_141 : decode cX8_work 141 = .ok (.getfield 50, 3) := by decide +kernel
theorem dX8_work_144 : decode cX8_work 144 = .ok (.invokestatic 174, 3) := by decide +kernel
theorem dX8_work_147 : decode cX8_work 147 = .ok (.aload_n 0, 1) := by decide +kernel
theorem dX8_work_148 : decode cX8_work 148 = .ok (.getfield 35, 3) := by decide +kernel
theorem dX8_work_151 : decode cX8_work 151 = .ok (.aload_n 0, 1) := by decide +kernel
theorem dX8_work_152 : decode cX8_work 152 = .ok (.getfield 53, 3) := by decide +kernel
theorem dX8_work_155 : decode cX8_work 155 = .ok (.invokestatic 128, 3) := by decide +kernel
theorem dX8_work_158 : decode cX8_work 158 = .ok (.aload_n 0, 1) := by decide +kernel
theorem dX8_work_159 : decode cX8_work 159 = .ok (.getfield 35, 3) := by decide +kernel
theorem dX8_work_162 : decode cX8_work 162 = .ok (.aload_n 0, 1) := by decide +kernel
theorem dX8_work_163 : decode cX8_work 163 = .ok (.getfield 56, 3) := by decide +kernel
theorem dX8_work_166 : decode cX8_work 166 = .ok (.invokestatic 191, 3) := by decide +kernel
theorem dX8_work_169 : decode cX8_work 169 = .ok (.goto 131, 3) := by decide +kernel
theorem dX8_work_172 : decode cX8_work 172 = .ok (.aload_n 0, 1) := by decide +kernel
theorem dX8_work_173 : decode cX8_work 173 = .ok (.getfield 35, 3) := by decide +kernel
theorem dX8_work_176 : decode cX8_work 176 = .ok (.aload_n 0, 1) := by decide +kernel
theorem dX8_work_177 : decode cX8_work 177 = .ok (.getfield 41, 3) := by decide +kernel
theorem dX8_work_180 : decode cX8_work 180 = .ok (.aload_n 0, 1) := by decide +kernel
theorem dX8_work_181 : decode cX8_work 181 = .ok (.getfield 47, 3) := by decide +kernel
theorem dX8_work_184 : decode cX8_work 184 = .ok (.invokestatic 174, 3) := by decide +kernel
theorem dX8_work_187 : decode cX8_work 187 = .ok (.aload_n 0, 1) := by decide +kernel
theorem dX8_work_188 : decode cX8_work 188 = .ok (.getfield 38, 3) := by decide +kernel
theorem dX8_work_191 : decode cX8_work 191 = .ok (.aload_n 0, 1) := by decide +kernel
theorem dX8_work_192 : decode cX8_work 192 = .ok (.getfield 44, 3) := by decide +kernel
theorem dX8_work_195 : decode cX8_work 195 = .ok (.aload_n 0, 1) := by decide +kernel
theorem dX8_work_196 : decode cX8_work 196 = .ok (.getfield 50, 3) := by decide +kernel
theorem dX8_work_199 : decode cX8_work 199 = .ok (.invokestatic 174, 3) := by decide +kernel
theorem dX8_work_202 : decode cX8_work 202 = .ok (.goto 98, 3) := by decide +kernel
theorem dX8_work_205 : decode cX8_work 205 = .ok (.aload_n 0, 1) := by decide +kernel
theorem dX8_work_206 : decode cX8_work 206 = .ok (.getfield 35, 3) := by decide +kernel
theorem dX8_work_209 : decode cX8_work 209 = .ok (.iload 5, 2) := by decide +kernel
theorem dX8_work_211 : decode cX8_work 211 = .ok (.ifCond .ge 10, 3) := by decide +kernel
theorem dX8_work_214 : decode cX8_work 214 = .ok (.aload_n 0, 1) := by decide +kernel
theorem dX8_work_215 : decode cX8_work 215 = .ok (.getfield 41, 3) := by decide +kernel
theorem dX8_work_218 : decode cX8_work 218 = .ok (.goto 7, 3) := by decide +kernel
theorem dX8_work_221 : decode cX8_work 221 = .ok (.aload_n 0, 1) := by decide +kernel
theorem dX8_work_222 : decode cX8_work 222 = .ok (.getfield 47, 3) := by decide +kernel
theorem dX8_work_225 : decode cX8_work 225 = .ok (.invokestatic 128, 3) := by decide +kernel
theorem dX8_work_228 : decode cX8_work 228 = .ok (.aload_n 0, 1) := by decide +kernel
theorem dX8_work_229 : decode cX8_work 229 = .ok (.getfield 38, 3) := by decide +kernel
theorem dX8_work_232 : decode cX8_work 232 = .ok (.iload 5, 2) := by decide +kernel
theorem dX8_work_234 : decode cX8_work 234 = .ok (.ifCond .ge 10, 3) := by decide +kernel
theorem dX8_work_237 : decode cX8_work 237 = .ok (.aload_n 0, 1) := by decide +kernel
theorem dX8_work_238 : decode cX8_work 238 = .ok (.getfield 44, 3) := by decide +kernel
theorem dX8_work_241 : decode cX8_work 241 = .ok (.goto 7, 3) := by decide +kernel
theorem dX8_work_244 : decode cX8_work 244 = .ok (.aload_n 0, 1) := by decide +kernel
theorem dX8_work_245 : decode cX8_work 245 = .ok (.getfield 50, 3) := by decide +kernel
theorem dX8_work_248 : decode cX8_work 248 = .ok (.invokestatic 128, 3) := by decide +kernel
theorem dX8_work_251 : decode cX8_work 251 = .ok (.goto 49, 3) := by decide +kernel
theorem dX8_work_254 : decode cX8_work 254 = .ok (.aload_n 0, 1) := by decide +kernel
theorem dX8_work_255 : decode cX8_work 255 = .ok (.getfield 35, 3) := by decide +kernel
theorem dX8_work_258 : decode cX8_work 258 = .ok (.lconst 0, 1) := by decide +kernel
theorem dX8_work_259 : decode cX8_work 259 = .ok (.invokestatic 124, 3) := by decide +kernel
theorem dX8_work_262 : decode cX8_work 262 = .ok (.aload_n 0, 1) := by decide +kernel
theorem dX8_work_263 : decode cX8_work 263 = .ok (.getfield 38, 3) := by decide +kernel
theorem dX8_work_266 : decode cX8_work 266 = .ok (.aload_n 0, 1) := by decide +kernel
theorem dX8_work_267 : decode cX8_work 267 = .ok (.getfield 44, 3) := by decide +kernel
theorem dX8_work_270 : decode cX8_work 270 = .ok (.invokestatic 128, 3) := by decide +kernel
theorem dX8_work_273 : decode cX8_work 273 = .ok (.iload 5, 2) := by decide +kernel
theorem dX8_work_275 : decode cX8_work 275 = .ok (.ifCond .ge 25, 3) := by decide +kernel
theorem dX8_work_278 : decode cX8_work 278 = .ok (.aload_n 0, 1) := by decide +kernel
theorem dX8_work_279 : decode cX8_work 279 = .ok (.getfield 35, 3) := by decide +kernel
theorem dX8_work_282 : decode cX8_work 282 = .ok (.aload_n 0, 1) := by decide +kernel
theorem dX8_work_283 : decode cX8_work 283 = .ok (.getfield 44, 3) := by decide +kernel
theorem dX8_work_286 : decode cX8_work 286 = .ok (.invokestatic 128, 3) := by decide +kernel
theorem dX8_work_289 : decode cX8_work 289 = .ok (.aload_n 0, 1) := by decide +kernel
theorem dX8_work_290 : decode cX8_work 290 = .ok (.getfield 35, 3) := by decide +kernel
theorem dX8_work_293 : decode cX8_work 293 = .ok (.aload_n 0, 1) := by decide +kernel
theorem dX8_work_294 : decode cX8_work 294 = .ok (.getfield 41, 3) := by decide +kernel
theorem dX8_work_297 : decode cX8_work 297 = .ok (.invokestatic 140, 3) := by decide +kernel
theorem dX8_work_300 : decode cX8_work 300 = .ok (.aload_n 0, 1) := by decide +kernel
theorem dX8_work_301 : decode cX8_work 301 = .ok (.iload_n 2, 1) := by decide +kernel
theorem dX8_work_302 : decode cX8_work 302 = .ok (.invokevirtual 214, 3) := by decide +kernel
theorem dX8_work_305 : decode cX8_work 305 = .ok (.ireturn, 1) := by decide +kernel
theorem dX8_order_0 : decode cX8_order 0 = .ok (.iload_n 1, 1) := by decide +kernel
theorem dX8_order_1 : decode cX8_order 1 = .ok (.invokestatic 211, 3) := by decide +kernel
theorem dX8_order_4 : decode cX8_order 4 = .ok (.ifCond .eq 10, 3) := by decide +kernel
theorem dX8_order_7 : decode cX8_order 7 = .ok (.iload_n 2, 1) := by decide +kernel
theorem dX8_order_8 : decode cX8_order 8 = .ok (.invokestatic 211, 3) := by decide +kernel
theorem dX8_order_11 : decode cX8_order 11 = .ok (.ifCond .ne 5, 3) := by decide +kernel
theorem dX8_order_14 : decode cX8_order 14 = .ok (.iconst (-1), 1) := by decide +kernel
theorem dX8_order_15 : decode cX8_order 15 = .ok (.ireturn, 1) := by decide +kernel
theorem dX8_order_16 : decode cX8_order 16 = .ok (.aload_n 0, 1) := by decide +kernel
theorem dX8_order_17 : decode cX8_order 17 = .ok (.getfield 31, 3) := by decide +kernel
theorem dX8_order_20 : decode cX8_order 20 = .ok (.iload_n 1, 1) := by decide +kernel
theorem dX8_order_21 : decode cX8_order 21 = .ok (.baload, 1) := by decide +kernel
theorem dX8_order_22 : decode cX8_order 22 = .ok (.ifCond .eq 12, 3) := by decide +kernel
theorem dX8_order_25 : decode cX8_order 25 = .ok (.aload_n 0, 1) := by decide +kernel
theorem dX8_order_26 : decode cX8_order 26 = .ok (.getfield 31, 3) := by decide +kernel
theorem dX8_order_29 : decode cX8_order 29 = .ok (.iload_n 2, 1) := by decide +kernel
theorem dX8_order_30 : decode cX8_order 30 = .ok (.baload, 1) := by decide +kernel
theorem dX8_order_31 : decode cX8_order 31 = .ok (.ifCond .ne 6, 3) := by decide +kernel
theorem dX8_order_34 : decode cX8_order 34 = .ok (.bipush (-2), 2) := by decide +kernel
theorem dX8_order_36 : decode cX8_order 36 = .ok (.ireturn, 1) := by decide +kernel
theorem dX8_order_37 : decode cX8_order 37 = .ok (.aload_n 0, 1) := by decide +kernel
theorem dX8_order_38 : decode cX8_order 38 = .ok (.iload_n 1, 1) := by decide +kernel
theorem dX8_order_39 : decode cX8_order 39 = .ok (.invokevirtual 246, 3) := by decide +kernel
theorem dX8_order_42 : decode cX8_order 42 = .ok (.aload_n 0, 1) := by decide +kernel
theorem dX8_order_43 : decode cX8_order 43 = .ok (.iload_n 2, 1) := by decide +kernel
theorem dX8_order_44 : decode cX8_order 44 = .ok (.invokevirtual 249, 3) := by decide +kernel
theorem dX8_order_47 : decode cX8_order 47 = .ok (.aload_n 0, 1) := by decide +kernel
theorem dX8_order_48 : decode cX8_order 48 = .ok (.invokevirtual 252, 3) := by decide +kernel
theorem dX8_order_51 : decode cX8_order 51 = .ok (.iconst 1, 1) := by decide +kernel
theorem dX8_order_52 : decode cX8_order 52 = .ok (.iadd, 1) := by decide +kernel
theorem dX8_order_53 : decode cX8_order 53 = .ok (.ireturn, 1) := by decide +kernel
theorem dX8_asks_0 : decode cX8_asks 0 = .ok (.iload_n 1, 1) := by decide +kernel
theorem dX8_asks_1 : decode cX8_asks 1 = .ok (.invokestatic 211, 3) := by decide +kernel
theorem dX8_asks_4 : decode cX8_asks 4 = .ok (.ifCond .eq 12, 3) := by decide +kernel
theorem dX8_asks_7 : decode cX8_asks 7 = .ok (.iload_n 2, 1) := by decide +kernel
theorem dX8_asks_8 : decode cX8_asks 8 = .ok (.iconst 0, 1) := by decide +kernel
theorem dX8_asks_9 : decode cX8_asks 9 = .ok (.iconst 1, 1) := by decide +kernel
theorem dX8_asks_10 : decode cX8_asks 10 = .ok (.invokestatic 153, 3) := by decide +kernel
theorem dX8_asks_13 : decode cX8_asks 13 = .ok (.ifCond .ne 5, 3) := by decide +kernel
theorem dX8_asks_16 : decode cX8_asks 16 = .ok (.iconst (-1), 1) := by decide +kernel
theorem dX8_asks_17 : decode cX8_asks 17 = .ok (.ireturn, 1) := by decide +kernel
theorem dX8_asks_18 : decode cX8_asks 18 = .ok (.aload_n 0, 1) := by decide +kernel
theorem dX8_asks_19 : decode cX8_asks 19 = .ok (.getfield 31, 3) := by decide +kernel
theorem dX8_asks_22 : decode cX8_asks 22 = .ok (.iload_n 1, 1) := by decide +kernel
theorem dX8_asks_23 : decode cX8_asks 23 = .ok (.baload, 1) := by decide +kernel
theorem dX8_asks_24 : decode cX8_asks 24 = .ok (.ifCond .ne 6, 3) := by decide +kernel
theorem dX8_asks_27 : decode cX8_asks 27 = .ok (.bipush (-2), 2) := by decide +kernel
theorem dX8_asks_29 : decode cX8_asks 29 = .ok (.ireturn, 1) := by decide +kernel
theorem dX8_asks_30 : decode cX8_asks 30 = .ok (.aload_n 0, 1) := by decide +kernel
theorem dX8_asks_31 : decode cX8_asks 31 = .ok (.iload_n 1, 1) := by decide +kernel
theorem dX8_asks_32 : decode cX8_asks 32 = .ok (.invokevirtual 246, 3) := by decide +kernel
theorem dX8_asks_35 : decode cX8_asks 35 = .ok (.aload_n 0, 1) := by decide +kernel
theorem dX8_asks_36 : decode cX8_asks 36 = .ok (.getfield 75, 3) := by decide +kernel
theorem dX8_asks_39 : decode cX8_asks 39 = .ok (.iload_n 2, 1) := by decide +kernel
theorem dX8_asks_40 : decode cX8_asks 40 = .ok (.ifCond .ne 10, 3) := by decide +kernel
theorem dX8_asks_43 : decode cX8_asks 43 = .ok (.aload_n 0, 1) := by decide +kernel
theorem dX8_asks_44 : decode cX8_asks 44 = .ok (.getfield 41, 3) := by decide +kernel
theorem dX8_asks_47 : decode cX8_asks 47 = .ok (.goto 7, 3) := by decide +kernel
theorem dX8_asks_50 : decode cX8_asks 50 = .ok (.aload_n 0, 1) := by decide +kernel
theorem dX8_asks_51 : decode cX8_asks 51 = .ok (.getfield 44, 3) := by decide +kernel
theorem dX8_asks_54 : decode cX8_asks 54 = .ok (.invokestatic 128, 3) := by decide +kernel
theorem dX8_asks_57 : decode cX8_asks 57 = .ok (.aload_n 0, 1) := by decide +kernel
theorem dX8_asks_58 : decode cX8_asks 58 = .ok (.getfield 75, 3) := by decide +kernel
theorem dX8_asks_61 : decode cX8_asks 61 = .ok (.invokestatic 146, 3) := by decide +kernel
theorem dX8_asks_64 : decode cX8_asks 64 = .ok (.bipush 31, 2) := by decide +kernel
theorem dX8_asks_66 : decode cX8_asks 66 = .ok (.iadd, 1) := by decide +kernel
theorem dX8_asks_67 : decode cX8_asks 67 = .ok (.bipush 32, 2) := by decide +kernel
theorem dX8_asks_69 : decode cX8_asks 69 = .ok (.idiv, 1) := by decide +kernel
theorem dX8_asks_70 : decode cX8_asks 70 = .ok (.ireturn, 1) := by decide +kernel
theorem dX8_limbs_0 : decode cX8_limbs 0 = .ok (.aload_n 0, 1) := by decide +kernel
theorem dX8_limbs_1 : decode cX8_limbs 1 = .ok (.iload_n 1, 1) := by decide +kernel
theorem dX8_limbs_2 : decode cX8_limbs 2 = .ok (.iload_n 2, 1) := by decide +kernel
theorem dX8_limbs_3 : decode cX8_limbs 3 = .ok (.invokevirtual 256, 3) := by decide +kernel
theorem dX8_limbs_6 : decode cX8_limbs 6 = .ok (.ireturn, 1) := by decide +kernel
theorem dX8_limb_0 : decode cX8_limb 0 = .ok (.aload_n 0, 1) := by decide +kernel
theorem dX8_limb_1 : decode cX8_limb 1 = .ok (.iload_n 1, 1) := by decide +kernel
theorem dX8_limb_2 : decode cX8_limb 2 = .ok (.iload_n 2, 1) := by decide +kernel
theorem dX8_limb_3 : decode cX8_limb 3 = .ok (.invokevirtual 256, 3) := by decide +kernel
theorem dX8_limb_6 : decode cX8_limb 6 = .ok (.istore 4, 2) := by decide +kernel
theorem dX8_limb_8 : decode cX8_limb 8 = .ok (.iload 4, 2) := by decide +kernel
theorem dX8_limb_10 : decode cX8_limb 10 = .ok (.ifCond .ge 7, 3) := by decide +kernel
theorem dX8_limb_13 : decode cX8_limb 13 = .ok (.iload 4, 2) := by decide +kernel
theorem dX8_limb_15 : decode cX8_limb 15 = .ok (.i2l, 1) := by decide +kernel
theorem dX8_limb_16 : decode cX8_limb 16 = .ok (.lreturn, 1) := by decide +kernel
theorem dX8_limb_17 : decode cX8_limb 17 = .ok (.iload_n 3, 1) := by decide +kernel
theorem dX8_limb_18 : decode cX8_limb 18 = .ok (.iconst 0, 1) := by decide +kernel
theorem dX8_limb_19 : decode cX8_limb 19 = .ok (.iload 4, 2) := by decide +kernel
theorem dX8_limb_21 : decode cX8_limb 21 = .ok (.iconst 1, 1) := by decide +kernel
theorem dX8_limb_22 : decode cX8_limb 22 = .ok (.isub, 1) := by decide +kernel
theorem dX8_limb_23 : decode cX8_limb 23 = .ok (.invokestatic 153, 3) := by decide +kernel
theorem dX8_limb_26 : decode cX8_limb 26 = .ok (.ifCond .ne 7, 3) := by decide +kernel
theorem dX8_limb_29 : decode cX8_limb 29 = .ok (.ldc2_w 259, 3) := by decide +kernel
theorem dX8_limb_32 : decode cX8_limb 32 = .ok (.lreturn, 1) := by decide +kernel
theorem dX8_limb_33 : decode cX8_limb 33 = .ok (.lconst 0, 1) := by decide +kernel
theorem dX8_limb_34 : decode cX8_limb 34 = .ok (.lstore 5, 2) := by decide +kernel
theorem dX8_limb_36 : decode cX8_limb 36 = .ok (.bipush 31, 2) := by decide +kernel
theorem dX8_limb_38 : decode cX8_limb 38 = .ok (.istore 7, 2) := by decide +kernel
theorem dX8_limb_40 : decode cX8_limb 40 = .ok (.iload 7, 2) := by decide +kernel
theorem dX8_limb_42 : decode cX8_limb 42 = .ok (.ifCond .lt 30, 3) := by decide +kernel
theorem dX8_limb_45 : decode cX8_limb 45 = .ok (.lload 5, 2) := by decide +kernel
theorem dX8_limb_47 : decode cX8_limb 47 = .ok (.iconst 1, 1) := by decide +kernel
theorem dX8_limb_48 : decode cX8_limb 48 = .ok (.lshl, 1) := by decide +kernel
theorem dX8_limb_49 : decode cX8_limb 49 = .ok (.aload_n 0, 1) := by decide +kernel
theorem dX8_limb_50 : decode cX8_limb 50 = .ok (.getfield 75, 3) := by decide +kernel
theorem dX8_limb_53 : decode cX8_limb 53 = .ok (.bipush 32, 2) := by decide +kernel
theorem dX8_limb_55 : decode cX8_limb 55 = .ok (.iload_n 3, 1) := by decide +kernel
theorem dX8_limb_56 : decode cX8_limb 56 = .ok (.imul, 1) := by decide +kernel
theorem dX8_limb_57 : decode cX8_limb 57 = .ok (.iload 7, 2) := by decide +kernel
theorem dX8_limb_59 : decode cX8_limb 59 = .ok (.iadd, 1) := by decide +kernel
theorem dX8_limb_60 : decode cX8_limb 60 = .ok (.invokestatic 149, 3) := by decide +kernel
theorem dX8_limb_63 : decode cX8_limb 63 = .ok (.lor, 1) := by decide +kernel
theorem dX8_limb_64 : decode cX8_limb 64 = .ok (.lstore 5, 2) := by decide +kernel
theorem dX8_limb_66 : decode cX8_limb 66 = .ok (.iinc 7 (-1), 3) := by decide +kernel
theorem dX8_limb_69 : decode cX8_limb 69 = .ok (.goto (-29), 3) := by decide +kernel
theorem dX8_limb_72 : decode cX8_limb 72 = .ok (.lload 5, 2) := by decide +kernel
theorem dX8_limb_74 : decode cX8_limb 74 = .ok (.lreturn, 1) := by decide +kernel
theorem dX8_digits_0 : decode cX8_digits 0 = .ok (.iload_n 1, 1) := by decide +kernel
theorem dX8_digits_1 : decode cX8_digits 1 = .ok (.invokestatic 211, 3) := by decide +kernel
theorem dX8_digits_4 : decode cX8_digits 4 = .ok (.ifCond .eq 13, 3) := by decide +kernel
theorem dX8_digits_7 : decode cX8_digits 7 = .ok (.iload_n 2, 1) := by decide +kernel
theorem dX8_digits_8 : decode cX8_digits 8 = .ok (.iconst 0, 1) := by decide +kernel
theorem dX8_digits_9 : decode cX8_digits 9 = .ok (.bipush 18, 2) := by decide +kernel
theorem dX8_digits_11 : decode cX8_digits 11 = .ok (.invokestatic 153, 3) := by decide +kernel
theorem dX8_digits_14 : decode cX8_digits 14 = .ok (.ifCond .ne 7, 3) := by decide +kernel
theorem dX8_digits_17 : decode cX8_digits 17 = .ok (.ldc2_w 261, 3) := by decide +kernel
theorem dX8_digits_20 : decode cX8_digits 20 = .ok (.lreturn, 1) := by decide +kernel
theorem dX8_digits_21 : decode cX8_digits 21 = .ok (.aload_n 0, 1) := by decide +kernel
theorem dX8_digits_22 : decode cX8_digits 22 = .ok (.getfield 31, 3) := by decide +kernel
theorem dX8_digits_25 : decode cX8_digits 25 = .ok (.iload_n 1, 1) := by decide +kernel
theorem dX8_digits_26 : decode cX8_digits 26 = .ok (.baload, 1) := by decide +kernel
theorem dX8_digits_27 : decode cX8_digits 27 = .ok (.ifCond .ne 7, 3) := by decide +kernel
theorem dX8_digits_30 : decode cX8_digits 30 = .ok (.ldc2_w 263, 3) := by decide +kernel
theorem dX8_digits_33 : decode cX8_digits 33 = .ok (.lreturn, 1) := by decide +kernel
theorem dX8_digits_34 : decode cX8_digits 34 = .ok (.aload_n 0, 1) := by decide +kernel
theorem dX8_digits_35 : decode cX8_digits 35 = .ok (.iload_n 1, 1) := by decide +kernel
theorem dX8_digits_36 : decode cX8_digits 36 = .ok (.invokevirtual 246, 3) := by decide +kernel
theorem dX8_digits_39 : decode cX8_digits 39 = .ok (.aload_n 0, 1) := by decide +kernel
theorem dX8_digits_40 : decode cX8_digits 40 = .ok (.aload_n 0, 1) := by decide +kernel
theorem dX8_digits_41 : decode cX8_digits 41 = .ok (.getfield 41, 3) := by decide +kernel
theorem dX8_digits_44 : decode cX8_digits 44 = .ok (.ldc2_w 265, 3) := by decide +kernel
theorem dX8_digits_47 : decode cX8_digits 47 = .ok (.iload_n 2, 1) := by decide +kernel
theorem dX8_digits_48 : decode cX8_digits 48 = .ok (.invokevirtual 198, 3) := by decide +kernel
theorem dX8_digits_51 : decode cX8_digits 51 = .ok (.aload_n 0, 1) := by decide +kernel
theorem dX8_digits_52 : decode cX8_digits 52 = .ok (.aload_n 0, 1) := by decide +kernel
theorem dX8_digits_53 : decode cX8_digits 53 = .ok (.getfield 41, 3) := by decide +kernel
theorem dX8_digits_56 : decode cX8_digits 56 = .ok (.aload_n 0, 1) := by decide +kernel
theorem dX8_digits_57 : decode cX8_digits 57 = .ok (.getfield 44, 3) := by decide +kernel
theorem dX8_digits_60 : decode cX8_digits 60 = .ok (.invokevirtual 160, 3) := by decide +kernel
theorem dX8_digits_63 : decode cX8_digits 63 = .ok (.aload_n 0, 1) := by decide +kernel
theorem dX8_digits_64 : decode cX8_digits 64 = .ok (.getfield 19, 3) := by decide +kernel
theorem dX8_digits_67 : decode cX8_digits 67 = .ok (.invokestatic 146, 3) := by decide +kernel
theorem dX8_digits_70 : decode cX8_digits 70 = .ok (.bipush 63, 2) := by decide +kernel
theorem dX8_digits_72 : decode cX8_digits 72 = .ok (.if_icmp .le 7, 3) := by decide +kernel
theorem dX8_digits_75 : decode cX8_digits 75 = .ok (.ldc2_w 267, 3) := by decide +kernel
theorem dX8_digits_78 : decode cX8_digits 78 = .ok (.lreturn, 1) := by decide +kernel
theorem dX8_digits_79 : decode cX8_digits 79 = .ok (.aload_n 0, 1) := by decide +kernel
theorem dX8_digits_80 : decode cX8_digits 80 = .ok (.getfield 19, 3) := by decide +kernel
theorem dX8_digits_83 : decode cX8_digits 83 = .ok (.iconst 2, 1) := by decide +kernel
theorem dX8_digits_84 : decode cX8_digits 84 = .ok (.laload, 1) := by decide +kernel
theorem dX8_digits_85 : decode cX8_digits 85 = .ok (.bipush 56, 2) := by decide +kernel
theorem dX8_digits_87 : decode cX8_digits 87 = .ok (.lshl, 1) := by decide +kernel
theorem dX8_digits_88 : decode cX8_digits 88 = .ok (.aload_n 0, 1) := by decide +kernel
theorem dX8_digits_89 : decode cX8_digits 89 = .ok (.getfield 19, 3) := by decide +kernel
theorem dX8_digits_92 : decode cX8_digits 92 = .ok (.iconst 1, 1) := by decide +kernel
theorem dX8_digits_93 : decode cX8_digits 93 = .ok (.laload, 1) := by decide +kernel
theorem dX8_digits_94 : decode cX8_digits 94 = .ok (.bipush 28, 2) := by decide +kernel
theorem dX8_digits_96 : decode cX8_digits 96 = .ok (.lshl, 1) := by decide +kernel
theorem dX8_digits_97 : decode cX8_digits 97 = .ok (.lor, 1) := by decide +kernel
theorem dX8_digits_98 : decode cX8_digits 98 = .ok (.aload_n 0, 1) := by decide +kernel
theorem dX8_digits_99 : decode cX8_digits 99 = .ok (.getfield 19, 3) := by decide +kernel
theorem dX8_digits_102 : decode cX8_digits 102 = .ok (.iconst 0, 1) := by decide +kernel
theorem dX8_digits_103 : decode cX8_digits 103 = .ok (.laload, 1) := by decide +kernel
theorem dX8_digits_104 : decode cX8_digits 104 = .ok (.lor, 1) := by decide +kernel
theorem dX8_digits_105 : decode cX8_digits 105 = .ok (.lreturn, 1) := by decide +kernel
theorem dX8_free_0 : decode cX8_free 0 = .ok (.iload_n 1, 1) := by decide +kernel
theorem dX8_free_1 : decode cX8_free 1 = .ok (.invokestatic 211, 3) := by decide +kernel
theorem dX8_free_4 : decode cX8_free 4 = .ok (.ifCond .ne 5, 3) := by decide +kernel
theorem dX8_free_7 : decode cX8_free 7 = .ok (.iconst (-1), 1) := by decide +kernel
theorem dX8_free_8 : decode cX8_free 8 = .ok (.ireturn, 1) := by decide +kernel
theorem dX8_free_9 : decode cX8_free 9 = .ok (.aload_n 0, 1) := by decide +kernel
theorem dX8_free_10 : decode cX8_free 10 = .ok (.getfield 31, 3) := by decide +kernel
theorem dX8_free_13 : decode cX8_free 13 = .ok (.iload_n 1, 1) := by decide +kernel
theorem dX8_free_14 : decode cX8_free 14 = .ok (.baload, 1) := by decide +kernel
theorem dX8_free_15 : decode cX8_free 15 = .ok (.ifCond .eq 7, 3) := by decide +kernel
theorem dX8_free_18 : decode cX8_free 18 = .ok (.iconst 1, 1) := by decide +kernel
theorem dX8_free_19 : decode cX8_free 19 = .ok (.goto 4, 3) := by decide +kernel
theorem dX8_free_22 : decode cX8_free 22 = .ok (.iconst 0, 1) := by decide +kernel
theorem dX8_free_23 : decode cX8_free 23 = .ok (.istore_n 2, 1) := by decide +kernel
theorem dX8_free_24 : decode cX8_free 24 = .ok (.aload_n 0, 1) := by decide +kernel
theorem dX8_free_25 : decode cX8_free 25 = .ok (.getfield 31, 3) := by decide +kernel
theorem dX8_free_28 : decode cX8_free 28 = .ok (.iload_n 1, 1) := by decide +kernel
theorem dX8_free_29 : decode cX8_free 29 = .ok (.iconst 0, 1) := by decide +kernel
theorem dX8_free_30 : decode cX8_free 30 = .ok (.bastore, 1) := by decide +kernel
theorem dX8_free_31 : decode cX8_free 31 = .ok (.iload_n 2, 1) := by decide +kernel
theorem dX8_free_32 : decode cX8_free 32 = .ok (.ireturn, 1) := by decide +kernel
theorem dX8_coin_0 : decode cX8_coin 0 = .ok (.iload_n 2, 1) := by decide +kernel
theorem dX8_coin_1 : decode cX8_coin 1 = .ok (.iconst 1, 1) := by decide +kernel
theorem dX8_coin_2 : decode cX8_coin 2 = .ok (.bipush 60, 2) := by decide +kernel
theorem dX8_coin_4 : decode cX8_coin 4 = .ok (.invokestatic 153, 3) := by decide +kernel
theorem dX8_coin_7 : decode cX8_coin 7 = .ok (.ifCond .eq 12, 3) := by decide +kernel
theorem dX8_coin_10 : decode cX8_coin 10 = .ok (.iload_n 1, 1) := by decide +kernel
theorem dX8_coin_11 : decode cX8_coin 11 = .ok (.iconst 0, 1) := by decide +kernel
theorem dX8_coin_12 : decode cX8_coin 12 = .ok (.iload_n 2, 1) := by decide +kernel
theorem dX8_coin_13 : decode cX8_coin 13 = .ok (.invokestatic 153, 3) := by decide +kernel
theorem dX8_coin_16 : decode cX8_coin 16 = .ok (.ifCond .ne 5, 3) := by decide +kernel
theorem dX8_coin_19 : decode cX8_coin 19 = .ok (.iconst (-1), 1) := by decide +kernel
theorem dX8_coin_20 : decode cX8_coin 20 = .ok (.ireturn, 1) := by decide +kernel
theorem dX8_coin_21 : decode cX8_coin 21 = .ok (.aload_n 0, 1) := by decide +kernel
theorem dX8_coin_22 : decode cX8_coin 22 = .ok (.iload_n 1, 1) := by decide +kernel
theorem dX8_coin_23 : decode cX8_coin 23 = .ok (.putfield 105, 3) := by decide +kernel
theorem dX8_coin_26 : decode cX8_coin 26 = .ok (.aload_n 0, 1) := by decide +kernel
theorem dX8_coin_27 : decode cX8_coin 27 = .ok (.iload_n 2, 1) := by decide +kernel
theorem dX8_coin_28 : decode cX8_coin 28 = .ok (.putfield 109, 3) := by decide +kernel
theorem dX8_coin_31 : decode cX8_coin 31 = .ok (.iconst 1, 1) := by decide +kernel
theorem dX8_coin_32 : decode cX8_coin 32 = .ok (.ireturn, 1) := by decide +kernel
theorem dX8_isGood_0 : decode cX8_isGood 0 = .ok (.iload_n 1, 1) := by decide +kernel
theorem dX8_isGood_1 : decode cX8_isGood 1 = .ok (.iconst 1, 1) := by decide +kernel
theorem dX8_isGood_2 : decode cX8_isGood 2 = .ok (.if_icmp .ne 76, 3) := by decide +kernel
theorem dX8_isGood_5 : decode cX8_isGood 5 = .ok (.ldc2_w 269, 3) := by decide +kernel
theorem dX8_isGood_8 : decode cX8_isGood 8 = .ok (.aload_n 0, 1) := by decide +kernel
theorem dX8_isGood_9 : decode cX8_isGood 9 = .ok (.getfield 105, 3) := by decide +kernel
theorem dX8_isGood_12 : decode cX8_isGood 12 = .ok (.i2l, 1) := by decide +kernel
theorem dX8_isGood_13 : decode cX8_isGood 13 = .ok (.lmul, 1) := by decide +kernel
theorem dX8_isGood_14 : decode cX8_isGood 14 = .ok (.aload_n 0, 1) := by decide +kernel
theorem dX8_isGood_15 : decode cX8_isGood 15 = .ok (.getfield 109, 3) := by decide +kernel
theorem dX8_isGood_18 : decode cX8_isGood 18 = .ok (.aload_n 0, 1) := by decide +kernel
theorem dX8_isGood_19 : decode cX8_isGood 19 = .ok (.getfield 105, 3) := by decide +kernel
theorem dX8_isGood_22 : decode cX8_isGood 22 = .ok (.isub, 1) := by decide +kernel
theorem dX8_isGood_23 : decode cX8_isGood 23 = .ok (.i2l, 1) := by decide +kernel
theorem dX8_isGood_24 : decode cX8_isGood 24 = .ok (.lmul, 1) := by decide +kernel
theorem dX8_isGood_25 : decode cX8_isGood 25 = .ok (.lstore 6, 2) := by decide +kernel
theorem dX8_isGood_27 : decode cX8_isGood 27 = .ok (.iload_n 2, 1) := by decide +kernel
theorem dX8_isGood_28 : decode cX8_isGood 28 = .ok (.i2l, 1) := by decide +kernel
theorem dX8_isGood_29 : decode cX8_isGood 29 = .ok (.aload_n 0, 1) := by decide +kernel
theorem dX8_isGood_30 : decode cX8_isGood 30 = .ok (.getfield 109, 3) := by decide +kernel
theorem dX8_isGood_33 : decode cX8_isGood 33 = .ok (.i2l, 1) := by decide +kernel
theorem dX8_isGood_34 : decode cX8_isGood 34 = .ok (.lmul, 1) := by decide +kernel
theorem dX8_isGood_35 : decode cX8_isGood 35 = .ok (.aload_n 0, 1) := by decide +kernel
theorem dX8_isGood_36 : decode cX8_isGood 36 = .ok (.getfield 109, 3) := by decide +kernel
theorem dX8_isGood_39 : decode cX8_isGood 39 = .ok (.i2l, 1) := by decide +kernel
theorem dX8_isGood_40 : decode cX8_isGood 40 = .ok (.lmul, 1) := by decide +kernel
theorem dX8_isGood_41 : decode cX8_isGood 41 = .ok (.iload_n 3, 1) := by decide +kernel
theorem dX8_isGood_42 : decode cX8_isGood 42 = .ok (.i2l, 1) := by decide +kernel
theorem dX8_isGood_43 : decode cX8_isGood 43 = .ok (.lmul, 1) := by decide +kernel
theorem dX8_isGood_44 : decode cX8_isGood 44 = .ok (.iload_n 3, 1) := by decide +kernel
theorem dX8_isGood_45 : decode cX8_isGood 45 = .ok (.i2l, 1) := by decide +kernel
theorem dX8_isGood_46 : decode cX8_isGood 46 = .ok (.lmul, 1) := by decide +kernel
theorem dX8_isGood_47 : decode cX8_isGood 47 = .ok (.lstore 8, 2) := by decide +kernel
theorem dX8_isGood_49 : decode cX8_isGood 49 = .ok (.iload 4, 2) := by decide +kernel
theorem dX8_isGood_51 : decode cX8_isGood 51 = .ok (.iload 5, 2) := by decide +kernel
theorem dX8_isGood_53 : decode cX8_isGood 53 = .ok (.if_icmp .ge 19, 3) := by decide +kernel
theorem dX8_isGood_56 : decode cX8_isGood 56 = .ok (.lload 6, 2) := by decide +kernel
theorem dX8_isGood_58 : decode cX8_isGood 58 = .ok (.iload 5, 2) := by decide +kernel
theorem dX8_isGood_60 : decode cX8_isGood 60 = .ok (.i2l, 1) := by decide +kernel
theorem dX8_isGood_61 : decode cX8_isGood 61 = .ok (.lmul, 1) := by decide +kernel
theorem dX8_isGood_62 : decode cX8_isGood 62 = .ok (.lload 8, 2) := by decide +kernel
theorem dX8_isGood_64 : decode cX8_isGood 64 = .ok (.iload 4, 2) := by decide +kernel
theorem dX8_isGood_66 : decode cX8_isGood 66 = .ok (.i2l, 1) := by decide +kernel
theorem dX8_isGood_67 : decode cX8_isGood 67 = .ok (.lmul, 1) := by decide +kernel
theorem dX8_isGood_68 : decode cX8_isGood 68 = .ok (.lcmp, 1) := by decide +kernel
theorem dX8_isGood_69 : decode cX8_isGood 69 = .ok (.ifCond .gt 7, 3) := by decide +kernel
theorem dX8_isGood_72 : decode cX8_isGood 72 = .ok (.iconst 1, 1) := by decide +kernel
theorem dX8_isGood_73 : decode cX8_isGood 73 = .ok (.goto 4, 3) := by decide +kernel
theorem dX8_isGood_76 : decode cX8_isGood 76 = .ok (.iconst 0, 1) := by decide +kernel
theorem dX8_isGood_77 : decode cX8_isGood 77 = .ok (.ireturn, 1) := by decide +kernel
theorem dX8_isGood_78 : decode cX8_isGood 78 = .ok (.aload_n 0, 1) := by decide +kernel
theorem dX8_isGood_79 : decode cX8_isGood 79 = .ok (.getfield 84, 3) := by decide +kernel
theorem dX8_isGood_82 : decode cX8_isGood 82 = .ok (.lconst 0, 1) := by decide +kernel
theorem dX8_isGood_83 : decode cX8_isGood 83 = .ok (.invokestatic 124, 3) := by decide +kernel
theorem dX8_isGood_86 : decode cX8_isGood 86 = .ok (.iconst 0, 1) := by decide +kernel
theorem dX8_isGood_87 : decode cX8_isGood 87 = .ok (.istore 6, 2) := by decide +kernel
theorem dX8_isGood_89 : decode cX8_isGood 89 = .ok (.iload 6, 2) := by decide +kernel
theorem dX8_isGood_91 : decode cX8_isGood 91 = .ok (.iload_n 2, 1) := by decide +kernel
theorem dX8_isGood_92 : decode cX8_isGood 92 = .ok (.if_icmp .gt 117, 3) := by decide +kernel
theorem dX8_isGood_95 : decode cX8_isGood 95 = .ok (.iload 6, 2) := by decide +kernel
theorem dX8_isGood_97 : decode cX8_isGood 97 = .ok (.aload_n 0, 1) := by decide +kernel
theorem dX8_isGood_98 : decode cX8_isGood 98 = .ok (.getfield 109, 3) := by decide +kernel
theorem dX8_isGood_101 : decode cX8_isGood 101 = .ok (.imul, 1) := by decide +kernel
theorem dX8_isGood_102 : decode cX8_isGood 102 = .ok (.aload_n 0, 1) := by decide +kernel
theorem dX8_isGood_103 : decode cX8_isGood 103 = .ok (.getfield 105, 3) := by decide +kernel
theorem dX8_isGood_106 : decode cX8_isGood 106 = .ok (.iload_n 2, 1) := by decide +kernel
theorem dX8_isGood_107 : decode cX8_isGood 107 = .ok (.imul, 1) := by decide +kernel
theorem dX8_isGood_108 : decode cX8_isGood 108 = .ok (.isub, 1) := by decide +kernel
theorem dX8_isGood_109 : decode cX8_isGood 109 = .ok (.istore 7, 2) := by decide +kernel
theorem dX8_isGood_111 : decode cX8_isGood 111 = .ok (.iload 7, 2) := by decide +kernel
theorem dX8_isGood_113 : decode cX8_isGood 113 = .ok (.ifCond .ge 9, 3) := by decide +kernel
theorem dX8_isGood_116 : decode cX8_isGood 116 = .ok (.iload 7, 2) := by decide +kernel
theorem dX8_isGood_118 : decode cX8_isGood 118 = .ok (.ineg, 1) := by decide +kernel
theorem dX8_isGood_119 : decode cX8_isGood 119 = .ok (.goto 5, 3) := by decide +kernel
theorem dX8_isGood_122 : decode cX8_isGood 122 = .ok (.iload 7, 2) := by decide +kernel
theorem dX8_isGood_124 : decode cX8_isGood 124 = .ok (.istore 7, 2) := by decide +kernel
theorem dX8_isGood_126 : decode cX8_isGood 126 = .ok (.bipush 100, 2) := by decide +kernel
theorem dX8_isGood_128 : decode cX8_isGood 128 = .ok (.iload 7, 2) := by decide +kernel
theorem dX8_isGood_130 : decode cX8_isGood 130 = .ok (.imul, 1) := by decide +kernel
theorem dX8_isGood_131 : decode cX8_isGood 131 = .ok (.iload_n 3, 1) := by decide +kernel
theorem dX8_isGood_132 : decode cX8_isGood 132 = .ok (.iload_n 2, 1) := by decide +kernel
theorem dX8_isGood_133 : decode cX8_isGood 133 = .ok (.imul, 1) := by decide +kernel
theorem dX8_isGood_134 : decode cX8_isGood 134 = .ok (.aload_n 0, 1) := by decide +kernel
theorem dX8_isGood_135 : decode cX8_isGood 135 = .ok (.getfield 109, 3) := by decide +kernel
theorem dX8_isGood_138 : decode cX8_isGood 138 = .ok (.imul, 1) := by decide +kernel
theorem dX8_isGood_139 : decode cX8_isGood 139 = .ok (.if_icmp .lt 64, 3) := by decide +kernel
theorem dX8_isGood_142 : decode cX8_isGood 142 = .ok (.aload_n 0, 1) := by decide +kernel
theorem dX8_isGood_143 : decode cX8_isGood 143 = .ok (.getfield 75, 3) := by decide +kernel
theorem dX8_isGood_146 : decode cX8_isGood 146 = .ok (.iload_n 2, 1) := by decide +kernel
theorem dX8_isGood_147 : decode cX8_isGood 147 = .ok (.iload 6, 2) := by decide +kernel
theorem dX8_isGood_149 : decode cX8_isGood 149 = .ok (.invokestatic 194, 3) := by decide +kernel
theorem dX8_isGood_152 : decode cX8_isGood 152 = .ok (.invokestatic 124, 3) := by decide +kernel
theorem dX8_isGood_155 : decode cX8_isGood 155 = .ok (.aload_n 0, 1) := by decide +kernel
theorem dX8_isGood_156 : decode cX8_isGood 156 = .ok (.aload_n 0, 1) := by decide +kernel
theorem dX8_isGood_157 : decode cX8_isGood 157 = .ok (.getfield 75, 3) := by decide +kernel
theorem dX8_isGood_160 : decode cX8_isGood 160 = .ok (.aload_n 0, 1) := by decide +kernel
theorem dX8_isGood_161 : decode cX8_isGood 161 = .ok (.getfield 105, 3) := by decide +kernel
theorem dX8_isGood_164 : decode cX8_isGood 164 = .ok (.i2l, 1) := by decide +kernel
theorem dX8_isGood_165 : decode cX8_isGood 165 = .ok (.iload 6, 2) := by decide +kernel
theorem dX8_isGood_167 : decode cX8_isGood 167 = .ok (.invokevirtual 198, 3) := by decide +kernel
theorem dX8_isGood_170 : decode cX8_isGood 170 = .ok (.aload_n 0, 1) := by decide +kernel
theorem dX8_isGood_171 : decode cX8_isGood 171 = .ok (.aload_n 0, 1) := by decide +kernel
theorem dX8_isGood_172 : decode cX8_isGood 172 = .ok (.getfield 75, 3) := by decide +kernel
theorem dX8_isGood_175 : decode cX8_isGood 175 = .ok (.aload_n 0, 1) := by decide +kernel
theorem dX8_isGood_176 : decode cX8_isGood 176 = .ok (.getfield 109, 3) := by decide +kernel
theorem dX8_isGood_179 : decode cX8_isGood 179 = .ok (.aload_n 0, 1) := by decide +kernel
theorem dX8_isGood_180 : decode cX8_isGood 180 = .ok (.getfield 105, 3) := by decide +kernel
theorem dX8_isGood_183 : decode cX8_isGood 183 = .ok (.isub, 1) := by decide +kernel
theorem dX8_isGood_184 : decode cX8_isGood 184 = .ok (.i2l, 1) := by decide +kernel
theorem dX8_isGood_185 : decode cX8_isGood 185 = .ok (.iload_n 2, 1) := by decide +kernel
theorem dX8_isGood_186 : decode cX8_isGood 186 = .ok (.iload 6, 2) := by decide +kernel
theorem dX8_isGood_188 : decode cX8_isGood 188 = .ok (.isub, 1) := by decide +kernel
theorem dX8_isGood_189 : decode cX8_isGood 189 = .ok (.invokevirtual 198, 3) := by decide +kernel
theorem dX8_isGood_192 : decode cX8_isGood 192 = .ok (.aload_n 0, 1) := by decide +kernel
theorem dX8_isGood_193 : decode cX8_isGood 193 = .ok (.getfield 84, 3) := by decide +kernel
theorem dX8_isGood_196 : decode cX8_isGood 196 = .ok (.aload_n 0, 1) := by decide +kernel
theorem dX8_isGood_197 : decode cX8_isGood 197 = .ok (.getfield 75, 3) := by decide +kernel
theorem dX8_isGood_200 : decode cX8_isGood 200 = .ok (.invokestatic 191, 3) := by decide +kernel
theorem dX8_isGood_203 : decode cX8_isGood 203 = .ok (.iinc 6 1, 3) := by decide +kernel
theorem dX8_isGood_206 : decode cX8_isGood 206 = .ok (.goto (-117), 3) := by decide +kernel
theorem dX8_isGood_209 : decode cX8_isGood 209 = .ok (.aload_n 0, 1) := by decide +kernel
theorem dX8_isGood_210 : decode cX8_isGood 210 = .ok (.getfield 84, 3) := by decide +kernel
theorem dX8_isGood_213 : decode cX8_isGood 213 = .ok (.iload 5, 2) := by decide +kernel
theorem dX8_isGood_215 : decode cX8_isGood 215 = .ok (.i2l, 1) := by decide +kernel
theorem dX8_isGood_216 : decode cX8_isGood 216 = .ok (.invokestatic 184, 3) := by decide +kernel
theorem dX8_isGood_219 : decode cX8_isGood 219 = .ok (.aload_n 0, 1) := by decide +kernel
theorem dX8_isGood_220 : decode cX8_isGood 220 = .ok (.getfield 75, 3) := by decide +kernel
theorem dX8_isGood_223 : decode cX8_isGood 223 = .ok (.iload 4, 2) := by decide +kernel
theorem dX8_isGood_225 : decode cX8_isGood 225 = .ok (.i2l, 1) := by decide +kernel
theorem dX8_isGood_226 : decode cX8_isGood 226 = .ok (.invokestatic 124, 3) := by decide +kernel
theorem dX8_isGood_229 : decode cX8_isGood 229 = .ok (.aload_n 0, 1) := by decide +kernel
theorem dX8_isGood_230 : decode cX8_isGood 230 = .ok (.aload_n 0, 1) := by decide +kernel
theorem dX8_isGood_231 : decode cX8_isGood 231 = .ok (.getfield 75, 3) := by decide +kernel
theorem dX8_isGood_234 : decode cX8_isGood 234 = .ok (.aload_n 0, 1) := by decide +kernel
theorem dX8_isGood_235 : decode cX8_isGood 235 = .ok (.getfield 109, 3) := by decide +kernel
theorem dX8_isGood_238 : decode cX8_isGood 238 = .ok (.i2l, 1) := by decide +kernel
theorem dX8_isGood_239 : decode cX8_isGood 239 = .ok (.iload_n 2, 1) := by decide +kernel
theorem dX8_isGood_240 : decode cX8_isGood 240 = .ok (.invokevirtual 198, 3) := by decide +kernel
theorem dX8_isGood_243 : decode cX8_isGood 243 = .ok (.aload_n 0, 1) := by decide +kernel
theorem dX8_isGood_244 : decode cX8_isGood 244 = .ok (.getfield 84, 3) := by decide +kernel
theorem dX8_isGood_247 : decode cX8_isGood 247 = .ok (.aload_n 0, 1) := by decide +kernel
theorem dX8_isGood_248 : decode cX8_isGood 248 = .ok (.getfield 75, 3) := by decide +kernel
theorem dX8_isGood_251 : decode cX8_isGood 251 = .ok (.invokestatic 136, 3) := by decide +kernel
theorem dX8_isGood_254 : decode cX8_isGood 254 = .ok (.ifCond .gt 7, 3) := by decide +kernel
theorem dX8_isGood_257 : decode cX8_isGood 257 = .ok (.iconst 1, 1) := by decide +kernel
theorem dX8_isGood_258 : decode cX8_isGood 258 = .ok (.goto 4, 3) := by decide +kernel
theorem dX8_isGood_261 : decode cX8_isGood 261 = .ok (.iconst 0, 1) := by decide +kernel
theorem dX8_isGood_262 : decode cX8_isGood 262 = .ok (.ireturn, 1) := by decide +kernel
theorem dX8_needed_0 : decode cX8_needed 0 = .ok (.iload_n 1, 1) := by decide +kernel
theorem dX8_needed_1 : decode cX8_needed 1 = .ok (.iconst 0, 1) := by decide +kernel
theorem dX8_needed_2 : decode cX8_needed 2 = .ok (.iconst 1, 1) := by decide +kernel
theorem dX8_needed_3 : decode cX8_needed 3 = .ok (.invokestatic 153, 3) := by decide +kernel
theorem dX8_needed_6 : decode cX8_needed 6 = .ok (.ifCond .eq 46, 3) := by decide +kernel
theorem dX8_needed_9 : decode cX8_needed 9 = .ok (.iload_n 2, 1) := by decide +kernel
theorem dX8_needed_10 : decode cX8_needed 10 = .ok (.iconst 1, 1) := by decide +kernel
theorem dX8_needed_11 : decode cX8_needed 11 = .ok (.bipush 100, 2) := by decide +kernel
theorem dX8_needed_13 : decode cX8_needed 13 = .ok (.invokestatic 153, 3) := by decide +kernel
theorem dX8_needed_16 : decode cX8_needed 16 = .ok (.ifCond .eq 36, 3) := by decide +kernel
theorem dX8_needed_19 : decode cX8_needed 19 = .ok (.iload_n 3, 1) := by decide +kernel
theorem dX8_needed_20 : decode cX8_needed 20 = .ok (.iconst 0, 1) := by decide +kernel
theorem dX8_needed_21 : decode cX8_needed 21 = .ok (.ldc_w 271, 3) := by decide +kernel
theorem dX8_needed_24 : decode cX8_needed 24 = .ok (.invokestatic 153, 3) := by decide +kernel
theorem dX8_needed_27 : decode cX8_needed 27 = .ok (.ifCond .eq 25, 3) := by decide +kernel
theorem dX8_needed_30 : decode cX8_needed 30 = .ok (.iload 4, 2) := by decide +kernel
theorem dX8_needed_32 : decode cX8_needed 32 = .ok (.iconst 1, 1) := by decide +kernel
theorem dX8_needed_33 : decode cX8_needed 33 = .ok (.ldc_w 271, 3) := by decide +kernel
theorem dX8_needed_36 : decode cX8_needed 36 = .ok (.invokestatic 153, 3) := by decide +kernel
theorem dX8_needed_39 : decode cX8_needed 39 = .ok (.ifCond .eq 13, 3) := by decide +kernel
theorem dX8_needed_42 : decode cX8_needed 42 = .ok (.iload 5, 2) := by decide +kernel
theorem dX8_needed_44 : decode cX8_needed 44 = .ok (.iconst 0, 1) := by decide +kernel
theorem dX8_needed_45 : decode cX8_needed 45 = .ok (.iconst 1, 1) := by decide +kernel
theorem dX8_needed_46 : decode cX8_needed 46 = .ok (.invokestatic 153, 3) := by decide +kernel
theorem dX8_needed_49 : decode cX8_needed 49 = .ok (.ifCond .ne 5, 3) := by decide +kernel
theorem dX8_needed_52 : decode cX8_needed 52 = .ok (.iconst (-1), 1) := by decide +kernel
theorem dX8_needed_53 : decode cX8_needed 53 = .ok (.ireturn, 1) := by decide +kernel
theorem dX8_needed_54 : decode cX8_needed 54 = .ok (.bipush (-5), 2) := by decide +kernel
theorem dX8_needed_56 : decode cX8_needed 56 = .ok (.istore 6, 2) := by decide +kernel
theorem dX8_needed_58 : decode cX8_needed 58 = .ok (.iload 5, 2) := by decide +kernel
theorem dX8_needed_60 : decode cX8_needed 60 = .ok (.ifCond .ne 45, 3) := by decide +kernel
theorem dX8_needed_63 : decode cX8_needed 63 = .ok (.bipush 40, 2) := by decide +kernel
theorem dX8_needed_65 : decode cX8_needed 65 = .ok (.istore 7, 2) := by decide +kernel
theorem dX8_needed_67 : decode cX8_needed 67 = .ok (.iload 7, 2) := by decide +kernel
theorem dX8_needed_69 : decode cX8_needed 69 = .ok (.iconst 1, 1) := by decide +kernel
theorem dX8_needed_70 : decode cX8_needed 70 = .ok (.if_icmp .lt 32, 3) := by decide +kernel
theorem dX8_needed_73 : decode cX8_needed 73 = .ok (.aload_n 0, 1) := by decide +kernel
theorem dX8_needed_74 : decode cX8_needed 74 = .ok (.iload_n 1, 1) := by decide +kernel
theorem dX8_needed_75 : decode cX8_needed 75 = .ok (.iload 7, 2) := by decide +kernel
theorem dX8_needed_77 : decode cX8_needed 77 = .ok (.iload_n 2, 1) := by decide +kernel
theorem dX8_needed_78 : decode cX8_needed 78 = .ok (.iload_n 3, 1) := by decide +kernel
theorem dX8_needed_79 : decode cX8_needed 79 = .ok (.iload 4, 2) := by decide +kernel
theorem dX8_needed_81 : decode cX8_needed 81 = .ok (.invokevirtual 272, 3) := by decide +kernel
theorem dX8_needed_84 : decode cX8_needed 84 = .ok (.ifCond .eq 8, 3) := by decide +kernel
theorem dX8_needed_87 : decode cX8_needed 87 = .ok (.iload 7, 2) := by decide +kernel
theorem dX8_needed_89 : decode cX8_needed 89 = .ok (.goto 5, 3) := by decide +kernel
theorem dX8_needed_92 : decode cX8_needed 92 = .ok (.iload 6, 2) := by decide +kernel
theorem dX8_needed_94 : decode cX8_needed 94 = .ok (.istore 6, 2) := by decide +kernel
theorem dX8_needed_96 : decode cX8_needed 96 = .ok (.iinc 7 (-1), 3) := by decide +kernel
theorem dX8_needed_99 : decode cX8_needed 99 = .ok (.goto (-32), 3) := by decide +kernel
theorem dX8_needed_102 : decode cX8_needed 102 = .ok (.iload 6, 2) := by decide +kernel
theorem dX8_needed_104 : decode cX8_needed 104 = .ok (.ireturn, 1) := by decide +kernel
theorem dX8_needed_105 : decode cX8_needed 105 = .ok (.bipush 40, 2) := by decide +kernel
theorem dX8_needed_107 : decode cX8_needed 107 = .ok (.istore 7, 2) := by decide +kernel
theorem dX8_needed_109 : decode cX8_needed 109 = .ok (.iload 7, 2) := by decide +kernel
theorem dX8_needed_111 : decode cX8_needed 111 = .ok (.iconst 1, 1) := by decide +kernel
theorem dX8_needed_112 : decode cX8_needed 112 = .ok (.if_icmp .lt 27, 3) := by decide +kernel
theorem dX8_needed_115 : decode cX8_needed 115 = .ok (.aload_n 0, 1) := by decide +kernel
theorem dX8_needed_116 : decode cX8_needed 116 = .ok (.iload_n 1, 1) := by decide +kernel
theorem dX8_needed_117 : decode cX8_needed 117 = .ok (.iload 7, 2) := by decide +kernel
theorem dX8_needed_119 : decode cX8_needed 119 = .ok (.iload_n 2, 1) := by decide +kernel
theorem dX8_needed_120 : decode cX8_needed 120 = .ok (.iload_n 3, 1) := by decide +kernel
theorem dX8_needed_121 : decode cX8_needed 121 = .ok (.iload 4, 2) := by decide +kernel
theorem dX8_needed_123 : decode cX8_needed 123 = .ok (.invokevirtual 272, 3) := by decide +kernel
theorem dX8_needed_126 : decode cX8_needed 126 = .ok (.ifCond .eq 13, 3) := by decide +kernel
theorem dX8_needed_129 : decode cX8_needed 129 = .ok (.iload 7, 2) := by decide +kernel
theorem dX8_needed_131 : decode cX8_needed 131 = .ok (.istore 6, 2) := by decide +kernel
theorem dX8_needed_133 : decode cX8_needed 133 = .ok (.iinc 7 (-1), 3) := by decide +kernel
theorem dX8_needed_136 : decode cX8_needed 136 = .ok (.goto (-27), 3) := by decide +kernel
theorem dX8_needed_139 : decode cX8_needed 139 = .ok (.iload 6, 2) := by decide +kernel
theorem dX8_needed_141 : decode cX8_needed 141 = .ok (.ireturn, 1) := by decide +kernel
theorem dX8_line_0 : decode cX8_line 0 = .ok (.iload_n 1, 1) := by decide +kernel
theorem dX8_line_1 : decode cX8_line 1 = .ok (.iconst 0, 1) := by decide +kernel
theorem dX8_line_2 : decode cX8_line 2 = .ok (.bipush 60, 2) := by decide +kernel
theorem dX8_line_4 : decode cX8_line 4 = .ok (.invokestatic 153, 3) := by decide +kernel
theorem dX8_line_7 : decode cX8_line 7 = .ok (.ifCond .eq 23, 3) := by decide +kernel
theorem dX8_line_10 : decode cX8_line 10 = .ok (.iload_n 2, 1) := by decide +kernel
theorem dX8_line_11 : decode cX8_line 11 = .ok (.iconst 0, 1) := by decide +kernel
theorem dX8_line_12 : decode cX8_line 12 = .ok (.bipush 60, 2) := by decide +kernel
theorem dX8_line_14 : decode cX8_line 14 = .ok (.invokestatic 153, 3) := by decide +kernel
theorem dX8_line_17 : decode cX8_line 17 = .ok (.ifCond .eq 13, 3) := by decide +kernel
theorem dX8_line_20 : decode cX8_line 20 = .ok (.iload_n 3, 1) := by decide +kernel
theorem dX8_line_21 : decode cX8_line 21 = .ok (.iconst 1, 1) := by decide +kernel
theorem dX8_line_22 : decode cX8_line 22 = .ok (.bipush 60, 2) := by decide +kernel
theorem dX8_line_24 : decode cX8_line 24 = .ok (.invokestatic 153, 3) := by decide +kernel
theorem dX8_line_27 : decode cX8_line 27 = .ok (.ifCond .ne 5, 3) := by decide +kernel
theorem dX8_line_30 : decode cX8_line 30 = .ok (.iconst (-1), 1) := by decide +kernel
theorem dX8_line_31 : decode cX8_line 31 = .ok (.ireturn, 1) := by decide +kernel
theorem dX8_line_32 : decode cX8_line 32 = .ok (.aload_n 0, 1) := by decide +kernel
theorem dX8_line_33 : decode cX8_line 33 = .ok (.iload_n 1, 1) := by decide +kernel
theorem dX8_line_34 : decode cX8_line 34 = .ok (.putfield 276, 3) := by decide +kernel
theorem dX8_line_37 : decode cX8_line 37 = .ok (.aload_n 0, 1) := by decide +kernel
theorem dX8_line_38 : decode cX8_line 38 = .ok (.iload_n 2, 1) := by decide +kernel
theorem dX8_line_39 : decode cX8_line 39 = .ok (.putfield 112, 3) := by decide +kernel
theorem dX8_line_42 : decode cX8_line 42 = .ok (.aload_n 0, 1) := by decide +kernel
theorem dX8_line_43 : decode cX8_line 43 = .ok (.iload_n 3, 1) := by decide +kernel
theorem dX8_line_44 : decode cX8_line 44 = .ok (.putfield 115, 3) := by decide +kernel
theorem dX8_line_47 : decode cX8_line 47 = .ok (.iconst 1, 1) := by decide +kernel
theorem dX8_line_48 : decode cX8_line 48 = .ok (.ireturn, 1) := by decide +kernel
theorem dX8_isCrossed_0 : decode cX8_isCrossed 0 = .ok (.aload_n 0, 1) := by decide +kernel
theorem dX8_isCrossed_1 : decode cX8_isCrossed 1 = .ok (.getfield 115, 3) := by decide +kernel
theorem dX8_isCrossed_4 : decode cX8_isCrossed 4 = .ok (.iload_n 2, 1) := by decide +kernel
theorem dX8_isCrossed_5 : decode cX8_isCrossed 5 = .ok (.imul, 1) := by decide +kernel
theorem dX8_isCrossed_6 : decode cX8_isCrossed 6 = .ok (.aload_n 0, 1) := by decide +kernel
theorem dX8_isCrossed_7 : decode cX8_isCrossed 7 = .ok (.getfield 115, 3) := by decide +kernel
theorem dX8_isCrossed_10 : decode cX8_isCrossed 10 = .ok (.aload_n 0, 1) := by decide +kernel
theorem dX8_isCrossed_11 : decode cX8_isCrossed 11 = .ok (.getfield 276, 3) := by decide +kernel
theorem dX8_isCrossed_14 : decode cX8_isCrossed 14 = .ok (.imul, 1) := by decide +kernel
theorem dX8_isCrossed_15 : decode cX8_isCrossed 15 = .ok (.aload_n 0, 1) := by decide +kernel
theorem dX8_isCrossed_16 : decode cX8_isCrossed 16 = .ok (.getfield 112, 3) := by decide +kernel
theorem dX8_isCrossed_19 : decode cX8_isCrossed 19 = .ok (.iload_n 1, 1) := by decide +kernel
theorem dX8_isCrossed_20 : decode cX8_isCrossed 20 = .ok (.imul, 1) := by decide +kernel
theorem dX8_isCrossed_21 : decode cX8_isCrossed 21 = .ok (.iadd, 1) := by decide +kernel
theorem dX8_isCrossed_22 : decode cX8_isCrossed 22 = .ok (.if_icmp .lt 7, 3) := by decide +kernel
theorem dX8_isCrossed_25 : decode cX8_isCrossed 25 = .ok (.iconst 1, 1) := by decide +kernel
theorem dX8_isCrossed_26 : decode cX8_isCrossed 26 = .ok (.goto 4, 3) := by decide +kernel
theorem dX8_isCrossed_29 : decode cX8_isCrossed 29 = .ok (.iconst 0, 1) := by decide +kernel
theorem dX8_isCrossed_30 : decode cX8_isCrossed 30 = .ok (.ireturn, 1) := by decide +kernel
theorem dX8_crossed_0 : decode cX8_crossed 0 = .ok (.iload_n 1, 1) := by decide +kernel
theorem dX8_crossed_1 : decode cX8_crossed 1 = .ok (.invokestatic 211, 3) := by decide +kernel
theorem dX8_crossed_4 : decode cX8_crossed 4 = .ok (.ifCond .eq 22, 3) := by decide +kernel
theorem dX8_crossed_7 : decode cX8_crossed 7 = .ok (.iload_n 2, 1) := by decide +kernel
theorem dX8_crossed_8 : decode cX8_crossed 8 = .ok (.iconst 0, 1) := by decide +kernel
theorem dX8_crossed_9 : decode cX8_crossed 9 = .ok (.iconst 2, 1) := by decide +kernel
theorem dX8_crossed_10 : decode cX8_crossed 10 = .ok (.invokestatic 153, 3) := by decide +kernel
theorem dX8_crossed_13 : decode cX8_crossed 13 = .ok (.ifCond .eq 13, 3) := by decide +kernel
theorem dX8_crossed_16 : decode cX8_crossed 16 = .ok (.iload_n 3, 1) := by decide +kernel
theorem dX8_crossed_17 : decode cX8_crossed 17 = .ok (.iconst 1, 1) := by decide +kernel
theorem dX8_crossed_18 : decode cX8_crossed 18 = .ok (.bipush 40, 2) := by decide +kernel
theorem dX8_crossed_20 : decode cX8_crossed 20 = .ok (.invokestatic 153, 3) := by decide +kernel
theorem dX8_crossed_23 : decode cX8_crossed 23 = .ok (.ifCond .ne 5, 3) := by decide +kernel
theorem dX8_crossed_26 : decode cX8_crossed 26 = .ok (.iconst (-1), 1) := by decide +kernel
theorem dX8_crossed_27 : decode cX8_crossed 27 = .ok (.ireturn, 1) := by decide +kernel
theorem dX8_crossed_28 : decode cX8_crossed 28 = .ok (.iconst 0, 1) := by decide +kernel
theorem dX8_crossed_29 : decode cX8_crossed 29 = .ok (.istore 4, 2) := by decide +kernel
theorem dX8_crossed_31 : decode cX8_crossed 31 = .ok (.iload 4, 2) := by decide +kernel
theorem dX8_crossed_33 : decode cX8_crossed 33 = .ok (.sipush 1210, 3) := by decide +kernel
theorem dX8_crossed_36 : decode cX8_crossed 36 = .ok (.if_icmp .ge 17, 3) := by decide +kernel
theorem dX8_crossed_39 : decode cX8_crossed 39 = .ok (.aload_n 0, 1) := by decide +kernel
theorem dX8_crossed_40 : decode cX8_crossed 40 = .ok (.getfield 87, 3) := by decide +kernel
theorem dX8_crossed_43 : decode cX8_crossed 43 = .ok (.iload 4, 2) := by decide +kernel
theorem dX8_crossed_45 : decode cX8_crossed 45 = .ok (.lconst 0, 1) := by decide +kernel
theorem dX8_crossed_46 : decode cX8_crossed 46 = .ok (.lastore, 1) := by decide +kernel
theorem dX8_crossed_47 : decode cX8_crossed 47 = .ok (.iinc 4 1, 3) := by decide +kernel
theorem dX8_crossed_50 : decode cX8_crossed 50 = .ok (.goto (-19), 3) := by decide +kernel
theorem dX8_crossed_53 : decode cX8_crossed 53 = .ok (.aload_n 0, 1) := by decide +kernel
theorem dX8_crossed_54 : decode cX8_crossed 54 = .ok (.getfield 87, 3) := by decide +kernel
theorem dX8_crossed_57 : decode cX8_crossed 57 = .ok (.iconst 0, 1) := by decide +kernel
theorem dX8_crossed_58 : decode cX8_crossed 58 = .ok (.lconst 1, 1) := by decide +kernel
theorem dX8_crossed_59 : decode cX8_crossed 59 = .ok (.lastore, 1) := by decide +kernel
theorem dX8_crossed_60 : decode cX8_crossed 60 = .ok (.aload_n 0, 1) := by decide +kernel
theorem dX8_crossed_61 : decode cX8_crossed 61 = .ok (.getfield 96, 3) := by decide +kernel
theorem dX8_crossed_64 : decode cX8_crossed 64 = .ok (.lconst 0, 1) := by decide +kernel
theorem dX8_crossed_65 : decode cX8_crossed 65 = .ok (.invokestatic 124, 3) := by decide +kernel
theorem dX8_crossed_68 : decode cX8_crossed 68 = .ok (.aload_n 0, 1) := by decide +kernel
theorem dX8_crossed_69 : decode cX8_crossed 69 = .ok (.getfield 56, 3) := by decide +kernel
theorem dX8_crossed_72 : decode cX8_crossed 72 = .ok (.lconst 0, 1) := by decide +kernel
theorem dX8_crossed_73 : decode cX8_crossed 73 = .ok (.invokestatic 124, 3) := by decide +kernel
theorem dX8_crossed_76 : decode cX8_crossed 76 = .ok (.iconst 1, 1) := by decide +kernel
theorem dX8_crossed_77 : decode cX8_crossed 77 = .ok (.istore 4, 2) := by decide +kernel
theorem dX8_crossed_79 : decode cX8_crossed 79 = .ok (.iload 4, 2) := by decide +kernel
theorem dX8_crossed_81 : decode cX8_crossed 81 = .ok (.iload_n 3, 1) := by decide +kernel
theorem dX8_crossed_82 : decode cX8_crossed 82 = .ok (.if_icmp .gt 191, 3) := by decide +kernel
theorem dX8_crossed_85 : decode cX8_crossed 85 = .ok (.aload_n 0, 1) := by decide +kernel
theorem dX8_crossed_86 : decode cX8_crossed 86 = .ok (.getfield 56, 3) := by decide +kernel
theorem dX8_crossed_89 : decode cX8_crossed 89 = .ok (.aload_n 0, 1) := by decide +kernel
theorem dX8_crossed_90 : decode cX8_crossed 90 = .ok (.getfield 109, 3) := by decide +kernel
theorem dX8_crossed_93 : decode cX8_crossed 93 = .ok (.i2l, 1) := by decide +kernel
theorem dX8_crossed_94 : decode cX8_crossed 94 = .ok (.invokestatic 184, 3) := by decide +kernel
theorem dX8_crossed_97 : decode cX8_crossed 97 = .ok (.aload_n 0, 1) := by decide +kernel
theorem dX8_crossed_98 : decode cX8_crossed 98 = .ok (.getfield 53, 3) := by decide +kernel
theorem dX8_crossed_101 : decode cX8_crossed 101 = .ok (.lconst 0, 1) := by decide +kernel
theorem dX8_crossed_102 : decode cX8_crossed 102 = .ok (.invokestatic 124, 3) := by decide +kernel
theorem dX8_crossed_105 : decode cX8_crossed 105 = .ok (.iload 4, 2) := by decide +kernel
theorem dX8_crossed_107 : decode cX8_crossed 107 = .ok (.istore 5, 2) := by decide +kernel
theorem dX8_crossed_109 : decode cX8_crossed 109 = .ok (.iload 5, 2) := by decide +kernel
theorem dX8_crossed_111 : decode cX8_crossed 111 = .ok (.ifCond .lt 145, 3) := by decide +kernel
theorem dX8_crossed_114 : decode cX8_crossed 114 = .ok (.aload_n 0, 1) := by decide +kernel
theorem dX8_crossed_115 : decode cX8_crossed 115 = .ok (.getfield 75, 3) := by decide +kernel
theorem dX8_crossed_118 : decode cX8_crossed 118 = .ok (.aload_n 0, 1) := by decide +kernel
theorem dX8_crossed_119 : decode cX8_crossed 119 = .ok (.getfield 87, 3) := by decide +kernel
theorem dX8_crossed_122 : decode cX8_crossed 122 = .ok (.bipush 10, 2) := by decide +kernel
theorem dX8_crossed_124 : decode cX8_crossed 124 = .ok (.iload 5, 2) := by decide +kernel
theorem dX8_crossed_126 : decode cX8_crossed 126 = .ok (.imul, 1) := by decide +kernel
theorem dX8_crossed_127 : decode cX8_crossed 127 = .ok (.bipush 10, 2) := by decide +kernel
theorem dX8_crossed_129 : decode cX8_crossed 129 = .ok (.invokestatic 170, 3) := by decide +kernel
theorem dX8_crossed_132 : decode cX8_crossed 132 = .ok (.aload_n 0, 1) := by decide +kernel
theorem dX8_crossed_133 : decode cX8_crossed 133 = .ok (.getfield 75, 3) := by decide +kernel
theorem dX8_crossed_136 : decode cX8_crossed 136 = .ok (.aload_n 0, 1) := by decide +kernel
theorem dX8_crossed_137 : decode cX8_crossed 137 = .ok (.getfield 109, 3) := by decide +kernel
theorem dX8_crossed_140 : decode cX8_crossed 140 = .ok (.aload_n 0, 1) := by decide +kernel
theorem dX8_crossed_141 : decode cX8_crossed 141 = .ok (.getfield 105, 3) := by decide +kernel
theorem dX8_crossed_144 : decode cX8_crossed 144 = .ok (.isub, 1) := by decide +kernel
theorem dX8_crossed_145 : decode cX8_crossed 145 = .ok (.i2l, 1) := by decide +kernel
theorem dX8_crossed_146 : decode cX8_crossed 146 = .ok (.invokestatic 184, 3) := by decide +kernel
theorem dX8_crossed_149 : decode cX8_crossed 149 = .ok (.iload 5, 2) := by decide +kernel
theorem dX8_crossed_151 : decode cX8_crossed 151 = .ok (.ifCond .le 46, 3) := by decide +kernel
theorem dX8_crossed_154 : decode cX8_crossed 154 = .ok (.aload_n 0, 1) := by decide +kernel
theorem dX8_crossed_155 : decode cX8_crossed 155 = .ok (.getfield 78, 3) := by decide +kernel
theorem dX8_crossed_158 : decode cX8_crossed 158 = .ok (.aload_n 0, 1) := by decide +kernel
theorem dX8_crossed_159 : decode cX8_crossed 159 = .ok (.getfield 87, 3) := by decide +kernel
theorem dX8_crossed_162 : decode cX8_crossed 162 = .ok (.bipush 10, 2) := by decide +kernel
theorem dX8_crossed_164 : decode cX8_crossed 164 = .ok (.iload 5, 2) := by decide +kernel
theorem dX8_crossed_166 : decode cX8_crossed 166 = .ok (.iconst 1, 1) := by decide +kernel
theorem dX8_crossed_167 : decode cX8_crossed 167 = .ok (.isub, 1) := by decide +kernel
theorem dX8_crossed_168 : decode cX8_crossed 168 = .ok (.imul, 1) := by decide +kernel
theorem dX8_crossed_169 : decode cX8_crossed 169 = .ok (.bipush 10, 2) := by decide +kernel
theorem dX8_crossed_171 : decode cX8_crossed 171 = .ok (.invokestatic 170, 3) := by decide +kernel
theorem dX8_crossed_174 : decode cX8_crossed 174 = .ok (.aload_n 0, 1) := by decide +kernel
theorem dX8_crossed_175 : decode cX8_crossed 175 = .ok (.getfield 78, 3) := by decide +kernel
theorem dX8_crossed_178 : decode cX8_crossed 178 = .ok (.aload_n 0, 1) := by decide +kernel
theorem dX8_crossed_179 : decode cX8_crossed 179 = .ok (.getfield 105, 3) := by decide +kernel
theorem dX8_crossed_182 : decode cX8_crossed 182 = .ok (.i2l, 1) := by decide +kernel
theorem dX8_crossed_183 : decode cX8_crossed 183 = .ok (.invokestatic 184, 3) := by decide +kernel
theorem dX8_crossed_186 : decode cX8_crossed 186 = .ok (.aload_n 0, 1) := by decide +kernel
theorem dX8_crossed_187 : decode cX8_crossed 187 = .ok (.getfield 75, 3) := by decide +kernel
theorem dX8_crossed_190 : decode cX8_crossed 190 = .ok (.aload_n 0, 1) := by decide +kernel
theorem dX8_crossed_191 : decode cX8_crossed 191 = .ok (.getfield 78, 3) := by decide +kernel
theorem dX8_crossed_194 : decode cX8_crossed 194 = .ok (.invokestatic 191, 3) := by decide +kernel
theorem dX8_crossed_197 : decode cX8_crossed 197 = .ok (.aload_n 0, 1) := by decide +kernel
theorem dX8_crossed_198 : decode cX8_crossed 198 = .ok (.iload 4, 2) := by decide +kernel
theorem dX8_crossed_200 : decode cX8_crossed 200 = .ok (.iload 5, 2) := by decide +kernel
theorem dX8_crossed_202 : decode cX8_crossed 202 = .ok (.invokevirtual 279, 3) := by decide +kernel
theorem dX8_crossed_205 : decode cX8_crossed 205 = .ok (.ifCond .eq 27, 3) := by decide +kernel
theorem dX8_crossed_208 : decode cX8_crossed 208 = .ok (.aload_n 0, 1) := by decide +kernel
theorem dX8_crossed_209 : decode cX8_crossed 209 = .ok (.getfield 53, 3) := by decide +kernel
theorem dX8_crossed_212 : decode cX8_crossed 212 = .ok (.aload_n 0, 1) := by decide +kernel
theorem dX8_crossed_213 : decode cX8_crossed 213 = .ok (.getfield 75, 3) := by decide +kernel
theorem dX8_crossed_216 : decode cX8_crossed 216 = .ok (.invokestatic 191, 3) := by decide +kernel
theorem dX8_crossed_219 : decode cX8_crossed 219 = .ok (.iload_n 2, 1) := by decide +kernel
theorem dX8_crossed_220 : decode cX8_crossed 220 = .ok (.iconst 2, 1) := by decide +kernel
theorem dX8_crossed_221 : decode cX8_crossed 221 = .ok (.if_icmp .ge 11, 3) := by decide +kernel
theorem dX8_crossed_224 : decode cX8_crossed 224 = .ok (.aload_n 0, 1) := by decide +kernel
theorem dX8_crossed_225 : decode cX8_crossed 225 = .ok (.getfield 75, 3) := by decide +kernel
theorem dX8_crossed_228 : decode cX8_crossed 228 = .ok (.lconst 0, 1) := by decide +kernel
theorem dX8_crossed_229 : decode cX8_crossed 229 = .ok (.invokestatic 124, 3) := by decide +kernel
theorem dX8_crossed_232 : decode cX8_crossed 232 = .ok (.aload_n 0, 1) := by decide +kernel
theorem dX8_crossed_233 : decode cX8_crossed 233 = .ok (.getfield 87, 3) := by decide +kernel
theorem dX8_crossed_236 : decode cX8_crossed 236 = .ok (.bipush 10, 2) := by decide +kernel
theorem dX8_crossed_238 : decode cX8_crossed 238 = .ok (.iload 5, 2) := by decide +kernel
theorem dX8_crossed_240 : decode cX8_crossed 240 = .ok (.imul, 1) := by decide +kernel
theorem dX8_crossed_241 : decode cX8_crossed 241 = .ok (.bipush 10, 2) := by decide +kernel
theorem dX8_crossed_243 : decode cX8_crossed 243 = .ok (.aload_n 0, 1) := by decide +kernel
theorem dX8_crossed_244 : decode cX8_crossed 244 = .ok (.getfield 75, 3) := by decide +kernel
theorem dX8_crossed_247 : decode cX8_crossed 247 = .ok (.invokestatic 166, 3) := by decide +kernel
theorem dX8_crossed_250 : decode cX8_crossed 250 = .ok (.iinc 5 (-1), 3) := by decide +kernel
theorem dX8_crossed_253 : decode cX8_crossed 253 = .ok (.goto (-144), 3) := by decide +kernel
theorem dX8_crossed_256 : decode cX8_crossed 256 = .ok (.aload_n 0, 1) := by decide +kernel
theorem dX8_crossed_257 : decode cX8_crossed 257 = .ok (.getfield 56, 3) := by decide +kernel
theorem dX8_crossed_260 : decode cX8_crossed 260 = .ok (.aload_n 0, 1) := by decide +kernel
theorem dX8_crossed_261 : decode cX8_crossed 261 = .ok (.getfield 53, 3) := by decide +kernel
theorem dX8_crossed_264 : decode cX8_crossed 264 = .ok (.invokestatic 191, 3) := by decide +kernel
theorem dX8_crossed_267 : decode cX8_crossed 267 = .ok (.iinc 4 1, 3) := by decide +kernel
theorem dX8_crossed_270 : decode cX8_crossed 270 = .ok (.goto (-191), 3) := by decide +kernel
theorem dX8_crossed_273 : decode cX8_crossed 273 = .ok (.aload_n 0, 1) := by decide +kernel
theorem dX8_crossed_274 : decode cX8_crossed 274 = .ok (.getfield 35, 3) := by decide +kernel
theorem dX8_crossed_277 : decode cX8_crossed 277 = .ok (.iload_n 2, 1) := by decide +kernel
theorem dX8_crossed_278 : decode cX8_crossed 278 = .ok (.iconst 1, 1) := by decide +kernel
theorem dX8_crossed_279 : decode cX8_crossed 279 = .ok (.if_icmp .ne 10, 3) := by decide +kernel
theorem dX8_crossed_282 : decode cX8_crossed 282 = .ok (.aload_n 0, 1) := by decide +kernel
theorem dX8_crossed_283 : decode cX8_crossed 283 = .ok (.getfield 53, 3) := by decide +kernel
theorem dX8_crossed_286 : decode cX8_crossed 286 = .ok (.goto 7, 3) := by decide +kernel
theorem dX8_crossed_289 : decode cX8_crossed 289 = .ok (.aload_n 0, 1) := by decide +kernel
theorem dX8_crossed_290 : decode cX8_crossed 290 = .ok (.getfield 56, 3) := by decide +kernel
theorem dX8_crossed_293 : decode cX8_crossed 293 = .ok (.invokestatic 128, 3) := by decide +kernel
theorem dX8_crossed_296 : decode cX8_crossed 296 = .ok (.aload_n 0, 1) := by decide +kernel
theorem dX8_crossed_297 : decode cX8_crossed 297 = .ok (.getfield 38, 3) := by decide +kernel
theorem dX8_crossed_300 : decode cX8_crossed 300 = .ok (.lconst 1, 1) := by decide +kernel
theorem dX8_crossed_301 : decode cX8_crossed 301 = .ok (.invokestatic 124, 3) := by decide +kernel
theorem dX8_crossed_304 : decode cX8_crossed 304 = .ok (.aload_n 0, 1) := by decide +kernel
theorem dX8_crossed_305 : decode cX8_crossed 305 = .ok (.aload_n 0, 1) := by decide +kernel
theorem dX8_crossed_306 : decode cX8_crossed 306 = .ok (.getfield 38, 3) := by decide +kernel
theorem dX8_crossed_309 : decode cX8_crossed 309 = .ok (.aload_n 0, 1) := by decide +kernel
theorem dX8_crossed_310 : decode cX8_crossed 310 = .ok (.getfield 109, 3) := by decide +kernel
theorem dX8_crossed_313 : decode cX8_crossed 313 = .ok (.i2l, 1) := by decide +kernel
theorem dX8_crossed_314 : decode cX8_crossed 314 = .ok (.iload_n 3, 1) := by decide +kernel
theorem dX8_crossed_315 : decode cX8_crossed 315 = .ok (.invokevirtual 198, 3) := by decide +kernel
theorem dX8_crossed_318 : decode cX8_crossed 318 = .ok (.aload_n 0, 1) := by decide +kernel
theorem dX8_crossed_319 : decode cX8_crossed 319 = .ok (.getfield 35, 3) := by decide +kernel
theorem dX8_crossed_322 : decode cX8_crossed 322 = .ok (.aload_n 0, 1) := by decide +kernel
theorem dX8_crossed_323 : decode cX8_crossed 323 = .ok (.getfield 38, 3) := by decide +kernel
theorem dX8_crossed_326 : decode cX8_crossed 326 = .ok (.invokestatic 136, 3) := by decide +kernel
theorem dX8_crossed_329 : decode cX8_crossed 329 = .ok (.ifCond .le 14, 3) := by decide +kernel
theorem dX8_crossed_332 : decode cX8_crossed 332 = .ok (.aload_n 0, 1) := by decide +kernel
theorem dX8_crossed_333 : decode cX8_crossed 333 = .ok (.getfield 35, 3) := by decide +kernel
theorem dX8_crossed_336 : decode cX8_crossed 336 = .ok (.aload_n 0, 1) := by decide +kernel
theorem dX8_crossed_337 : decode cX8_crossed 337 = .ok (.getfield 38, 3) := by decide +kernel
theorem dX8_crossed_340 : decode cX8_crossed 340 = .ok (.invokestatic 128, 3) := by decide +kernel
theorem dX8_crossed_343 : decode cX8_crossed 343 = .ok (.aload_n 0, 1) := by decide +kernel
theorem dX8_crossed_344 : decode cX8_crossed 344 = .ok (.iload_n 1, 1) := by decide +kernel
theorem dX8_crossed_345 : decode cX8_crossed 345 = .ok (.invokevirtual 214, 3) := by decide +kernel
theorem dX8_crossed_348 : decode cX8_crossed 348 = .ok (.ireturn, 1) := by decide +kernel
theorem dX8_count_0 : decode cX8_count 0 = .ok (.iload_n 1, 1) := by decide +kernel
theorem dX8_count_1 : decode cX8_count 1 = .ok (.iconst 0, 1) := by decide +kernel
theorem dX8_count_2 : decode cX8_count 2 = .ok (.iconst 2, 1) := by decide +kernel
theorem dX8_count_3 : decode cX8_count 3 = .ok (.invokestatic 153, 3) := by decide +kernel
theorem dX8_count_6 : decode cX8_count 6 = .ok (.ifCond .ne 5, 3) := by decide +kernel
theorem dX8_count_9 : decode cX8_count 9 = .ok (.iconst (-1), 1) := by decide +kernel
theorem dX8_count_10 : decode cX8_count 10 = .ok (.ireturn, 1) := by decide +kernel
theorem dX8_count_11 : decode cX8_count 11 = .ok (.iconst 0, 1) := by decide +kernel
theorem dX8_count_12 : decode cX8_count 12 = .ok (.istore_n 2, 1) := by decide +kernel
theorem dX8_count_13 : decode cX8_count 13 = .ok (.iconst 0, 1) := by decide +kernel
theorem dX8_count_14 : decode cX8_count 14 = .ok (.istore_n 3, 1) := by decide +kernel
theorem dX8_count_15 : decode cX8_count 15 = .ok (.iload_n 3, 1) := by decide +kernel
theorem dX8_count_16 : decode cX8_count 16 = .ok (.bipush 16, 2) := by decide +kernel
theorem dX8_count_18 : decode cX8_count 18 = .ok (.if_icmp .ge 26, 3) := by decide +kernel
theorem dX8_count_21 : decode cX8_count 21 = .ok (.iload_n 2, 1) := by decide +kernel
theorem dX8_count_22 : decode cX8_count 22 = .ok (.aload_n 0, 1) := by decide +kernel
theorem dX8_count_23 : decode cX8_count 23 = .ok (.getfield 31, 3) := by decide +kernel
theorem dX8_count_26 : decode cX8_count 26 = .ok (.iload_n 3, 1) := by decide +kernel
theorem dX8_count_27 : decode cX8_count 27 = .ok (.baload, 1) := by decide +kernel
theorem dX8_count_28 : decode cX8_count 28 = .ok (.ifCond .eq 7, 3) := by decide +kernel
theorem dX8_count_31 : decode cX8_count 31 = .ok (.iconst 1, 1) := by decide +kernel
theorem dX8_count_32 : decode cX8_count 32 = .ok (.goto 4, 3) := by decide +kernel
theorem dX8_count_35 : decode cX8_count 35 = .ok (.iconst 0, 1) := by decide +kernel
theorem dX8_count_36 : decode cX8_count 36 = .ok (.iadd, 1) := by decide +kernel
theorem dX8_count_37 : decode cX8_count 37 = .ok (.istore_n 2, 1) := by decide +kernel
theorem dX8_count_38 : decode cX8_count 38 = .ok (.iinc 3 1, 3) := by decide +kernel
theorem dX8_count_41 : decode cX8_count 41 = .ok (.goto (-26), 3) := by decide +kernel
theorem dX8_count_44 : decode cX8_count 44 = .ok (.iload_n 1, 1) := by decide +kernel
theorem dX8_count_45 : decode cX8_count 45 = .ok (.ifCond .ne 10, 3) := by decide +kernel
theorem dX8_count_48 : decode cX8_count 48 = .ok (.aload_n 0, 1) := by decide +kernel
theorem dX8_count_49 : decode cX8_count 49 = .ok (.getfield 178, 3) := by decide +kernel
theorem dX8_count_52 : decode cX8_count 52 = .ok (.goto 16, 3) := by decide +kernel
theorem dX8_count_55 : decode cX8_count 55 = .ok (.iload_n 1, 1) := by decide +kernel
theorem dX8_count_56 : decode cX8_count 56 = .ok (.iconst 1, 1) := by decide +kernel
theorem dX8_count_57 : decode cX8_count 57 = .ok (.if_icmp .ne 10, 3) := by decide +kernel
theorem dX8_count_60 : decode cX8_count 60 = .ok (.aload_n 0, 1) := by decide +kernel
theorem dX8_count_61 : decode cX8_count 61 = .ok (.getfield 181, 3) := by decide +kernel
theorem dX8_count_64 : decode cX8_count 64 = .ok (.goto 4, 3) := by decide +kernel
theorem dX8_count_67 : decode cX8_count 67 = .ok (.iload_n 2, 1) := by decide +kernel
theorem dX8_count_68 : decode cX8_count 68 = .ok (.ireturn, 1) := by decide +kernel
theorem dL_law_0 : decode cL_law 0 = .ok (.new 7, 3) := by decide +kernel
theorem dL_law_3 : decode cL_law 3 = .ok (.dup, 1) := by decide +kernel
theorem dL_law_4 : decode cL_law 4 = .ok (.invokespecial 9, 3) := by decide +kernel
theorem dL_law_7 : decode cL_law 7 = .ok (.astore_n 1, 1) := by decide +kernel
theorem dL_law_8 : decode cL_law 8 = .ok (.new 10, 3) := by decide +kernel
theorem dL_law_11 : decode cL_law 11 = .ok (.dup, 1) := by decide +kernel
theorem dL_law_12 : decode cL_law 12 = .ok (.invokespecial 12, 3) := by decide +kernel
theorem dL_law_15 : decode cL_law 15 = .ok (.astore_n 2, 1) := by decide +kernel
theorem dL_law_16 : decode cL_law 16 = .ok (.iconst 0, 1) := by decide +kernel
theorem dL_law_17 : decode cL_law 17 = .ok (.istore_n 3, 1) := by decide +kernel
theorem dL_law_18 : decode cL_law 18 = .ok (.iload_n 3, 1) := by decide +kernel
theorem dL_law_19 : decode cL_law 19 = .ok (.aload_n 0, 1) := by decide +kernel
theorem dL_law_20 : decode cL_law 20 = .ok (.arraylength, 1) := by decide +kernel
theorem dL_law_21 : decode cL_law 21 = .ok (.bipush 6, 2) := by decide +kernel
theorem dL_law_23 : decode cL_law 23 = .ok (.isub, 1) := by decide +kernel
theorem dL_law_24 : decode cL_law 24 = .ok (.if_icmp .gt 1084, 3) := by decide +kernel
theorem dL_law_27 : decode cL_law 27 = .ok (.aload_n 0, 1) := by decide +kernel
theorem dL_law_28 : decode cL_law 28 = .ok (.iload_n 3, 1) := by decide +kernel
theorem dL_law_29 : decode cL_law 29 = .ok (.iaload, 1) := by decide +kernel
theorem dL_law_30 : decode cL_law 30 = .ok (.bipush 31, 2) := by decide +kernel
theorem dL_law_32 : decode cL_law 32 = .ok (.iand, 1) := by decide +kernel
theorem dL_law_33 : decode cL_law 33 = .ok (.tableswitch 1069 0 25 #[119, 142, 155, 198, 241, 264, 297, 340, 373, 406, 449, 482, 525, 578, 631, 644, 697, 730, 763, 807, 841, 864, 897, 960, 1003, 1046], 119) := by decide +kernel
theorem dL_law_152 : decode cL_law 152 = .ok (.aload_n 1, 1) := by decide +kernel
theorem dL_law_153 : decode cL_law 153 = .ok (.aload_n 0, 1) := by decide +kernel
theorem dL_law_154 : decode cL_law 154 = .ok (.iload_n 3, 1) := by decide +kernel
theorem dL_law_155 : decode cL_law 155 = .ok (.iconst 1, 1) := by decide +kernel
theorem dL_law_156 : decode cL_law 156 = .ok (.iadd, 1) := by decide +kernel
theorem dL_law_157 : decode cL_law 157 = .ok (.iaload, 1) := by decide +kernel
theorem dL_law_158 : decode cL_law 158 = .ok (.invokevirtual 13, 3) := by decide +kernel
theorem dL_law_161 : decode cL_law 161 = .ok (.aload_n 2, 1) := by decide +kernel
theorem dL_law_162 : decode cL_law 162 = .ok (.aload_n 0, 1) := by decide +kernel
theorem dL_law_163 : decode cL_law 163 = .ok (.iload_n 3, 1) := by decide +kernel
theorem dL_law_164 : decode cL_law 164 = .ok (.iconst 1, 1) := by decide +kernel
theorem dL_law_165 : decode cL_law 165 = .ok (.iadd, 1) := by decide +kernel
theorem dL_law_166 : decode cL_law 166 = .ok (.iaload, 1) := by decide +kernel
theorem dL_law_167 : decode cL_law 167 = .ok (.invokevirtual 17, 3) := by decide +kernel
theorem dL_law_170 : decode cL_law 170 = .ok (.if_icmp .eq 932, 3) := by decide +kernel
theorem dL_law_173 : decode cL_law 173 = .ok (.iconst 0, 1) := by decide +kernel
theorem dL_law_174 : decode cL_law 174 = .ok (.ireturn, 1) := by decide +kernel
theorem dL_law_175 : decode cL_law 175 = .ok (.aload_n 1, 1) := by decide +kernel
theorem dL_law_176 : decode cL_law 176 = .ok (.invokevirtual 18, 3) := by decide +kernel
theorem dL_law_179 : decode cL_law 179 = .ok (.aload_n 2, 1) := by decide +kernel
theorem dL_law_180 : decode cL_law 180 = .ok (.invokevirtual 22, 3) := by decide +kernel
theorem dL_law_183 : decode cL_law 183 = .ok (.if_icmp .eq 919, 3) := by decide +kernel
theorem dL_law_186 : decode cL_law 186 = .ok (.iconst 0, 1) := by decide +kernel
theorem dL_law_187 : decode cL_law 187 = .ok (.ireturn, 1) := by decide +kernel
theorem dL_law_188 : decode cL_law 188 = .ok (.aload_n 1, 1) := by decide +kernel
theorem dL_law_189 : decode cL_law 189 = .ok (.aload_n 0, 1) := by decide +kernel
theorem dL_law_190 : decode cL_law 190 = .ok (.iload_n 3, 1) := by decide +kernel
theorem dL_law_191 : decode cL_law 191 = .ok (.iconst 1, 1) := by decide +kernel
theorem dL_law_192 : decode cL_law 192 = .ok (.iadd, 1) := by decide +kernel
theorem dL_law_193 : decode cL_law 193 = .ok (.iaload, 1) := by decide +kernel
theorem dL_law_194 : decode cL_law 194 = .ok (.aload_n 0, 1) := by decide +kernel
theorem dL_law_195 : decode cL_law 195 = .ok (.iload_n 3, 1) := by decide +kernel
theorem dL_law_196 : decode cL_law 196 = .ok (.iconst 2, 1) := by decide +kernel
theorem dL_law_197 : decode cL_law 197 = .ok (.iadd, 1) := by decide +kernel
theorem dL_law_198 : decode cL_law 198 = .ok (.iaload, 1) := by decide +kernel
theorem dL_law_199 : decode cL_law 199 = .ok (.aload_n 0, 1) := by decide +kernel
theorem dL_law_200 : decode cL_law 200 = .ok (.iload_n 3, 1) := by decide +kernel
theorem dL_law_201 : decode cL_law 201 = .ok (.iconst 3, 1) := by decide +kernel
theorem dL_law_202 : decode cL_law 202 = .ok (.iadd, 1) := by decide +kernel
theorem dL_law_203 : decode cL_law 203 = .ok (.iaload, 1) := by decide +kernel
theorem dL_law_204 : decode cL_law 204 = .ok (.invokevirtual 23, 3) := by decide +kernel
theorem dL_law_207 : decode cL_law 207 = .ok (.aload_n 2, 1) := by decide +kernel
theorem dL_law_208 : decode cL_law 208 = .ok (.aload_n 0, 1) := by decide +kernel
theorem dL_law_209 : decode cL_law 209 = .ok (.iload_n 3, 1) := by decide +kernel
theorem dL_law_210 : decode cL_law 210 = .ok (.iconst 1, 1) := by decide +kernel
theorem dL_law_211 : decode cL_law 211 = .ok (.iadd, 1) := by decide +kernel
theorem dL_law_212 : decode cL_law 212 = .ok (.iaload, 1) := by decide +kernel
theorem dL_law_213 : decode cL_law 213 = .ok (.aload_n 0, 1) := by decide +kernel
theorem dL_law_214 : decode cL_law 214 = .ok (.iload_n 3, 1) := by decide +kernel
theorem dL_law_215 : decode cL_law 215 = .ok (.iconst 2, 1) := by decide +kernel
theorem dL_law_216 : decode cL_law 216 = .ok (.iadd, 1) := by decide +kernel
theorem dL_law_217 : decode cL_law 217 = .ok (.iaload, 1) := by decide +kernel
theorem dL_law_218 : decode cL_law 218 = .ok (.aload_n 0, 1) := by decide +kernel
theorem dL_law_219 : decode cL_law 219 = .ok (.iload_n 3, 1) := by decide +kernel
theorem dL_law_220 : decode cL_law 220 = .ok (.iconst 3, 1) := by decide +kernel
theorem dL_law_221 : decode cL_law 221 = .ok (.iadd, 1) := by decide +kernel
theorem dL_law_222 : decode cL_law 222 = .ok (.iaload, 1) := by decide +kernel
theorem dL_law_223 : decode cL_law 223 = .ok (.invokevirtual 27, 3) := by decide +kernel
theorem dL_law_226 : decode cL_law 226 = .ok (.if_icmp .eq 876, 3) := by decide +kernel
theorem dL_law_229 : decode cL_law 229 = .ok (.iconst 0, 1) := by decide +kernel
theorem dL_law_230 : decode cL_law 230 = .ok (.ireturn, 1) := by decide +kernel
theorem dL_law_231 : decode cL_law 231 = .ok (.aload_n 1, 1) := by decide +kernel
theorem dL_law_232 : decode cL_law 232 = .ok (.aload_n 0, 1) := by decide +kernel
theorem dL_law_233 : decode cL_law 233 = .ok (.iload_n 3, 1) := by decide +kernel
theorem dL_law_234 : decode cL_law 234 = .ok (.iconst 1, 1) := by decide +kernel
theorem dL_law_235 : decode cL_law 235 = .ok (.iadd, 1) := by decide +kernel
theorem dL_law_236 : decode cL_law 236 = .ok (.iaload, 1) := by decide +kernel
theorem dL_law_237 : decode cL_law 237 = .ok (.aload_n 0, 1) := by decide +kernel
theorem dL_law_238 : decode cL_law 238 = .ok (.iload_n 3, 1) := by decide +kernel
theorem dL_law_239 : decode cL_law 239 = .ok (.iconst 2, 1) := by decide +kernel
theorem dL_law_240 : decode cL_law 240 = .ok (.iadd, 1) := by decide +kernel
theorem dL_law_241 : decode cL_law 241 = .ok (.iaload, 1) := by decide +kernel
theorem dL_law_242 : decode cL_law 242 = .ok (.aload_n 0, 1) := by decide +kernel
theorem dL_law_243 : decode cL_law 243 = .ok (.iload_n 3, 1) := by decide +kernel
theorem dL_law_244 : decode cL_law 244 = .ok (.iconst 3, 1) := by decide +kernel
theorem dL_law_245 : decode cL_law 245 = .ok (.iadd, 1) := by decide +kernel
theorem dL_law_246 : decode cL_law 246 = .ok (.iaload, 1) := by decide +kernel
theorem dL_law_247 : decode cL_law 247 = .ok (.invokevirtual 28, 3) := by decide +kernel
theorem dL_law_250 : decode cL_law 250 = .ok (.aload_n 2, 1) := by decide +kernel
theorem dL_law_251 : decode cL_law 251 = .ok (.aload_n 0, 1) := by decide +kernel
theorem dL_law_252 : decode cL_law 252 = .ok (.iload_n 3, 1) := by decide +kernel
theorem dL_law_253 : decode cL_law 253 = .ok (.iconst 1, 1) := by decide +kernel
theorem dL_law_254 : decode cL_law 254 = .ok (.iadd, 1) := by decide +kernel
theorem dL_law_255 : decode cL_law 255 = .ok (.iaload, 1) := by decide +kernel
theorem dL_law_256 : decode cL_law 256 = .ok (.aload_n 0, 1) := by decide +kernel
theorem dL_law_257 : decode cL_law 257 = .ok (.iload_n 3, 1) := by decide +kernel
theorem dL_law_258 : decode cL_law 258 = .ok (.iconst 2, 1) := by decide +kernel
theorem dL_law_259 : decode cL_law 259 = .ok (.iadd, 1) := by decide +kernel
theorem dL_law_260 : decode cL_law 260 = .ok (.iaload, 1) := by decide +kernel
theorem dL_law_261 : decode cL_law 261 = .ok (.aload_n 0, 1) := by decide +kernel
theorem dL_law_262 : decode cL_law 262 = .ok (.iload_n 3, 1) := by decide +kernel
theorem dL_law_263 : decode cL_law 263 = .ok (.iconst 3, 1) := by decide +kernel
theorem dL_law_264 : decode cL_law 264 = .ok (.iadd, 1) := by decide +kernel
theorem dL_law_265 : decode cL_law 265 = .ok (.iaload, 1) := by decide +kernel
theorem dL_law_266 : decode cL_law 266 = .ok (.invokevirtual 31, 3) := by decide +kernel
theorem dL_law_269 : decode cL_law 269 = .ok (.if_icmp .eq 833, 3) := by decide +kernel
theorem dL_law_272 : decode cL_law 272 = .ok (.iconst 0, 1) := by decide +kernel
theorem dL_law_273 : decode cL_law 273 = .ok (.ireturn, 1) := by decide +kernel
theorem dL_law_274 : decode cL_law 274 = .ok (.aload_n 1, 1) := by decide +kernel
theorem dL_law_275 : decode cL_law 275 = .ok (.aload_n 0, 1) := by decide +kernel
theorem dL_law_276 : decode cL_law 276 = .ok (.iload_n 3, 1) := by decide +kernel
theorem dL_law_277 : decode cL_law 277 = .ok (.iconst 1, 1) := by decide +kernel
theorem dL_law_278 : decode cL_law 278 = .ok (.iadd, 1) := by decide +kernel
theorem dL_law_279 : decode cL_law 279 = .ok (.iaload, 1) := by decide +kernel
theorem dL_law_280 : decode cL_law 280 = .ok (.invokevirtual 32, 3) := by decide +kernel
theorem dL_law_283 : decode cL_law 283 = .ok (.aload_n 2, 1) := by decide +kernel
theorem dL_law_284 : decode cL_law 284 = .ok (.aload_n 0, 1) := by decide +kernel
theorem dL_law_285 : decode cL_law 285 = .ok (.iload_n 3, 1) := by decide +kernel
theorem dL_law_286 : decode cL_law 286 = .ok (.iconst 1, 1) := by decide +kernel
theorem dL_law_287 : decode cL_law 287 = .ok (.iadd, 1) := by decide +kernel
theorem dL_law_288 : decode cL_law 288 = .ok (.iaload, 1) := by decide +kernel
theorem dL_law_289 : decode cL_law 289 = .ok (.invokevirtual 35, 3) := by decide +kernel
theorem dL_law_292 : decode cL_law 292 = .ok (.if_icmp .eq 810, 3) := by decide +kernel
theorem dL_law_295 : decode cL_law 295 = .ok (.iconst 0, 1) := by decide +kernel
theorem dL_law_296 : decode cL_law 296 = .ok (.ireturn, 1) := by decide +kernel
theorem dL_law_297 : decode cL_law 297 = .ok (.aload_n 1, 1) := by decide +kernel
theorem dL_law_298 : decode cL_law 298 = .ok (.aload_n 0, 1) := by decide +kernel
theorem dL_law_299 : decode cL_law 299 = .ok (.iload_n 3, 1) := by decide +kernel
theorem dL_law_300 : decode cL_law 300 = .ok (.iconst 1, 1) := by decide +kernel
theorem dL_law_301 : decode cL_law 301 = .ok (.iadd, 1) := by decide +kernel
theorem dL_law_302 : decode cL_law 302 = .ok (.iaload, 1) := by decide +kernel
theorem dL_law_303 : decode cL_law 303 = .ok (.aload_n 0, 1) := by decide +kernel
theorem dL_law_304 : decode cL_law 304 = .ok (.iload_n 3, 1) := by decide +kernel
theorem dL_law_305 : decode cL_law 305 = .ok (.iconst 2, 1) := by decide +kernel
theorem dL_law_306 : decode cL_law 306 = .ok (.iadd, 1) := by decide +kernel
theorem dL_law_307 : decode cL_law 307 = .ok (.iaload, 1) := by decide +kernel
theorem dL_law_308 : decode cL_law 308 = .ok (.invokevirtual 36, 3) := by decide +kernel
theorem dL_law_311 : decode cL_law 311 = .ok (.aload_n 2, 1) := by decide +kernel
theorem dL_law_312 : decode cL_law 312 = .ok (.aload_n 0, 1) := by decide +kernel
theorem dL_law_313 : decode cL_law 313 = .ok (.iload_n 3, 1) := by decide +kernel
theorem dL_law_314 : decode cL_law 314 = .ok (.iconst 1, 1) := by decide +kernel
theorem dL_law_315 : decode cL_law 315 = .ok (.iadd, 1) := by decide +kernel
theorem dL_law_316 : decode cL_law 316 = .ok (.iaload, 1) := by decide +kernel
theorem dL_law_317 : decode cL_law 317 = .ok (.aload_n 0, 1) := by decide +kernel
theorem dL_law_318 : decode cL_law 318 = .ok (.iload_n 3, 1) := by decide +kernel
theorem dL_law_319 : decode cL_law 319 = .ok (.iconst 2, 1) := by decide +kernel
theorem dL_law_320 : decode cL_law 320 = .ok (.iadd, 1) := by decide +kernel
theorem dL_law_321 : decode cL_law 321 = .ok (.iaload, 1) := by decide +kernel
theorem dL_law_322 : decode cL_law 322 = .ok (.invokevirtual 40, 3) := by decide +kernel
theorem dL_law_325 : decode cL_law 325 = .ok (.if_icmp .eq 777, 3) := by decide +kernel
theorem dL_law_328 : decode cL_law 328 = .ok (.iconst 0, 1) := by decide +kernel
theorem dL_law_329 : decode cL_law 329 = .ok (.ireturn, 1) := by decide +kernel
theorem dL_law_330 : decode cL_law 330 = .ok (.aload_n 1, 1) := by decide +kernel
theorem dL_law_331 : decode cL_law 331 = .ok (.aload_n 0, 1) := by decide +kernel
theorem dL_law_332 : decode cL_law 332 = .ok (.iload_n 3, 1) := by decide +kernel
theorem dL_law_333 : decode cL_law 333 = .ok (.iconst 1, 1) := by decide +kernel
theorem dL_law_334 : decode cL_law 334 = .ok (.iadd, 1) := by decide +kernel
theorem dL_law_335 : decode cL_law 335 = .ok (.iaload, 1) := by decide +kernel
theorem dL_law_336 : decode cL_law 336 = .ok (.aload_n 0, 1) := by decide +kernel
theorem dL_law_337 : decode cL_law 337 = .ok (.iload_n 3, 1) := by decide +kernel
theorem dL_law_338 : decode cL_law 338 = .ok (.iconst 2, 1) := by decide +kernel
theorem dL_law_339 : decode cL_law 339 = .ok (.iadd, 1) := by decide +kernel
theorem dL_law_340 : decode cL_law 340 = .ok (.iaload, 1) := by decide +kernel
theorem dL_law_341 : decode cL_law 341 = .ok (.aload_n 0, 1) := by decide +kernel
theorem dL_law_342 : decode cL_law 342 = .ok (.iload_n 3, 1) := by decide +kernel
theorem dL_law_343 : decode cL_law 343 = .ok (.iconst 3, 1) := by decide +kernel
theorem dL_law_344 : decode cL_law 344 = .ok (.iadd, 1) := by decide +kernel
theorem dL_law_345 : decode cL_law 345 = .ok (.iaload, 1) := by decide +kernel
theorem dL_law_346 : decode cL_law 346 = .ok (.invokevirtual 41, 3) := by decide +kernel
theorem dL_law_349 : decode cL_law 349 = .ok (.aload_n 2, 1) := by decide +kernel
theorem dL_law_350 : decode cL_law 350 = .ok (.aload_n 0, 1) := by decide +kernel
theorem dL_law_351 : decode cL_law 351 = .ok (.iload_n 3, 1) := by decide +kernel
theorem dL_law_352 : decode cL_law 352 = .ok (.iconst 1, 1) := by decide +kernel
theorem dL_law_353 : decode cL_law 353 = .ok (.iadd, 1) := by decide +kernel
theorem dL_law_354 : decode cL_law 354 = .ok (.iaload, 1) := by decide +kernel
theorem dL_law_355 : decode cL_law 355 = .ok (.aload_n 0, 1) := by decide +kernel
theorem dL_law_356 : decode cL_law 356 = .ok (.iload_n 3, 1) := by decide +kernel
theorem dL_law_357 : decode cL_law 357 = .ok (.iconst 2, 1) := by decide +kernel
theorem dL_law_358 : decode cL_law 358 = .ok (.iadd, 1) := by decide +kernel
theorem dL_law_359 : decode cL_law 359 = .ok (.iaload, 1) := by decide +kernel
theorem dL_law_360 : decode cL_law 360 = .ok (.aload_n 0, 1) := by decide +kernel
theorem dL_law_361 : decode cL_law 361 = .ok (.iload_n 3, 1) := by decide +kernel
theorem dL_law_362 : decode cL_law 362 = .ok (.iconst 3, 1) := by decide +kernel
theorem dL_law_363 : decode cL_law 363 = .ok (.iadd, 1) := by decide +kernel
theorem dL_law_364 : decode cL_law 364 = .ok (.iaload, 1) := by decide +kernel
theorem dL_law_365 : decode cL_law 365 = .ok (.invokevirtual 44, 3) := by decide +kernel
theorem dL_law_368 : decode cL_law 368 = .ok (.if_icmp .eq 734, 3) := by decide +kernel
theorem dL_law_371 : decode cL_law 371 = .ok (.iconst 0, 1) := by decide +kernel
theorem dL_law_372 : decode cL_law 372 = .ok (.ireturn, 1) := by decide +kernel
theorem dL_law_373 : decode cL_law 373 = .ok (.aload_n 1, 1) := by decide +kernel
theorem dL_law_374 : decode cL_law 374 = .ok (.aload_n 0, 1) := by decide +kernel
theorem dL_law_375 : decode cL_law 375 = .ok (.iload_n 3, 1) := by decide +kernel
theorem dL_law_376 : decode cL_law 376 = .ok (.iconst 1, 1) := by decide +kernel
theorem dL_law_377 : decode cL_law 377 = .ok (.iadd, 1) := by decide +kernel
theorem dL_law_378 : decode cL_law 378 = .ok (.iaload, 1) := by decide +kernel
theorem dL_law_379 : decode cL_law 379 = .ok (.aload_n 0, 1) := by decide +kernel
theorem dL_law_380 : decode cL_law 380 = .ok (.iload_n 3, 1) := by decide +kernel
theorem dL_law_381 : decode cL_law 381 = .ok (.iconst 2, 1) := by decide +kernel
theorem dL_law_382 : decode cL_law 382 = .ok (.iadd, 1) := by decide +kernel
theorem dL_law_383 : decode cL_law 383 = .ok (.iaload, 1) := by decide +kernel
theorem dL_law_384 : decode cL_law 384 = .ok (.invokevirtual 45, 3) := by decide +kernel
theorem dL_law_387 : decode cL_law 387 = .ok (.aload_n 2, 1) := by decide +kernel
theorem dL_law_388 : decode cL_law 388 = .ok (.aload_n 0, 1) := by decide +kernel
theorem dL_law_389 : decode cL_law 389 = .ok (.iload_n 3, 1) := by decide +kernel
theorem dL_law_390 : decode cL_law 390 = .ok (.iconst 1, 1) := by decide +kernel
theorem dL_law_391 : decode cL_law 391 = .ok (.iadd, 1) := by decide +kernel
theorem dL_law_392 : decode cL_law 392 = .ok (.iaload, 1) := by decide +kernel
theorem dL_law_393 : decode cL_law 393 = .ok (.aload_n 0, 1) := by decide +kernel
theorem dL_law_394 : decode cL_law 394 = .ok (.iload_n 3, 1) := by decide +kernel
theorem dL_law_395 : decode cL_law 395 = .ok (.iconst 2, 1) := by decide +kernel
theorem dL_law_396 : decode cL_law 396 = .ok (.iadd, 1) := by decide +kernel
theorem dL_law_397 : decode cL_law 397 = .ok (.iaload, 1) := by decide +kernel
theorem dL_law_398 : decode cL_law 398 = .ok (.invokevirtual 48, 3) := by decide +kernel
theorem dL_law_401 : decode cL_law 401 = .ok (.if_icmp .eq 701, 3) := by decide +kernel
theorem dL_law_404 : decode cL_law 404 = .ok (.iconst 0, 1) := by decide +kernel
theorem dL_law_405 : decode cL_law 405 = .ok (.ireturn, 1) := by decide +kernel
theorem dL_law_406 : decode cL_law 406 = .ok (.aload_n 1, 1) := by decide +kernel
theorem dL_law_407 : decode cL_law 407 = .ok (.aload_n 0, 1) := by decide +kernel
theorem dL_law_408 : decode cL_law 408 = .ok (.iload_n 3, 1) := by decide +kernel
theorem dL_law_409 : decode cL_law 409 = .ok (.iconst 1, 1) := by decide +kernel
theorem dL_law_410 : decode cL_law 410 = .ok (.iadd, 1) := by decide +kernel
theorem dL_law_411 : decode cL_law 411 = .ok (.iaload, 1) := by decide +kernel
theorem dL_law_412 : decode cL_law 412 = .ok (.aload_n 0, 1) := by decide +kernel
theorem dL_law_413 : decode cL_law 413 = .ok (.iload_n 3, 1) := by decide +kernel
theorem dL_law_414 : decode cL_law 414 = .ok (.iconst 2, 1) := by decide +kernel
theorem dL_law_415 : decode cL_law 415 = .ok (.iadd, 1) := by decide +kernel
theorem dL_law_416 : decode cL_law 416 = .ok (.iaload, 1) := by decide +kernel
theorem dL_law_417 : decode cL_law 417 = .ok (.invokevirtual 49, 3) := by decide +kernel
theorem dL_law_420 : decode cL_law 420 = .ok (.aload_n 2, 1) := by decide +kernel
theorem dL_law_421 : decode cL_law 421 = .ok (.aload_n 0, 1) := by decide +kernel
theorem dL_law_422 : decode cL_law 422 = .ok (.iload_n 3, 1) := by decide +kernel
theorem dL_law_423 : decode cL_law 423 = .ok (.iconst 1, 1) := by decide +kernel
theorem dL_law_424 : decode cL_law 424 = .ok (.iadd, 1) := by decide +kernel
theorem dL_law_425 : decode cL_law 425 = .ok (.iaload, 1) := by decide +kernel
theorem dL_law_426 : decode cL_law 426 = .ok (.aload_n 0, 1) := by decide +kernel
theorem dL_law_427 : decode cL_law 427 = .ok (.iload_n 3, 1) := by decide +kernel
theorem dL_law_428 : decode cL_law 428 = .ok (.iconst 2, 1) := by decide +kernel
theorem dL_law_429 : decode cL_law 429 = .ok (.iadd, 1) := by decide +kernel
theorem dL_law_430 : decode cL_law 430 = .ok (.iaload, 1) := by decide +kernel
theorem dL_law_431 : decode cL_law 431 = .ok (.invokevirtual 52, 3) := by decide +kernel
theorem dL_law_434 : decode cL_law 434 = .ok (.if_icmp .eq 668, 3) := by decide +kernel
theorem dL_law_437 : decode cL_law 437 = .ok (.iconst 0, 1) := by decide +kernel
theorem dL_law_438 : decode cL_law 438 = .ok (.ireturn, 1) := by decide +kernel
theorem dL_law_439 : decode cL_law 439 = .ok (.aload_n 1, 1) := by decide +kernel
theorem dL_law_440 : decode cL_law 440 = .ok (.aload_n 0, 1) := by decide +kernel
theorem dL_law_441 : decode cL_law 441 = .ok (.iload_n 3, 1) := by decide +kernel
theorem dL_law_442 : decode cL_law 442 = .ok (.iconst 1, 1) := by decide +kernel
theorem dL_law_443 : decode cL_law 443 = .ok (.iadd, 1) := by decide +kernel
theorem dL_law_444 : decode cL_law 444 = .ok (.iaload, 1) := by decide +kernel
theorem dL_law_445 : decode cL_law 445 = .ok (.aload_n 0, 1) := by decide +kernel
theorem dL_law_446 : decode cL_law 446 = .ok (.iload_n 3, 1) := by decide +kernel
theorem dL_law_447 : decode cL_law 447 = .ok (.iconst 2, 1) := by decide +kernel
theorem dL_law_448 : decode cL_law 448 = .ok (.iadd, 1) := by decide +kernel
theorem dL_law_449 : decode cL_law 449 = .ok (.iaload, 1) := by decide +kernel
theorem dL_law_450 : decode cL_law 450 = .ok (.aload_n 0, 1) := by decide +kernel
theorem dL_law_451 : decode cL_law 451 = .ok (.iload_n 3, 1) := by decide +kernel
theorem dL_law_452 : decode cL_law 452 = .ok (.iconst 3, 1) := by decide +kernel
theorem dL_law_453 : decode cL_law 453 = .ok (.iadd, 1) := by decide +kernel
theorem dL_law_454 : decode cL_law 454 = .ok (.iaload, 1) := by decide +kernel
theorem dL_law_455 : decode cL_law 455 = .ok (.invokevirtual 53, 3) := by decide +kernel
theorem dL_law_458 : decode cL_law 458 = .ok (.aload_n 2, 1) := by decide +kernel
theorem dL_law_459 : decode cL_law 459 = .ok (.aload_n 0, 1) := by decide +kernel
theorem dL_law_460 : decode cL_law 460 = .ok (.iload_n 3, 1) := by decide +kernel
theorem dL_law_461 : decode cL_law 461 = .ok (.iconst 1, 1) := by decide +kernel
theorem dL_law_462 : decode cL_law 462 = .ok (.iadd, 1) := by decide +kernel
theorem dL_law_463 : decode cL_law 463 = .ok (.iaload, 1) := by decide +kernel
theorem dL_law_464 : decode cL_law 464 = .ok (.aload_n 0, 1) := by decide +kernel
theorem dL_law_465 : decode cL_law 465 = .ok (.iload_n 3, 1) := by decide +kernel
theorem dL_law_466 : decode cL_law 466 = .ok (.iconst 2, 1) := by decide +kernel
theorem dL_law_467 : decode cL_law 467 = .ok (.iadd, 1) := by decide +kernel
theorem dL_law_468 : decode cL_law 468 = .ok (.iaload, 1) := by decide +kernel
theorem dL_law_469 : decode cL_law 469 = .ok (.aload_n 0, 1) := by decide +kernel
theorem dL_law_470 : decode cL_law 470 = .ok (.iload_n 3, 1) := by decide +kernel
theorem dL_law_471 : decode cL_law 471 = .ok (.iconst 3, 1) := by decide +kernel
theorem dL_law_472 : decode cL_law 472 = .ok (.iadd, 1) := by decide +kernel
theorem dL_law_473 : decode cL_law 473 = .ok (.iaload, 1) := by decide +kernel
theorem dL_law_474 : decode cL_law 474 = .ok (.invokevirtual 56, 3) := by decide +kernel
theorem dL_law_477 : decode cL_law 477 = .ok (.if_icmp .eq 625, 3) := by decide +kernel
theorem dL_law_480 : decode cL_law 480 = .ok (.iconst 0, 1) := by decide +kernel
theorem dL_law_481 : decode cL_law 481 = .ok (.ireturn, 1) := by decide +kernel
theorem dL_law_482 : decode cL_law 482 = .ok (.aload_n 1, 1) := by decide +kernel
theorem dL_law_483 : decode cL_law 483 = .ok (.aload_n 0, 1) := by decide +kernel
theorem dL_law_484 : decode cL_law 484 = .ok (.iload_n 3, 1) := by decide +kernel
theorem dL_law_485 : decode cL_law 485 = .ok (.iconst 1, 1) := by decide +kernel
theorem dL_law_486 : decode cL_law 486 = .ok (.iadd, 1) := by decide +kernel
theorem dL_law_487 : decode cL_law 487 = .ok (.iaload, 1) := by decide +kernel
theorem dL_law_488 : decode cL_law 488 = .ok (.aload_n 0, 1) := by decide +kernel
theorem dL_law_489 : decode cL_law 489 = .ok (.iload_n 3, 1) := by decide +kernel
theorem dL_law_490 : decode cL_law 490 = .ok (.iconst 2, 1) := by decide +kernel
theorem dL_law_491 : decode cL_law 491 = .ok (.iadd, 1) := by decide +kernel
theorem dL_law_492 : decode cL_law 492 = .ok (.iaload, 1) := by decide +kernel
theorem dL_law_493 : decode cL_law 493 = .ok (.invokevirtual 57, 3) := by decide +kernel
theorem dL_law_496 : decode cL_law 496 = .ok (.aload_n 2, 1) := by decide +kernel
theorem dL_law_497 : decode cL_law 497 = .ok (.aload_n 0, 1) := by decide +kernel
theorem dL_law_498 : decode cL_law 498 = .ok (.iload_n 3, 1) := by decide +kernel
theorem dL_law_499 : decode cL_law 499 = .ok (.iconst 1, 1) := by decide +kernel
theorem dL_law_500 : decode cL_law 500 = .ok (.iadd, 1) := by decide +kernel
theorem dL_law_501 : decode cL_law 501 = .ok (.iaload, 1) := by decide +kernel
theorem dL_law_502 : decode cL_law 502 = .ok (.aload_n 0, 1) := by decide +kernel
theorem dL_law_503 : decode cL_law 503 = .ok (.iload_n 3, 1) := by decide +kernel
theorem dL_law_504 : decode cL_law 504 = .ok (.iconst 2, 1) := by decide +kernel
theorem dL_law_505 : decode cL_law 505 = .ok (.iadd, 1) := by decide +kernel
theorem dL_law_506 : decode cL_law 506 = .ok (.iaload, 1) := by decide +kernel
theorem dL_law_507 : decode cL_law 507 = .ok (.invokevirtual 60, 3) := by decide +kernel
theorem dL_law_510 : decode cL_law 510 = .ok (.if_icmp .eq 592, 3) := by decide +kernel
theorem dL_law_513 : decode cL_law 513 = .ok (.iconst 0, 1) := by decide +kernel
theorem dL_law_514 : decode cL_law 514 = .ok (.ireturn, 1) := by decide +kernel
theorem dL_law_515 : decode cL_law 515 = .ok (.aload_n 1, 1) := by decide +kernel
theorem dL_law_516 : decode cL_law 516 = .ok (.aload_n 0, 1) := by decide +kernel
theorem dL_law_517 : decode cL_law 517 = .ok (.iload_n 3, 1) := by decide +kernel
theorem dL_law_518 : decode cL_law 518 = .ok (.iconst 1, 1) := by decide +kernel
theorem dL_law_519 : decode cL_law 519 = .ok (.iadd, 1) := by decide +kernel
theorem dL_law_520 : decode cL_law 520 = .ok (.iaload, 1) := by decide +kernel
theorem dL_law_521 : decode cL_law 521 = .ok (.aload_n 0, 1) := by decide +kernel
theorem dL_law_522 : decode cL_law 522 = .ok (.iload_n 3, 1) := by decide +kernel
theorem dL_law_523 : decode cL_law 523 = .ok (.iconst 2, 1) := by decide +kernel
theorem dL_law_524 : decode cL_law 524 = .ok (.iadd, 1) := by decide +kernel
theorem dL_law_525 : decode cL_law 525 = .ok (.iaload, 1) := by decide +kernel
theorem dL_law_526 : decode cL_law 526 = .ok (.aload_n 0, 1) := by decide +kernel
theorem dL_law_527 : decode cL_law 527 = .ok (.iload_n 3, 1) := by decide +kernel
theorem dL_law_528 : decode cL_law 528 = .ok (.iconst 3, 1) := by decide +kernel
theorem dL_law_529 : decode cL_law 529 = .ok (.iadd, 1) := by decide +kernel
theorem dL_law_530 : decode cL_law 530 = .ok (.iaload, 1) := by decide +kernel
theorem dL_law_531 : decode cL_law 531 = .ok (.invokevirtual 61, 3) := by decide +kernel
theorem dL_law_534 : decode cL_law 534 = .ok (.aload_n 2, 1) := by decide +kernel
theorem dL_law_535 : decode cL_law 535 = .ok (.aload_n 0, 1) := by decide +kernel
theorem dL_law_536 : decode cL_law 536 = .ok (.iload_n 3, 1) := by decide +kernel
theorem dL_law_537 : decode cL_law 537 = .ok (.iconst 1, 1) := by decide +kernel
theorem dL_law_538 : decode cL_law 538 = .ok (.iadd, 1) := by decide +kernel
theorem dL_law_539 : decode cL_law 539 = .ok (.iaload, 1) := by decide +kernel
theorem dL_law_540 : decode cL_law 540 = .ok (.aload_n 0, 1) := by decide +kernel
theorem dL_law_541 : decode cL_law 541 = .ok (.iload_n 3, 1) := by decide +kernel
theorem dL_law_542 : decode cL_law 542 = .ok (.iconst 2, 1) := by decide +kernel
theorem dL_law_543 : decode cL_law 543 = .ok (.iadd, 1) := by decide +kernel
theorem dL_law_544 : decode cL_law 544 = .ok (.iaload, 1) := by decide +kernel
theorem dL_law_545 : decode cL_law 545 = .ok (.aload_n 0, 1) := by decide +kernel
theorem dL_law_546 : decode cL_law 546 = .ok (.iload_n 3, 1) := by decide +kernel
theorem dL_law_547 : decode cL_law 547 = .ok (.iconst 3, 1) := by decide +kernel
theorem dL_law_548 : decode cL_law 548 = .ok (.iadd, 1) := by decide +kernel
theorem dL_law_549 : decode cL_law 549 = .ok (.iaload, 1) := by decide +kernel
theorem dL_law_550 : decode cL_law 550 = .ok (.invokevirtual 64, 3) := by decide +kernel
theorem dL_law_553 : decode cL_law 553 = .ok (.if_icmp .eq 549, 3) := by decide +kernel
theorem dL_law_556 : decode cL_law 556 = .ok (.iconst 0, 1) := by decide +kernel
theorem dL_law_557 : decode cL_law 557 = .ok (.ireturn, 1) := by decide +kernel
theorem dL_law_558 : decode cL_law 558 = .ok (.aload_n 1, 1) := by decide +kernel
theorem dL_law_559 : decode cL_law 559 = .ok (.aload_n 0, 1) := by decide +kernel
theorem dL_law_560 : decode cL_law 560 = .ok (.iload_n 3, 1) := by decide +kernel
theorem dL_law_561 : decode cL_law 561 = .ok (.iconst 1, 1) := by decide +kernel
theorem dL_law_562 : decode cL_law 562 = .ok (.iadd, 1) := by decide +kernel
theorem dL_law_563 : decode cL_law 563 = .ok (.iaload, 1) := by decide +kernel
theorem dL_law_564 : decode cL_law 564 = .ok (.aload_n 0, 1) := by decide +kernel
theorem dL_law_565 : decode cL_law 565 = .ok (.iload_n 3, 1) := by decide +kernel
theorem dL_law_566 : decode cL_law 566 = .ok (.iconst 2, 1) := by decide +kernel
theorem dL_law_567 : decode cL_law 567 = .ok (.iadd, 1) := by decide +kernel
theorem dL_law_568 : decode cL_law 568 = .ok (.iaload, 1) := by decide +kernel
theorem dL_law_569 : decode cL_law 569 = .ok (.aload_n 0, 1) := by decide +kernel
theorem dL_law_570 : decode cL_law 570 = .ok (.iload_n 3, 1) := by decide +kernel
theorem dL_law_571 : decode cL_law 571 = .ok (.iconst 3, 1) := by decide +kernel
theorem dL_law_572 : decode cL_law 572 = .ok (.iadd, 1) := by decide +kernel
theorem dL_law_573 : decode cL_law 573 = .ok (.iaload, 1) := by decide +kernel
theorem dL_law_574 : decode cL_law 574 = .ok (.aload_n 0, 1) := by decide +kernel
theorem dL_law_575 : decode cL_law 575 = .ok (.iload_n 3, 1) := by decide +kernel
theorem dL_law_576 : decode cL_law 576 = .ok (.iconst 4, 1) := by decide +kernel
theorem dL_law_577 : decode cL_law 577 = .ok (.iadd, 1) := by decide +kernel
theorem dL_law_578 : decode cL_law 578 = .ok (.iaload, 1) := by decide +kernel
theorem dL_law_579 : decode cL_law 579 = .ok (.invokevirtual 65, 3) := by decide +kernel
theorem dL_law_582 : decode cL_law 582 = .ok (.aload_n 2, 1) := by decide +kernel
theorem dL_law_583 : decode cL_law 583 = .ok (.aload_n 0, 1) := by decide +kernel
theorem dL_law_584 : decode cL_law 584 = .ok (.iload_n 3, 1) := by decide +kernel
theorem dL_law_585 : decode cL_law 585 = .ok (.iconst 1, 1) := by decide +kernel
theorem dL_law_586 : decode cL_law 586 = .ok (.iadd, 1) := by decide +kernel
theorem dL_law_587 : decode cL_law 587 = .ok (.iaload, 1) := by decide +kernel
theorem dL_law_588 : decode cL_law 588 = .ok (.aload_n 0, 1) := by decide +kernel
theorem dL_law_589 : decode cL_law 589 = .ok (.iload_n 3, 1) := by decide +kernel
theorem dL_law_590 : decode cL_law 590 = .ok (.iconst 2, 1) := by decide +kernel
theorem dL_law_591 : decode cL_law 591 = .ok (.iadd, 1) := by decide +kernel
theorem dL_law_592 : decode cL_law 592 = .ok (.iaload, 1) := by decide +kernel
theorem dL_law_593 : decode cL_law 593 = .ok (.aload_n 0, 1) := by decide +kernel
theorem dL_law_594 : decode cL_law 594 = .ok (.iload_n 3, 1) := by decide +kernel
theorem dL_law_595 : decode cL_law 595 = .ok (.iconst 3, 1) := by decide +kernel
theorem dL_law_596 : decode cL_law 596 = .ok (.iadd, 1) := by decide +kernel
theorem dL_law_597 : decode cL_law 597 = .ok (.iaload, 1) := by decide +kernel
theorem dL_law_598 : decode cL_law 598 = .ok (.aload_n 0, 1) := by decide +kernel
theorem dL_law_599 : decode cL_law 599 = .ok (.iload_n 3, 1) := by decide +kernel
theorem dL_law_600 : decode cL_law 600 = .ok (.iconst 4, 1) := by decide +kernel
theorem dL_law_601 : decode cL_law 601 = .ok (.iadd, 1) := by decide +kernel
theorem dL_law_602 : decode cL_law 602 = .ok (.iaload, 1) := by decide +kernel
theorem dL_law_603 : decode cL_law 603 = .ok (.invokevirtual 69, 3) := by decide +kernel
theorem dL_law_606 : decode cL_law 606 = .ok (.if_icmp .eq 496, 3) := by decide +kernel
theorem dL_law_609 : decode cL_law 609 = .ok (.iconst 0, 1) := by decide +kernel
theorem dL_law_610 : decode cL_law 610 = .ok (.ireturn, 1) := by decide +kernel
theorem dL_law_611 : decode cL_law 611 = .ok (.aload_n 1, 1) := by decide +kernel
theorem dL_law_612 : decode cL_law 612 = .ok (.aload_n 0, 1) := by decide +kernel
theorem dL_law_613 : decode cL_law 613 = .ok (.iload_n 3, 1) := by decide +kernel
theorem dL_law_614 : decode cL_law 614 = .ok (.iconst 1, 1) := by decide +kernel
theorem dL_law_615 : decode cL_law 615 = .ok (.iadd, 1) := by decide +kernel
theorem dL_law_616 : decode cL_law 616 = .ok (.iaload, 1) := by decide +kernel
theorem dL_law_617 : decode cL_law 617 = .ok (.aload_n 0, 1) := by decide +kernel
theorem dL_law_618 : decode cL_law 618 = .ok (.iload_n 3, 1) := by decide +kernel
theorem dL_law_619 : decode cL_law 619 = .ok (.iconst 2, 1) := by decide +kernel
theorem dL_law_620 : decode cL_law 620 = .ok (.iadd, 1) := by decide +kernel
theorem dL_law_621 : decode cL_law 621 = .ok (.iaload, 1) := by decide +kernel
theorem dL_law_622 : decode cL_law 622 = .ok (.aload_n 0, 1) := by decide +kernel
theorem dL_law_623 : decode cL_law 623 = .ok (.iload_n 3, 1) := by decide +kernel
theorem dL_law_624 : decode cL_law 624 = .ok (.iconst 3, 1) := by decide +kernel
theorem dL_law_625 : decode cL_law 625 = .ok (.iadd, 1) := by decide +kernel
theorem dL_law_626 : decode cL_law 626 = .ok (.iaload, 1) := by decide +kernel
theorem dL_law_627 : decode cL_law 627 = .ok (.aload_n 0, 1) := by decide +kernel
theorem dL_law_628 : decode cL_law 628 = .ok (.iload_n 3, 1) := by decide +kernel
theorem dL_law_629 : decode cL_law 629 = .ok (.iconst 4, 1) := by decide +kernel
theorem dL_law_630 : decode cL_law 630 = .ok (.iadd, 1) := by decide +kernel
theorem dL_law_631 : decode cL_law 631 = .ok (.iaload, 1) := by decide +kernel
theorem dL_law_632 : decode cL_law 632 = .ok (.invokevirtual 70, 3) := by decide +kernel
theorem dL_law_635 : decode cL_law 635 = .ok (.aload_n 2, 1) := by decide +kernel
theorem dL_law_636 : decode cL_law 636 = .ok (.aload_n 0, 1) := by decide +kernel
theorem dL_law_637 : decode cL_law 637 = .ok (.iload_n 3, 1) := by decide +kernel
theorem dL_law_638 : decode cL_law 638 = .ok (.iconst 1, 1) := by decide +kernel
theorem dL_law_639 : decode cL_law 639 = .ok (.iadd, 1) := by decide +kernel
theorem dL_law_640 : decode cL_law 640 = .ok (.iaload, 1) := by decide +kernel
theorem dL_law_641 : decode cL_law 641 = .ok (.aload_n 0, 1) := by decide +kernel
theorem dL_law_642 : decode cL_law 642 = .ok (.iload_n 3, 1) := by decide +kernel
theorem dL_law_643 : decode cL_law 643 = .ok (.iconst 2, 1) := by decide +kernel
theorem dL_law_644 : decode cL_law 644 = .ok (.iadd, 1) := by decide +kernel
theorem dL_law_645 : decode cL_law 645 = .ok (.iaload, 1) := by decide +kernel
theorem dL_law_646 : decode cL_law 646 = .ok (.aload_n 0, 1) := by decide +kernel
theorem dL_law_647 : decode cL_law 647 = .ok (.iload_n 3, 1) := by decide +kernel
theorem dL_law_648 : decode cL_law 648 = .ok (.iconst 3, 1) := by decide +kernel
theorem dL_law_649 : decode cL_law 649 = .ok (.iadd, 1) := by decide +kernel
theorem dL_law_650 : decode cL_law 650 = .ok (.iaload, 1) := by decide +kernel
theorem dL_law_651 : decode cL_law 651 = .ok (.aload_n 0, 1) := by decide +kernel
theorem dL_law_652 : decode cL_law 652 = .ok (.iload_n 3, 1) := by decide +kernel
theorem dL_law_653 : decode cL_law 653 = .ok (.iconst 4, 1) := by decide +kernel
theorem dL_law_654 : decode cL_law 654 = .ok (.iadd, 1) := by decide +kernel
theorem dL_law_655 : decode cL_law 655 = .ok (.iaload, 1) := by decide +kernel
theorem dL_law_656 : decode cL_law 656 = .ok (.invokevirtual 73, 3) := by decide +kernel
theorem dL_law_659 : decode cL_law 659 = .ok (.if_icmp .eq 443, 3) := by decide +kernel
theorem dL_law_662 : decode cL_law 662 = .ok (.iconst 0, 1) := by decide +kernel
theorem dL_law_663 : decode cL_law 663 = .ok (.ireturn, 1) := by decide +kernel
theorem dL_law_664 : decode cL_law 664 = .ok (.aload_n 1, 1) := by decide +kernel
theorem dL_law_665 : decode cL_law 665 = .ok (.invokevirtual 74, 3) := by decide +kernel
theorem dL_law_668 : decode cL_law 668 = .ok (.aload_n 2, 1) := by decide +kernel
theorem dL_law_669 : decode cL_law 669 = .ok (.invokevirtual 77, 3) := by decide +kernel
theorem dL_law_672 : decode cL_law 672 = .ok (.if_icmp .eq 430, 3) := by decide +kernel
theorem dL_law_675 : decode cL_law 675 = .ok (.iconst 0, 1) := by decide +kernel
theorem dL_law_676 : decode cL_law 676 = .ok (.ireturn, 1) := by decide +kernel
theorem dL_law_677 : decode cL_law 677 = .ok (.aload_n 1, 1) := by decide +kernel
theorem dL_law_678 : decode cL_law 678 = .ok (.aload_n 0, 1) := by decide +kernel
theorem dL_law_679 : decode cL_law 679 = .ok (.iload_n 3, 1) := by decide +kernel
theorem dL_law_680 : decode cL_law 680 = .ok (.iconst 1, 1) := by decide +kernel
theorem dL_law_681 : decode cL_law 681 = .ok (.iadd, 1) := by decide +kernel
theorem dL_law_682 : decode cL_law 682 = .ok (.iaload, 1) := by decide +kernel
theorem dL_law_683 : decode cL_law 683 = .ok (.aload_n 0, 1) := by decide +kernel
theorem dL_law_684 : decode cL_law 684 = .ok (.iload_n 3, 1) := by decide +kernel
theorem dL_law_685 : decode cL_law 685 = .ok (.iconst 2, 1) := by decide +kernel
theorem dL_law_686 : decode cL_law 686 = .ok (.iadd, 1) := by decide +kernel
theorem dL_law_687 : decode cL_law 687 = .ok (.iaload, 1) := by decide +kernel
theorem dL_law_688 : decode cL_law 688 = .ok (.aload_n 0, 1) := by decide +kernel
theorem dL_law_689 : decode cL_law 689 = .ok (.iload_n 3, 1) := by decide +kernel
theorem dL_law_690 : decode cL_law 690 = .ok (.iconst 3, 1) := by decide +kernel
theorem dL_law_691 : decode cL_law 691 = .ok (.iadd, 1) := by decide +kernel
theorem dL_law_692 : decode cL_law 692 = .ok (.iaload, 1) := by decide +kernel
theorem dL_law_693 : decode cL_law 693 = .ok (.aload_n 0, 1) := by decide +kernel
theorem dL_law_694 : decode cL_law 694 = .ok (.iload_n 3, 1) := by decide +kernel
theorem dL_law_695 : decode cL_law 695 = .ok (.iconst 4, 1) := by decide +kernel
theorem dL_law_696 : decode cL_law 696 = .ok (.iadd, 1) := by decide +kernel
theorem dL_law_697 : decode cL_law 697 = .ok (.iaload, 1) := by decide +kernel
theorem dL_law_698 : decode cL_law 698 = .ok (.invokevirtual 78, 3) := by decide +kernel
theorem dL_law_701 : decode cL_law 701 = .ok (.aload_n 2, 1) := by decide +kernel
theorem dL_law_702 : decode cL_law 702 = .ok (.aload_n 0, 1) := by decide +kernel
theorem dL_law_703 : decode cL_law 703 = .ok (.iload_n 3, 1) := by decide +kernel
theorem dL_law_704 : decode cL_law 704 = .ok (.iconst 1, 1) := by decide +kernel
theorem dL_law_705 : decode cL_law 705 = .ok (.iadd, 1) := by decide +kernel
theorem dL_law_706 : decode cL_law 706 = .ok (.iaload, 1) := by decide +kernel
theorem dL_law_707 : decode cL_law 707 = .ok (.aload_n 0, 1) := by decide +kernel
theorem dL_law_708 : decode cL_law 708 = .ok (.iload_n 3, 1) := by decide +kernel
theorem dL_law_709 : decode cL_law 709 = .ok (.iconst 2, 1) := by decide +kernel
theorem dL_law_710 : decode cL_law 710 = .ok (.iadd, 1) := by decide +kernel
theorem dL_law_711 : decode cL_law 711 = .ok (.iaload, 1) := by decide +kernel
theorem dL_law_712 : decode cL_law 712 = .ok (.aload_n 0, 1) := by decide +kernel
theorem dL_law_713 : decode cL_law 713 = .ok (.iload_n 3, 1) := by decide +kernel
theorem dL_law_714 : decode cL_law 714 = .ok (.iconst 3, 1) := by decide +kernel
theorem dL_law_715 : decode cL_law 715 = .ok (.iadd, 1) := by decide +kernel
theorem dL_law_716 : decode cL_law 716 = .ok (.iaload, 1) := by decide +kernel
theorem dL_law_717 : decode cL_law 717 = .ok (.aload_n 0, 1) := by decide +kernel
theorem dL_law_718 : decode cL_law 718 = .ok (.iload_n 3, 1) := by decide +kernel
theorem dL_law_719 : decode cL_law 719 = .ok (.iconst 4, 1) := by decide +kernel
theorem dL_law_720 : decode cL_law 720 = .ok (.iadd, 1) := by decide +kernel
theorem dL_law_721 : decode cL_law 721 = .ok (.iaload, 1) := by decide +kernel
theorem dL_law_722 : decode cL_law 722 = .ok (.invokevirtual 81, 3) := by decide +kernel
theorem dL_law_725 : decode cL_law 725 = .ok (.if_icmp .eq 377, 3) := by decide +kernel
theorem dL_law_728 : decode cL_law 728 = .ok (.iconst 0, 1) := by decide +kernel
theorem dL_law_729 : decode cL_law 729 = .ok (.ireturn, 1) := by decide +kernel
theorem dL_law_730 : decode cL_law 730 = .ok (.aload_n 1, 1) := by decide +kernel
theorem dL_law_731 : decode cL_law 731 = .ok (.aload_n 0, 1) := by decide +kernel
theorem dL_law_732 : decode cL_law 732 = .ok (.iload_n 3, 1) := by decide +kernel
theorem dL_law_733 : decode cL_law 733 = .ok (.iconst 1, 1) := by decide +kernel
theorem dL_law_734 : decode cL_law 734 = .ok (.iadd, 1) := by decide +kernel
theorem dL_law_735 : decode cL_law 735 = .ok (.iaload, 1) := by decide +kernel
theorem dL_law_736 : decode cL_law 736 = .ok (.aload_n 0, 1) := by decide +kernel
theorem dL_law_737 : decode cL_law 737 = .ok (.iload_n 3, 1) := by decide +kernel
theorem dL_law_738 : decode cL_law 738 = .ok (.iconst 2, 1) := by decide +kernel
theorem dL_law_739 : decode cL_law 739 = .ok (.iadd, 1) := by decide +kernel
theorem dL_law_740 : decode cL_law 740 = .ok (.iaload, 1) := by decide +kernel
theorem dL_law_741 : decode cL_law 741 = .ok (.invokevirtual 82, 3) := by decide +kernel
theorem dL_law_744 : decode cL_law 744 = .ok (.aload_n 2, 1) := by decide +kernel
theorem dL_law_745 : decode cL_law 745 = .ok (.aload_n 0, 1) := by decide +kernel
theorem dL_law_746 : decode cL_law 746 = .ok (.iload_n 3, 1) := by decide +kernel
theorem dL_law_747 : decode cL_law 747 = .ok (.iconst 1, 1) := by decide +kernel
theorem dL_law_748 : decode cL_law 748 = .ok (.iadd, 1) := by decide +kernel
theorem dL_law_749 : decode cL_law 749 = .ok (.iaload, 1) := by decide +kernel
theorem dL_law_750 : decode cL_law 750 = .ok (.aload_n 0, 1) := by decide +kernel
theorem dL_law_751 : decode cL_law 751 = .ok (.iload_n 3, 1) := by decide +kernel
theorem dL_law_752 : decode cL_law 752 = .ok (.iconst 2, 1) := by decide +kernel
theorem dL_law_753 : decode cL_law 753 = .ok (.iadd, 1) := by decide +kernel
theorem dL_law_754 : decode cL_law 754 = .ok (.iaload, 1) := by decide +kernel
theorem dL_law_755 : decode cL_law 755 = .ok (.invokevirtual 85, 3) := by decide +kernel
theorem dL_law_758 : decode cL_law 758 = .ok (.if_icmp .eq 344, 3) := by decide +kernel
theorem dL_law_761 : decode cL_law 761 = .ok (.iconst 0, 1) := by decide +kernel
theorem dL_law_762 : decode cL_law 762 = .ok (.ireturn, 1) := by decide +kernel
theorem dL_law_763 : decode cL_law 763 = .ok (.aload_n 1, 1) := by decide +kernel
theorem dL_law_764 : decode cL_law 764 = .ok (.aload_n 0, 1) := by decide +kernel
theorem dL_law_765 : decode cL_law 765 = .ok (.iload_n 3, 1) := by decide +kernel
theorem dL_law_766 : decode cL_law 766 = .ok (.iconst 1, 1) := by decide +kernel
theorem dL_law_767 : decode cL_law 767 = .ok (.iadd, 1) := by decide +kernel
theorem dL_law_768 : decode cL_law 768 = .ok (.iaload, 1) := by decide +kernel
theorem dL_law_769 : decode cL_law 769 = .ok (.aload_n 0, 1) := by decide +kernel
theorem dL_law_770 : decode cL_law 770 = .ok (.iload_n 3, 1) := by decide +kernel
theorem dL_law_771 : decode cL_law 771 = .ok (.iconst 2, 1) := by decide +kernel
theorem dL_law_772 : decode cL_law 772 = .ok (.iadd, 1) := by decide +kernel
theorem dL_law_773 : decode cL_law 773 = .ok (.iaload, 1) := by decide +kernel
theorem dL_law_774 : decode cL_law 774 = .ok (.invokevirtual 86, 3) := by decide +kernel
theorem dL_law_777 : decode cL_law 777 = .ok (.aload_n 2, 1) := by decide +kernel
theorem dL_law_778 : decode cL_law 778 = .ok (.aload_n 0, 1) := by decide +kernel
theorem dL_law_779 : decode cL_law 779 = .ok (.iload_n 3, 1) := by decide +kernel
theorem dL_law_780 : decode cL_law 780 = .ok (.iconst 1, 1) := by decide +kernel
theorem dL_law_781 : decode cL_law 781 = .ok (.iadd, 1) := by decide +kernel
theorem dL_law_782 : decode cL_law 782 = .ok (.iaload, 1) := by decide +kernel
theorem dL_law_783 : decode cL_law 783 = .ok (.aload_n 0, 1) := by decide +kernel
theorem dL_law_784 : decode cL_law 784 = .ok (.iload_n 3, 1) := by decide +kernel
theorem dL_law_785 : decode cL_law 785 = .ok (.iconst 2, 1) := by decide +kernel
theorem dL_law_786 : decode cL_law 786 = .ok (.iadd, 1) := by decide +kernel
theorem dL_law_787 : decode cL_law 787 = .ok (.iaload, 1) := by decide +kernel
theorem dL_law_788 : decode cL_law 788 = .ok (.invokevirtual 89, 3) := by decide +kernel
theorem dL_law_791 : decode cL_law 791 = .ok (.if_icmp .eq 311, 3) := by decide +kernel
theorem dL_law_794 : decode cL_law 794 = .ok (.iconst 0, 1) := by decide +kernel
theorem dL_law_795 : decode cL_law 795 = .ok (.ireturn, 1) := by decide +kernel
theorem dL_law_796 : decode cL_law 796 = .ok (.aload_n 1, 1) := by decide +kernel
theorem dL_law_797 : decode cL_law 797 = .ok (.aload_n 0, 1) := by decide +kernel
theorem dL_law_798 : decode cL_law 798 = .ok (.iload_n 3, 1) := by decide +kernel
theorem dL_law_799 : decode cL_law 799 = .ok (.iconst 1, 1) := by decide +kernel
theorem dL_law_800 : decode cL_law 800 = .ok (.iadd, 1) := by decide +kernel
theorem dL_law_801 : decode cL_law 801 = .ok (.iaload, 1) := by decide +kernel
theorem dL_law_802 : decode cL_law 802 = .ok (.aload_n 0, 1) := by decide +kernel
theorem dL_law_803 : decode cL_law 803 = .ok (.iload_n 3, 1) := by decide +kernel
theorem dL_law_804 : decode cL_law 804 = .ok (.iconst 2, 1) := by decide +kernel
theorem dL_law_805 : decode cL_law 805 = .ok (.iadd, 1) := by decide +kernel
theorem dL_law_806 : decode cL_law 806 = .ok (.iaload, 1) := by decide +kernel
theorem dL_law_807 : decode cL_law 807 = .ok (.aload_n 0, 1) := by decide +kernel
theorem dL_law_808 : decode cL_law 808 = .ok (.iload_n 3, 1) := by decide +kernel
theorem dL_law_809 : decode cL_law 809 = .ok (.iconst 3, 1) := by decide +kernel
theorem dL_law_810 : decode cL_law 810 = .ok (.iadd, 1) := by decide +kernel
theorem dL_law_811 : decode cL_law 811 = .ok (.iaload, 1) := by decide +kernel
theorem dL_law_812 : decode cL_law 812 = .ok (.invokevirtual 90, 3) := by decide +kernel
theorem dL_law_815 : decode cL_law 815 = .ok (.aload_n 2, 1) := by decide +kernel
theorem dL_law_816 : decode cL_law 816 = .ok (.aload_n 0, 1) := by decide +kernel
theorem dL_law_817 : decode cL_law 817 = .ok (.iload_n 3, 1) := by decide +kernel
theorem dL_law_818 : decode cL_law 818 = .ok (.iconst 1, 1) := by decide +kernel
theorem dL_law_819 : decode cL_law 819 = .ok (.iadd, 1) := by decide +kernel
theorem dL_law_820 : decode cL_law 820 = .ok (.iaload, 1) := by decide +kernel
theorem dL_law_821 : decode cL_law 821 = .ok (.aload_n 0, 1) := by decide +kernel
theorem dL_law_822 : decode cL_law 822 = .ok (.iload_n 3, 1) := by decide +kernel
theorem dL_law_823 : decode cL_law 823 = .ok (.iconst 2, 1) := by decide +kernel
theorem dL_law_824 : decode cL_law 824 = .ok (.iadd, 1) := by decide +kernel
theorem dL_law_825 : decode cL_law 825 = .ok (.iaload, 1) := by decide +kernel
theorem dL_law_826 : decode cL_law 826 = .ok (.aload_n 0, 1) := by decide +kernel
theorem dL_law_827 : decode cL_law 827 = .ok (.iload_n 3, 1) := by decide +kernel
theorem dL_law_828 : decode cL_law 828 = .ok (.iconst 3, 1) := by decide +kernel
theorem dL_law_829 : decode cL_law 829 = .ok (.iadd, 1) := by decide +kernel
theorem dL_law_830 : decode cL_law 830 = .ok (.iaload, 1) := by decide +kernel
theorem dL_law_831 : decode cL_law 831 = .ok (.invokevirtual 94, 3) := by decide +kernel
theorem dL_law_834 : decode cL_law 834 = .ok (.lcmp, 1) := by decide +kernel
theorem dL_law_835 : decode cL_law 835 = .ok (.ifCond .eq 267, 3) := by decide +kernel
theorem dL_law_838 : decode cL_law 838 = .ok (.iconst 0, 1) := by decide +kernel
theorem dL_law_839 : decode cL_law 839 = .ok (.ireturn, 1) := by decide +kernel
theorem dL_law_840 : decode cL_law 840 = .ok (.aload_n 1, 1) := by decide +kernel
theorem dL_law_841 : decode cL_law 841 = .ok (.aload_n 0, 1) := by decide +kernel
theorem dL_law_842 : decode cL_law 842 = .ok (.iload_n 3, 1) := by decide +kernel
theorem dL_law_843 : decode cL_law 843 = .ok (.iconst 1, 1) := by decide +kernel
theorem dL_law_844 : decode cL_law 844 = .ok (.iadd, 1) := by decide +kernel
theorem dL_law_845 : decode cL_law 845 = .ok (.iaload, 1) := by decide +kernel
theorem dL_law_846 : decode cL_law 846 = .ok (.aload_n 0, 1) := by decide +kernel
theorem dL_law_847 : decode cL_law 847 = .ok (.iload_n 3, 1) := by decide +kernel
theorem dL_law_848 : decode cL_law 848 = .ok (.iconst 2, 1) := by decide +kernel
theorem dL_law_849 : decode cL_law 849 = .ok (.iadd, 1) := by decide +kernel
theorem dL_law_850 : decode cL_law 850 = .ok (.iaload, 1) := by decide +kernel
theorem dL_law_851 : decode cL_law 851 = .ok (.invokevirtual 95, 3) := by decide +kernel
theorem dL_law_854 : decode cL_law 854 = .ok (.aload_n 2, 1) := by decide +kernel
theorem dL_law_855 : decode cL_law 855 = .ok (.aload_n 0, 1) := by decide +kernel
theorem dL_law_856 : decode cL_law 856 = .ok (.iload_n 3, 1) := by decide +kernel
theorem dL_law_857 : decode cL_law 857 = .ok (.iconst 1, 1) := by decide +kernel
theorem dL_law_858 : decode cL_law 858 = .ok (.iadd, 1) := by decide +kernel
theorem dL_law_859 : decode cL_law 859 = .ok (.iaload, 1) := by decide +kernel
theorem dL_law_860 : decode cL_law 860 = .ok (.aload_n 0, 1) := by decide +kernel
theorem dL_law_861 : decode cL_law 861 = .ok (.iload_n 3, 1) := by decide +kernel
theorem dL_law_862 : decode cL_law 862 = .ok (.iconst 2, 1) := by decide +kernel
theorem dL_law_863 : decode cL_law 863 = .ok (.iadd, 1) := by decide +kernel
theorem dL_law_864 : decode cL_law 864 = .ok (.iaload, 1) := by decide +kernel
theorem dL_law_865 : decode cL_law 865 = .ok (.invokevirtual 99, 3) := by decide +kernel
theorem dL_law_868 : decode cL_law 868 = .ok (.lcmp, 1) := by decide +kernel
theorem dL_law_869 : decode cL_law 869 = .ok (.ifCond .eq 233, 3) := by decide +kernel
theorem dL_law_872 : decode cL_law 872 = .ok (.iconst 0, 1) := by decide +kernel
theorem dL_law_873 : decode cL_law 873 = .ok (.ireturn, 1) := by decide +kernel
theorem dL_law_874 : decode cL_law 874 = .ok (.aload_n 1, 1) := by decide +kernel
theorem dL_law_875 : decode cL_law 875 = .ok (.aload_n 0, 1) := by decide +kernel
theorem dL_law_876 : decode cL_law 876 = .ok (.iload_n 3, 1) := by decide +kernel
theorem dL_law_877 : decode cL_law 877 = .ok (.iconst 1, 1) := by decide +kernel
theorem dL_law_878 : decode cL_law 878 = .ok (.iadd, 1) := by decide +kernel
theorem dL_law_879 : decode cL_law 879 = .ok (.iaload, 1) := by decide +kernel
theorem dL_law_880 : decode cL_law 880 = .ok (.invokevirtual 100, 3) := by decide +kernel
theorem dL_law_883 : decode cL_law 883 = .ok (.aload_n 2, 1) := by decide +kernel
theorem dL_law_884 : decode cL_law 884 = .ok (.aload_n 0, 1) := by decide +kernel
theorem dL_law_885 : decode cL_law 885 = .ok (.iload_n 3, 1) := by decide +kernel
theorem dL_law_886 : decode cL_law 886 = .ok (.iconst 1, 1) := by decide +kernel
theorem dL_law_887 : decode cL_law 887 = .ok (.iadd, 1) := by decide +kernel
theorem dL_law_888 : decode cL_law 888 = .ok (.iaload, 1) := by decide +kernel
theorem dL_law_889 : decode cL_law 889 = .ok (.invokevirtual 103, 3) := by decide +kernel
theorem dL_law_892 : decode cL_law 892 = .ok (.if_icmp .eq 210, 3) := by decide +kernel
theorem dL_law_895 : decode cL_law 895 = .ok (.iconst 0, 1) := by decide +kernel
theorem dL_law_896 : decode cL_law 896 = .ok (.ireturn, 1) := by decide +kernel
theorem dL_law_897 : decode cL_law 897 = .ok (.aload_n 1, 1) := by decide +kernel
theorem dL_law_898 : decode cL_law 898 = .ok (.aload_n 0, 1) := by decide +kernel
theorem dL_law_899 : decode cL_law 899 = .ok (.iload_n 3, 1) := by decide +kernel
theorem dL_law_900 : decode cL_law 900 = .ok (.iconst 1, 1) := by decide +kernel
theorem dL_law_901 : decode cL_law 901 = .ok (.iadd, 1) := by decide +kernel
theorem dL_law_902 : decode cL_law 902 = .ok (.iaload, 1) := by decide +kernel
theorem dL_law_903 : decode cL_law 903 = .ok (.aload_n 0, 1) := by decide +kernel
theorem dL_law_904 : decode cL_law 904 = .ok (.iload_n 3, 1) := by decide +kernel
theorem dL_law_905 : decode cL_law 905 = .ok (.iconst 2, 1) := by decide +kernel
theorem dL_law_906 : decode cL_law 906 = .ok (.iadd, 1) := by decide +kernel
theorem dL_law_907 : decode cL_law 907 = .ok (.iaload, 1) := by decide +kernel
theorem dL_law_908 : decode cL_law 908 = .ok (.invokevirtual 104, 3) := by decide +kernel
theorem dL_law_911 : decode cL_law 911 = .ok (.aload_n 2, 1) := by decide +kernel
theorem dL_law_912 : decode cL_law 912 = .ok (.aload_n 0, 1) := by decide +kernel
theorem dL_law_913 : decode cL_law 913 = .ok (.iload_n 3, 1) := by decide +kernel
theorem dL_law_914 : decode cL_law 914 = .ok (.iconst 1, 1) := by decide +kernel
theorem dL_law_915 : decode cL_law 915 = .ok (.iadd, 1) := by decide +kernel
theorem dL_law_916 : decode cL_law 916 = .ok (.iaload, 1) := by decide +kernel
theorem dL_law_917 : decode cL_law 917 = .ok (.aload_n 0, 1) := by decide +kernel
theorem dL_law_918 : decode cL_law 918 = .ok (.iload_n 3, 1) := by decide +kernel
theorem dL_law_919 : decode cL_law 919 = .ok (.iconst 2, 1) := by decide +kernel
theorem dL_law_920 : decode cL_law 920 = .ok (.iadd, 1) := by decide +kernel
theorem dL_law_921 : decode cL_law 921 = .ok (.iaload, 1) := by decide +kernel
theorem dL_law_922 : decode cL_law 922 = .ok (.invokevirtual 107, 3) := by decide +kernel
theorem dL_law_925 : decode cL_law 925 = .ok (.if_icmp .eq 177, 3) := by decide +kernel
theorem dL_law_928 : decode cL_law 928 = .ok (.iconst 0, 1) := by decide +kernel
theorem dL_law_929 : decode cL_law 929 = .ok (.ireturn, 1) := by decide +kernel
theorem dL_law_930 : decode cL_law 930 = .ok (.aload_n 1, 1) := by decide +kernel
theorem dL_law_931 : decode cL_law 931 = .ok (.aload_n 0, 1) := by decide +kernel
theorem dL_law_932 : decode cL_law 932 = .ok (.iload_n 3, 1) := by decide +kernel
theorem dL_law_933 : decode cL_law 933 = .ok (.iconst 1, 1) := by decide +kernel
theorem dL_law_934 : decode cL_law 934 = .ok (.iadd, 1) := by decide +kernel
theorem dL_law_935 : decode cL_law 935 = .ok (.iaload, 1) := by decide +kernel
theorem dL_law_936 : decode cL_law 936 = .ok (.aload_n 0, 1) := by decide +kernel
theorem dL_law_937 : decode cL_law 937 = .ok (.iload_n 3, 1) := by decide +kernel
theorem dL_law_938 : decode cL_law 938 = .ok (.iconst 2, 1) := by decide +kernel
theorem dL_law_939 : decode cL_law 939 = .ok (.iadd, 1) := by decide +kernel
theorem dL_law_940 : decode cL_law 940 = .ok (.iaload, 1) := by decide +kernel
theorem dL_law_941 : decode cL_law 941 = .ok (.aload_n 0, 1) := by decide +kernel
theorem dL_law_942 : decode cL_law 942 = .ok (.iload_n 3, 1) := by decide +kernel
theorem dL_law_943 : decode cL_law 943 = .ok (.iconst 3, 1) := by decide +kernel
theorem dL_law_944 : decode cL_law 944 = .ok (.iadd, 1) := by decide +kernel
theorem dL_law_945 : decode cL_law 945 = .ok (.iaload, 1) := by decide +kernel
theorem dL_law_946 : decode cL_law 946 = .ok (.aload_n 0, 1) := by decide +kernel
theorem dL_law_947 : decode cL_law 947 = .ok (.iload_n 3, 1) := by decide +kernel
theorem dL_law_948 : decode cL_law 948 = .ok (.iconst 4, 1) := by decide +kernel
theorem dL_law_949 : decode cL_law 949 = .ok (.iadd, 1) := by decide +kernel
theorem dL_law_950 : decode cL_law 950 = .ok (.iaload, 1) := by decide +kernel
theorem dL_law_951 : decode cL_law 951 = .ok (.aload_n 0, 1) := by decide +kernel
theorem dL_law_952 : decode cL_law 952 = .ok (.iload_n 3, 1) := by decide +kernel
theorem dL_law_953 : decode cL_law 953 = .ok (.iconst 5, 1) := by decide +kernel
theorem dL_law_954 : decode cL_law 954 = .ok (.iadd, 1) := by decide +kernel
theorem dL_law_955 : decode cL_law 955 = .ok (.iaload, 1) := by decide +kernel
theorem dL_law_956 : decode cL_law 956 = .ok (.invokevirtual 108, 3) := by decide +kernel
theorem dL_law_959 : decode cL_law 959 = .ok (.aload_n 2, 1) := by decide +kernel
theorem dL_law_960 : decode cL_law 960 = .ok (.aload_n 0, 1) := by decide +kernel
theorem dL_law_961 : decode cL_law 961 = .ok (.iload_n 3, 1) := by decide +kernel
theorem dL_law_962 : decode cL_law 962 = .ok (.iconst 1, 1) := by decide +kernel
theorem dL_law_963 : decode cL_law 963 = .ok (.iadd, 1) := by decide +kernel
theorem dL_law_964 : decode cL_law 964 = .ok (.iaload, 1) := by decide +kernel
theorem dL_law_965 : decode cL_law 965 = .ok (.aload_n 0, 1) := by decide +kernel
theorem dL_law_966 : decode cL_law 966 = .ok (.iload_n 3, 1) := by decide +kernel
theorem dL_law_967 : decode cL_law 967 = .ok (.iconst 2, 1) := by decide +kernel
theorem dL_law_968 : decode cL_law 968 = .ok (.iadd, 1) := by decide +kernel
theorem dL_law_969 : decode cL_law 969 = .ok (.iaload, 1) := by decide +kernel
theorem dL_law_970 : decode cL_law 970 = .ok (.aload_n 0, 1) := by decide +kernel
theorem dL_law_971 : decode cL_law 971 = .ok (.iload_n 3, 1) := by decide +kernel
theorem dL_law_972 : decode cL_law 972 = .ok (.iconst 3, 1) := by decide +kernel
theorem dL_law_973 : decode cL_law 973 = .ok (.iadd, 1) := by decide +kernel
theorem dL_law_974 : decode cL_law 974 = .ok (.iaload, 1) := by decide +kernel
theorem dL_law_975 : decode cL_law 975 = .ok (.aload_n 0, 1) := by decide +kernel
theorem dL_law_976 : decode cL_law 976 = .ok (.iload_n 3, 1) := by decide +kernel
theorem dL_law_977 : decode cL_law 977 = .ok (.iconst 4, 1) := by decide +kernel
theorem dL_law_978 : decode cL_law 978 = .ok (.iadd, 1) := by decide +kernel
theorem dL_law_979 : decode cL_law 979 = .ok (.iaload, 1) := by decide +kernel
theorem dL_law_980 : decode cL_law 980 = .ok (.aload_n 0, 1) := by decide +kernel
theorem dL_law_981 : decode cL_law 981 = .ok (.iload_n 3, 1) := by decide +kernel
theorem dL_law_982 : decode cL_law 982 = .ok (.iconst 5, 1) := by decide +kernel
theorem dL_law_983 : decode cL_law 983 = .ok (.iadd, 1) := by decide +kernel
theorem dL_law_984 : decode cL_law 984 = .ok (.iaload, 1) := by decide +kernel
theorem dL_law_985 : decode cL_law 985 = .ok (.invokevirtual 112, 3) := by decide +kernel
theorem dL_law_988 : decode cL_law 988 = .ok (.if_icmp .eq 114, 3) := by decide +kernel
theorem dL_law_991 : decode cL_law 991 = .ok (.iconst 0, 1) := by decide +kernel
theorem dL_law_992 : decode cL_law 992 = .ok (.ireturn, 1) := by decide +kernel
theorem dL_law_993 : decode cL_law 993 = .ok (.aload_n 1, 1) := by decide +kernel
theorem dL_law_994 : decode cL_law 994 = .ok (.aload_n 0, 1) := by decide +kernel
theorem dL_law_995 : decode cL_law 995 = .ok (.iload_n 3, 1) := by decide +kernel
theorem dL_law_996 : decode cL_law 996 = .ok (.iconst 1, 1) := by decide +kernel
theorem dL_law_997 : decode cL_law 997 = .ok (.iadd, 1) := by decide +kernel
theorem dL_law_998 : decode cL_law 998 = .ok (.iaload, 1) := by decide +kernel
theorem dL_law_999 : decode cL_law 999 = .ok (.aload_n 0, 1) := by decide +kernel
theorem dL_law_1000 : decode cL_law 1000 = .ok (.iload_n 3, 1) := by decide +kernel
theorem dL_law_1001 : decode cL_law 1001 = .ok (.iconst 2, 1) := by decide +kernel
theorem dL_law_1002 : decode cL_law 1002 = .ok (.iadd, 1) := by decide +kernel
theorem dL_law_1003 : decode cL_law 1003 = .ok (.iaload, 1) := by decide +kernel
theorem dL_law_1004 : decode cL_law 1004 = .ok (.aload_n 0, 1) := by decide +kernel
theorem dL_law_1005 : decode cL_law 1005 = .ok (.iload_n 3, 1) := by decide +kernel
theorem dL_law_1006 : decode cL_law 1006 = .ok (.iconst 3, 1) := by decide +kernel
theorem dL_law_1007 : decode cL_law 1007 = .ok (.iadd, 1) := by decide +kernel
theorem dL_law_1008 : decode cL_law 1008 = .ok (.iaload, 1) := by decide +kernel
theorem dL_law_1009 : decode cL_law 1009 = .ok (.invokevirtual 113, 3) := by decide +kernel
theorem dL_law_1012 : decode cL_law 1012 = .ok (.aload_n 2, 1) := by decide +kernel
theorem dL_law_1013 : decode cL_law 1013 = .ok (.aload_n 0, 1) := by decide +kernel
theorem dL_law_1014 : decode cL_law 1014 = .ok (.iload_n 3, 1) := by decide +kernel
theorem dL_law_1015 : decode cL_law 1015 = .ok (.iconst 1, 1) := by decide +kernel
theorem dL_law_1016 : decode cL_law 1016 = .ok (.iadd, 1) := by decide +kernel
theorem dL_law_1017 : decode cL_law 1017 = .ok (.iaload, 1) := by decide +kernel
theorem dL_law_1018 : decode cL_law 1018 = .ok (.aload_n 0, 1) := by decide +kernel
theorem dL_law_1019 : decode cL_law 1019 = .ok (.iload_n 3, 1) := by decide +kernel
theorem dL_law_1020 : decode cL_law 1020 = .ok (.iconst 2, 1) := by decide +kernel
theorem dL_law_1021 : decode cL_law 1021 = .ok (.iadd, 1) := by decide +kernel
theorem dL_law_1022 : decode cL_law 1022 = .ok (.iaload, 1) := by decide +kernel
theorem dL_law_1023 : decode cL_law 1023 = .ok (.aload_n 0, 1) := by decide +kernel
theorem dL_law_1024 : decode cL_law 1024 = .ok (.iload_n 3, 1) := by decide +kernel
theorem dL_law_1025 : decode cL_law 1025 = .ok (.iconst 3, 1) := by decide +kernel
theorem dL_law_1026 : decode cL_law 1026 = .ok (.iadd, 1) := by decide +kernel
theorem dL_law_1027 : decode cL_law 1027 = .ok (.iaload, 1) := by decide +kernel
theorem dL_law_1028 : decode cL_law 1028 = .ok (.invokevirtual 116, 3) := by decide +kernel
theorem dL_law_1031 : decode cL_law 1031 = .ok (.if_icmp .eq 71, 3) := by decide +kernel
theorem dL_law_1034 : decode cL_law 1034 = .ok (.iconst 0, 1) := by decide +kernel
theorem dL_law_1035 : decode cL_law 1035 = .ok (.ireturn, 1) := by decide +kernel
theorem dL_law_1036 : decode cL_law 1036 = .ok (.aload_n 1, 1) := by decide +kernel
theorem dL_law_1037 : decode cL_law 1037 = .ok (.aload_n 0, 1) := by decide +kernel
theorem dL_law_1038 : decode cL_law 1038 = .ok (.iload_n 3, 1) := by decide +kernel
theorem dL_law_1039 : decode cL_law 1039 = .ok (.iconst 1, 1) := by decide +kernel
theorem dL_law_1040 : decode cL_law 1040 = .ok (.iadd, 1) := by decide +kernel
theorem dL_law_1041 : decode cL_law 1041 = .ok (.iaload, 1) := by decide +kernel
theorem dL_law_1042 : decode cL_law 1042 = .ok (.aload_n 0, 1) := by decide +kernel
theorem dL_law_1043 : decode cL_law 1043 = .ok (.iload_n 3, 1) := by decide +kernel
theorem dL_law_1044 : decode cL_law 1044 = .ok (.iconst 2, 1) := by decide +kernel
theorem dL_law_1045 : decode cL_law 1045 = .ok (.iadd, 1) := by decide +kernel
theorem dL_law_1046 : decode cL_law 1046 = .ok (.iaload, 1) := by decide +kernel
theorem dL_law_1047 : decode cL_law 1047 = .ok (.aload_n 0, 1) := by decide +kernel
theorem dL_law_1048 : decode cL_law 1048 = .ok (.iload_n 3, 1) := by decide +kernel
theorem dL_law_1049 : decode cL_law 1049 = .ok (.iconst 3, 1) := by decide +kernel
theorem dL_law_1050 : decode cL_law 1050 = .ok (.iadd, 1) := by decide +kernel
theorem dL_law_1051 : decode cL_law 1051 = .ok (.iaload, 1) := by decide +kernel
theorem dL_law_1052 : decode cL_law 1052 = .ok (.invokevirtual 117, 3) := by decide +kernel
theorem dL_law_1055 : decode cL_law 1055 = .ok (.aload_n 2, 1) := by decide +kernel
theorem dL_law_1056 : decode cL_law 1056 = .ok (.aload_n 0, 1) := by decide +kernel
theorem dL_law_1057 : decode cL_law 1057 = .ok (.iload_n 3, 1) := by decide +kernel
theorem dL_law_1058 : decode cL_law 1058 = .ok (.iconst 1, 1) := by decide +kernel
theorem dL_law_1059 : decode cL_law 1059 = .ok (.iadd, 1) := by decide +kernel
theorem dL_law_1060 : decode cL_law 1060 = .ok (.iaload, 1) := by decide +kernel
theorem dL_law_1061 : decode cL_law 1061 = .ok (.aload_n 0, 1) := by decide +kernel
theorem dL_law_1062 : decode cL_law 1062 = .ok (.iload_n 3, 1) := by decide +kernel
theorem dL_law_1063 : decode cL_law 1063 = .ok (.iconst 2, 1) := by decide +kernel
theorem dL_law_1064 : decode cL_law 1064 = .ok (.iadd, 1) := by decide +kernel
theorem dL_law_1065 : decode cL_law 1065 = .ok (.iaload, 1) := by decide +kernel
theorem dL_law_1066 : decode cL_law 1066 = .ok (.aload_n 0, 1) := by decide +kernel
theorem dL_law_1067 : decode cL_law 1067 = .ok (.iload_n 3, 1) := by decide +kernel
theorem dL_law_1068 : decode cL_law 1068 = .ok (.iconst 3, 1) := by decide +kernel
theorem dL_law_1069 : decode cL_law 1069 = .ok (.iadd, 1) := by decide +kernel
theorem dL_law_1070 : decode cL_law 1070 = .ok (.iaload, 1) := by decide +kernel
theorem dL_law_1071 : decode cL_law 1071 = .ok (.invokevirtual 120, 3) := by decide +kernel
theorem dL_law_1074 : decode cL_law 1074 = .ok (.if_icmp .eq 28, 3) := by decide +kernel
theorem dL_law_1077 : decode cL_law 1077 = .ok (.iconst 0, 1) := by decide +kernel
theorem dL_law_1078 : decode cL_law 1078 = .ok (.ireturn, 1) := by decide +kernel
theorem dL_law_1079 : decode cL_law 1079 = .ok (.aload_n 1, 1) := by decide +kernel
theorem dL_law_1080 : decode cL_law 1080 = .ok (.aload_n 0, 1) := by decide +kernel
theorem dL_law_1081 : decode cL_law 1081 = .ok (.iload_n 3, 1) := by decide +kernel
theorem dL_law_1082 : decode cL_law 1082 = .ok (.iconst 1, 1) := by decide +kernel
theorem dL_law_1083 : decode cL_law 1083 = .ok (.iadd, 1) := by decide +kernel
theorem dL_law_1084 : decode cL_law 1084 = .ok (.iaload, 1) := by decide +kernel
theorem dL_law_1085 : decode cL_law 1085 = .ok (.invokevirtual 121, 3) := by decide +kernel
theorem dL_law_1088 : decode cL_law 1088 = .ok (.aload_n 2, 1) := by decide +kernel
theorem dL_law_1089 : decode cL_law 1089 = .ok (.aload_n 0, 1) := by decide +kernel
theorem dL_law_1090 : decode cL_law 1090 = .ok (.iload_n 3, 1) := by decide +kernel
theorem dL_law_1091 : decode cL_law 1091 = .ok (.iconst 1, 1) := by decide +kernel
theorem dL_law_1092 : decode cL_law 1092 = .ok (.iadd, 1) := by decide +kernel
theorem dL_law_1093 : decode cL_law 1093 = .ok (.iaload, 1) := by decide +kernel
theorem dL_law_1094 : decode cL_law 1094 = .ok (.invokevirtual 124, 3) := by decide +kernel
theorem dL_law_1097 : decode cL_law 1097 = .ok (.if_icmp .eq 5, 3) := by decide +kernel
theorem dL_law_1100 : decode cL_law 1100 = .ok (.iconst 0, 1) := by decide +kernel
theorem dL_law_1101 : decode cL_law 1101 = .ok (.ireturn, 1) := by decide +kernel
theorem dL_law_1102 : decode cL_law 1102 = .ok (.iinc 3 6, 3) := by decide +kernel
theorem dL_law_1105 : decode cL_law 1105 = .ok (.goto (-1087), 3) := by decide +kernel
theorem dL_law_1108 : decode cL_law 1108 = .ok (.iconst 1, 1) := by decide +kernel
theorem dL_law_1109 : decode cL_law 1109 = .ok (.ireturn, 1) := by decide +kernel
