theorem dJ6_bitCount_0f7a4_0 : decode cJ6_bitCount_0f7a4 0 = .ok (.iload_n 0, 1) := by decide +kernel
theorem dJ6_bitCount_0f7a4_1 : decode cJ6_bitCount_0f7a4 1 = .ok (.iload_n 0, 1) := by decide +kernel
theorem dJ6_bitCount_0f7a4_2 : decode cJ6_bitCount_0f7a4 2 = .ok (.iconst 1, 1) := by decide +kernel
theorem dJ6_bitCount_0f7a4_3 : decode cJ6_bitCount_0f7a4 3 = .ok (.iushr, 1) := by decide +kernel
theorem dJ6_bitCount_0f7a4_4 : decode cJ6_bitCount_0f7a4 4 = .ok (.ldc_w 265, 3) := by decide +kernel
theorem dJ6_bitCount_0f7a4_7 : decode cJ6_bitCount_0f7a4 7 = .ok (.iand, 1) := by decide +kernel
theorem dJ6_bitCount_0f7a4_8 : decode cJ6_bitCount_0f7a4 8 = .ok (.isub, 1) := by decide +kernel
theorem dJ6_bitCount_0f7a4_9 : decode cJ6_bitCount_0f7a4 9 = .ok (.istore_n 0, 1) := by decide +kernel
theorem dJ6_bitCount_0f7a4_10 : decode cJ6_bitCount_0f7a4 10 = .ok (.iload_n 0, 1) := by decide +kernel
theorem dJ6_bitCount_0f7a4_11 : decode cJ6_bitCount_0f7a4 11 = .ok (.ldc_w 266, 3) := by decide +kernel
theorem dJ6_bitCount_0f7a4_14 : decode cJ6_bitCount_0f7a4 14 = .ok (.iand, 1) := by decide +kernel
theorem dJ6_bitCount_0f7a4_15 : decode cJ6_bitCount_0f7a4 15 = .ok (.iload_n 0, 1) := by decide +kernel
theorem dJ6_bitCount_0f7a4_16 : decode cJ6_bitCount_0f7a4 16 = .ok (.iconst 2, 1) := by decide +kernel
theorem dJ6_bitCount_0f7a4_17 : decode cJ6_bitCount_0f7a4 17 = .ok (.iushr, 1) := by decide +kernel
theorem dJ6_bitCount_0f7a4_18 : decode cJ6_bitCount_0f7a4 18 = .ok (.ldc_w 266, 3) := by decide +kernel
theorem dJ6_bitCount_0f7a4_21 : decode cJ6_bitCount_0f7a4 21 = .ok (.iand, 1) := by decide +kernel
theorem dJ6_bitCount_0f7a4_22 : decode cJ6_bitCount_0f7a4 22 = .ok (.iadd, 1) := by decide +kernel
theorem dJ6_bitCount_0f7a4_23 : decode cJ6_bitCount_0f7a4 23 = .ok (.istore_n 0, 1) := by decide +kernel
theorem dJ6_bitCount_0f7a4_24 : decode cJ6_bitCount_0f7a4 24 = .ok (.iload_n 0, 1) := by decide +kernel
theorem dJ6_bitCount_0f7a4_25 : decode cJ6_bitCount_0f7a4 25 = .ok (.iload_n 0, 1) := by decide +kernel
theorem dJ6_bitCount_0f7a4_26 : decode cJ6_bitCount_0f7a4 26 = .ok (.iconst 4, 1) := by decide +kernel
theorem dJ6_bitCount_0f7a4_27 : decode cJ6_bitCount_0f7a4 27 = .ok (.iushr, 1) := by decide +kernel
theorem dJ6_bitCount_0f7a4_28 : decode cJ6_bitCount_0f7a4 28 = .ok (.iadd, 1) := by decide +kernel
theorem dJ6_bitCount_0f7a4_29 : decode cJ6_bitCount_0f7a4 29 = .ok (.ldc_w 267, 3) := by decide +kernel
theorem dJ6_bitCount_0f7a4_32 : decode cJ6_bitCount_0f7a4 32 = .ok (.iand, 1) := by decide +kernel
theorem dJ6_bitCount_0f7a4_33 : decode cJ6_bitCount_0f7a4 33 = .ok (.istore_n 0, 1) := by decide +kernel
theorem dJ6_bitCount_0f7a4_34 : decode cJ6_bitCount_0f7a4 34 = .ok (.iload_n 0, 1) := by decide +kernel
theorem dJ6_bitCount_0f7a4_35 : decode cJ6_bitCount_0f7a4 35 = .ok (.iload_n 0, 1) := by decide +kernel
theorem dJ6_bitCount_0f7a4_36 : decode cJ6_bitCount_0f7a4 36 = .ok (.bipush 8, 2) := by decide +kernel
theorem dJ6_bitCount_0f7a4_38 : decode cJ6_bitCount_0f7a4 38 = .ok (.iushr, 1) := by decide +kernel
theorem dJ6_bitCount_0f7a4_39 : decode cJ6_bitCount_0f7a4 39 = .ok (.iadd, 1) := by decide +kernel
theorem dJ6_bitCount_0f7a4_40 : decode cJ6_bitCount_0f7a4 40 = .ok (.istore_n 0, 1) := by decide +kernel
theorem dJ6_bitCount_0f7a4_41 : decode cJ6_bitCount_0f7a4 41 = .ok (.iload_n 0, 1) := by decide +kernel
theorem dJ6_bitCount_0f7a4_42 : decode cJ6_bitCount_0f7a4 42 = .ok (.iload_n 0, 1) := by decide +kernel
theorem dJ6_bitCount_0f7a4_43 : decode cJ6_bitCount_0f7a4 43 = .ok (.bipush 16, 2) := by decide +kernel
theorem dJ6_bitCount_0f7a4_45 : decode cJ6_bitCount_0f7a4 45 = .ok (.iushr, 1) := by decide +kernel
theorem dJ6_bitCount_0f7a4_46 : decode cJ6_bitCount_0f7a4 46 = .ok (.iadd, 1) := by decide +kernel
theorem dJ6_bitCount_0f7a4_47 : decode cJ6_bitCount_0f7a4 47 = .ok (.istore_n 0, 1) := by decide +kernel
theorem dJ6_bitCount_0f7a4_48 : decode cJ6_bitCount_0f7a4 48 = .ok (.iload_n 0, 1) := by decide +kernel
theorem dJ6_bitCount_0f7a4_49 : decode cJ6_bitCount_0f7a4 49 = .ok (.bipush 63, 2) := by decide +kernel
theorem dJ6_bitCount_0f7a4_51 : decode cJ6_bitCount_0f7a4 51 = .ok (.iand, 1) := by decide +kernel
theorem dJ6_bitCount_0f7a4_52 : decode cJ6_bitCount_0f7a4 52 = .ok (.ireturn, 1) := by decide +kernel
theorem dJ9_floorDiv_f86c9_0 : decode cJ9_floorDiv_f86c9 0 = .ok (.lload_n 0, 1) := by decide +kernel
theorem dJ9_floorDiv_f86c9_1 : decode cJ9_floorDiv_f86c9 1 = .ok (.lload_n 2, 1) := by decide +kernel
theorem dJ9_floorDiv_f86c9_2 : decode cJ9_floorDiv_f86c9 2 = .ok (.ldiv, 1) := by decide +kernel
theorem dJ9_floorDiv_f86c9_3 : decode cJ9_floorDiv_f86c9 3 = .ok (.lstore 4, 2) := by decide +kernel
theorem dJ9_floorDiv_f86c9_5 : decode cJ9_floorDiv_f86c9 5 = .ok (.lload_n 0, 1) := by decide +kernel
theorem dJ9_floorDiv_f86c9_6 : decode cJ9_floorDiv_f86c9 6 = .ok (.lload_n 2, 1) := by decide +kernel
theorem dJ9_floorDiv_f86c9_7 : decode cJ9_floorDiv_f86c9 7 = .ok (.lxor, 1) := by decide +kernel
theorem dJ9_floorDiv_f86c9_8 : decode cJ9_floorDiv_f86c9 8 = .ok (.lconst 0, 1) := by decide +kernel
theorem dJ9_floorDiv_f86c9_9 : decode cJ9_floorDiv_f86c9 9 = .ok (.lcmp, 1) := by decide +kernel
theorem dJ9_floorDiv_f86c9_10 : decode cJ9_floorDiv_f86c9 10 = .ok (.ifCond .ge 17, 3) := by decide +kernel
theorem dJ9_floorDiv_f86c9_13 : decode cJ9_floorDiv_f86c9 13 = .ok (.lload 4, 2) := by decide +kernel
theorem dJ9_floorDiv_f86c9_15 : decode cJ9_floorDiv_f86c9 15 = .ok (.lload_n 2, 1) := by decide +kernel
theorem dJ9_floorDiv_f86c9_16 : decode cJ9_floorDiv_f86c9 16 = .ok (.lmul, 1) := by decide +kernel
theorem dJ9_floorDiv_f86c9_17 : decode cJ9_floorDiv_f86c9 17 = .ok (.lload_n 0, 1) := by decide +kernel
theorem dJ9_floorDiv_f86c9_18 : decode cJ9_floorDiv_f86c9 18 = .ok (.lcmp, 1) := by decide +kernel
theorem dJ9_floorDiv_f86c9_19 : decode cJ9_floorDiv_f86c9 19 = .ok (.ifCond .eq 8, 3) := by decide +kernel
theorem dJ9_floorDiv_f86c9_22 : decode cJ9_floorDiv_f86c9 22 = .ok (.lload 4, 2) := by decide +kernel
theorem dJ9_floorDiv_f86c9_24 : decode cJ9_floorDiv_f86c9 24 = .ok (.lconst 1, 1) := by decide +kernel
theorem dJ9_floorDiv_f86c9_25 : decode cJ9_floorDiv_f86c9 25 = .ok (.lsub, 1) := by decide +kernel
theorem dJ9_floorDiv_f86c9_26 : decode cJ9_floorDiv_f86c9 26 = .ok (.lreturn, 1) := by decide +kernel
theorem dJ9_floorDiv_f86c9_27 : decode cJ9_floorDiv_f86c9 27 = .ok (.lload 4, 2) := by decide +kernel
theorem dJ9_floorDiv_f86c9_29 : decode cJ9_floorDiv_f86c9 29 = .ok (.lreturn, 1) := by decide +kernel
theorem dJ9_abs_067f4_0 : decode cJ9_abs_067f4 0 = .ok (.lload_n 0, 1) := by decide +kernel
theorem dJ9_abs_067f4_1 : decode cJ9_abs_067f4 1 = .ok (.lconst 0, 1) := by decide +kernel
theorem dJ9_abs_067f4_2 : decode cJ9_abs_067f4 2 = .ok (.lcmp, 1) := by decide +kernel
theorem dJ9_abs_067f4_3 : decode cJ9_abs_067f4 3 = .ok (.ifCond .ge 8, 3) := by decide +kernel
theorem dJ9_abs_067f4_6 : decode cJ9_abs_067f4 6 = .ok (.lload_n 0, 1) := by decide +kernel
theorem dJ9_abs_067f4_7 : decode cJ9_abs_067f4 7 = .ok (.lneg, 1) := by decide +kernel
theorem dJ9_abs_067f4_8 : decode cJ9_abs_067f4 8 = .ok (.goto 4, 3) := by decide +kernel
theorem dJ9_abs_067f4_11 : decode cJ9_abs_067f4 11 = .ok (.lload_n 0, 1) := by decide +kernel
theorem dJ9_abs_067f4_12 : decode cJ9_abs_067f4 12 = .ok (.lreturn, 1) := by decide +kernel
theorem dJ9_max_7cf53_0 : decode cJ9_max_7cf53 0 = .ok (.iload_n 0, 1) := by decide +kernel
theorem dJ9_max_7cf53_1 : decode cJ9_max_7cf53 1 = .ok (.iload_n 1, 1) := by decide +kernel
theorem dJ9_max_7cf53_2 : decode cJ9_max_7cf53 2 = .ok (.if_icmp .lt 7, 3) := by decide +kernel
theorem dJ9_max_7cf53_5 : decode cJ9_max_7cf53 5 = .ok (.iload_n 0, 1) := by decide +kernel
theorem dJ9_max_7cf53_6 : decode cJ9_max_7cf53 6 = .ok (.goto 4, 3) := by decide +kernel
theorem dJ9_max_7cf53_9 : decode cJ9_max_7cf53 9 = .ok (.iload_n 1, 1) := by decide +kernel
theorem dJ9_max_7cf53_10 : decode cJ9_max_7cf53 10 = .ok (.ireturn, 1) := by decide +kernel
theorem dJ9_max_f86c9_0 : decode cJ9_max_f86c9 0 = .ok (.lload_n 0, 1) := by decide +kernel
theorem dJ9_max_f86c9_1 : decode cJ9_max_f86c9 1 = .ok (.lload_n 2, 1) := by decide +kernel
theorem dJ9_max_f86c9_2 : decode cJ9_max_f86c9 2 = .ok (.lcmp, 1) := by decide +kernel
theorem dJ9_max_f86c9_3 : decode cJ9_max_f86c9 3 = .ok (.ifCond .lt 7, 3) := by decide +kernel
theorem dJ9_max_f86c9_6 : decode cJ9_max_f86c9 6 = .ok (.lload_n 0, 1) := by decide +kernel
theorem dJ9_max_f86c9_7 : decode cJ9_max_f86c9 7 = .ok (.goto 4, 3) := by decide +kernel
theorem dJ9_max_f86c9_10 : decode cJ9_max_f86c9 10 = .ok (.lload_n 2, 1) := by decide +kernel
theorem dJ9_max_f86c9_11 : decode cJ9_max_f86c9 11 = .ok (.lreturn, 1) := by decide +kernel
theorem dJ9_min_7cf53_0 : decode cJ9_min_7cf53 0 = .ok (.iload_n 0, 1) := by decide +kernel
theorem dJ9_min_7cf53_1 : decode cJ9_min_7cf53 1 = .ok (.iload_n 1, 1) := by decide +kernel
theorem dJ9_min_7cf53_2 : decode cJ9_min_7cf53 2 = .ok (.if_icmp .gt 7, 3) := by decide +kernel
theorem dJ9_min_7cf53_5 : decode cJ9_min_7cf53 5 = .ok (.iload_n 0, 1) := by decide +kernel
theorem dJ9_min_7cf53_6 : decode cJ9_min_7cf53 6 = .ok (.goto 4, 3) := by decide +kernel
theorem dJ9_min_7cf53_9 : decode cJ9_min_7cf53 9 = .ok (.iload_n 1, 1) := by decide +kernel
theorem dJ9_min_7cf53_10 : decode cJ9_min_7cf53 10 = .ok (.ireturn, 1) := by decide +kernel
theorem dJ7_fill_53178_0 : decode cJ7_fill_53178 0 = .ok (.iconst 0, 1) := by decide +kernel
theorem dJ7_fill_53178_1 : decode cJ7_fill_53178 1 = .ok (.istore_n 2, 1) := by decide +kernel
theorem dJ7_fill_53178_2 : decode cJ7_fill_53178 2 = .ok (.aload_n 0, 1) := by decide +kernel
theorem dJ7_fill_53178_3 : decode cJ7_fill_53178 3 = .ok (.arraylength, 1) := by decide +kernel
theorem dJ7_fill_53178_4 : decode cJ7_fill_53178 4 = .ok (.istore_n 3, 1) := by decide +kernel
theorem dJ7_fill_53178_5 : decode cJ7_fill_53178 5 = .ok (.iload_n 2, 1) := by decide +kernel
theorem dJ7_fill_53178_6 : decode cJ7_fill_53178 6 = .ok (.iload_n 3, 1) := by decide +kernel
theorem dJ7_fill_53178_7 : decode cJ7_fill_53178 7 = .ok (.if_icmp .ge 13, 3) := by decide +kernel
theorem dJ7_fill_53178_10 : decode cJ7_fill_53178 10 = .ok (.aload_n 0, 1) := by decide +kernel
theorem dJ7_fill_53178_11 : decode cJ7_fill_53178 11 = .ok (.iload_n 2, 1) := by decide +kernel
theorem dJ7_fill_53178_12 : decode cJ7_fill_53178 12 = .ok (.iload_n 1, 1) := by decide +kernel
theorem dJ7_fill_53178_13 : decode cJ7_fill_53178 13 = .ok (.iastore, 1) := by decide +kernel
theorem dJ7_fill_53178_14 : decode cJ7_fill_53178 14 = .ok (.iinc 2 1, 3) := by decide +kernel
theorem dJ7_fill_53178_17 : decode cJ7_fill_53178 17 = .ok (.goto (-12), 3) := by decide +kernel
theorem dJ7_fill_53178_20 : decode cJ7_fill_53178 20 = .ok (.return_, 1) := by decide +kernel
theorem dX0_init_0 : decode cX0_init 0 = .ok (.aload_n 0, 1) := by decide +kernel
theorem dX0_init_1 : decode cX0_init 1 = .ok (.invokespecial 3, 3) := by decide +kernel
theorem dX0_init_4 : decode cX0_init 4 = .ok (.aload_n 0, 1) := by decide +kernel
theorem dX0_init_5 : decode cX0_init 5 = .ok (.iconst 4, 1) := by decide +kernel
theorem dX0_init_6 : decode cX0_init 6 = .ok (.newarray .int, 2) := by decide +kernel
theorem dX0_init_8 : decode cX0_init 8 = .ok (.putfield 9, 3) := by decide +kernel
theorem dX0_init_11 : decode cX0_init 11 = .ok (.aload_n 0, 1) := by decide +kernel
theorem dX0_init_12 : decode cX0_init 12 = .ok (.iconst 4, 1) := by decide +kernel
theorem dX0_init_13 : decode cX0_init 13 = .ok (.newarray .int, 2) := by decide +kernel
theorem dX0_init_15 : decode cX0_init 15 = .ok (.putfield 15, 3) := by decide +kernel
theorem dX0_init_18 : decode cX0_init 18 = .ok (.aload_n 0, 1) := by decide +kernel
theorem dX0_init_19 : decode cX0_init 19 = .ok (.iconst 4, 1) := by decide +kernel
theorem dX0_init_20 : decode cX0_init 20 = .ok (.newarray .boolean, 2) := by decide +kernel
theorem dX0_init_22 : decode cX0_init 22 = .ok (.putfield 18, 3) := by decide +kernel
theorem dX0_init_25 : decode cX0_init 25 = .ok (.aload_n 0, 1) := by decide +kernel
theorem dX0_init_26 : decode cX0_init 26 = .ok (.iload_n 1, 1) := by decide +kernel
theorem dX0_init_27 : decode cX0_init 27 = .ok (.putfield 22, 3) := by decide +kernel
theorem dX0_init_30 : decode cX0_init 30 = .ok (.aload_n 0, 1) := by decide +kernel
theorem dX0_init_31 : decode cX0_init 31 = .ok (.iload_n 2, 1) := by decide +kernel
theorem dX0_init_32 : decode cX0_init 32 = .ok (.putfield 26, 3) := by decide +kernel
theorem dX0_init_35 : decode cX0_init 35 = .ok (.aload_n 0, 1) := by decide +kernel
theorem dX0_init_36 : decode cX0_init 36 = .ok (.iload_n 3, 1) := by decide +kernel
theorem dX0_init_37 : decode cX0_init 37 = .ok (.putfield 29, 3) := by decide +kernel
theorem dX0_init_40 : decode cX0_init 40 = .ok (.return_, 1) := by decide +kernel
theorem dX0_looks_0 : decode cX0_looks 0 = .ok (.aload_n 0, 1) := by decide +kernel
theorem dX0_looks_1 : decode cX0_looks 1 = .ok (.getfield 32, 3) := by decide +kernel
theorem dX0_looks_4 : decode cX0_looks 4 = .ok (.ireturn, 1) := by decide +kernel
theorem dX0_isDug_0 : decode cX0_isDug 0 = .ok (.aload_n 0, 1) := by decide +kernel
theorem dX0_isDug_1 : decode cX0_isDug 1 = .ok (.getfield 35, 3) := by decide +kernel
theorem dX0_isDug_4 : decode cX0_isDug 4 = .ok (.ireturn, 1) := by decide +kernel
theorem dX0_addLook_0 : decode cX0_addLook 0 = .ok (.aload_n 0, 1) := by decide +kernel
theorem dX0_addLook_1 : decode cX0_addLook 1 = .ok (.getfield 32, 3) := by decide +kernel
theorem dX0_addLook_4 : decode cX0_addLook 4 = .ok (.iconst 4, 1) := by decide +kernel
theorem dX0_addLook_5 : decode cX0_addLook 5 = .ok (.if_icmp .ge 43, 3) := by decide +kernel
theorem dX0_addLook_8 : decode cX0_addLook 8 = .ok (.aload_n 0, 1) := by decide +kernel
theorem dX0_addLook_9 : decode cX0_addLook 9 = .ok (.getfield 9, 3) := by decide +kernel
theorem dX0_addLook_12 : decode cX0_addLook 12 = .ok (.aload_n 0, 1) := by decide +kernel
theorem dX0_addLook_13 : decode cX0_addLook 13 = .ok (.getfield 32, 3) := by decide +kernel
theorem dX0_addLook_16 : decode cX0_addLook 16 = .ok (.iload_n 1, 1) := by decide +kernel
theorem dX0_addLook_17 : decode cX0_addLook 17 = .ok (.iastore, 1) := by decide +kernel
theorem dX0_addLook_18 : decode cX0_addLook 18 = .ok (.aload_n 0, 1) := by decide +kernel
theorem dX0_addLook_19 : decode cX0_addLook 19 = .ok (.getfield 15, 3) := by decide +kernel
theorem dX0_addLook_22 : decode cX0_addLook 22 = .ok (.aload_n 0, 1) := by decide +kernel
theorem dX0_addLook_23 : decode cX0_addLook 23 = .ok (.getfield 32, 3) := by decide +kernel
theorem dX0_addLook_26 : decode cX0_addLook 26 = .ok (.iload_n 2, 1) := by decide +kernel
theorem dX0_addLook_27 : decode cX0_addLook 27 = .ok (.iastore, 1) := by decide +kernel
theorem dX0_addLook_28 : decode cX0_addLook 28 = .ok (.aload_n 0, 1) := by decide +kernel
theorem dX0_addLook_29 : decode cX0_addLook 29 = .ok (.getfield 18, 3) := by decide +kernel
theorem dX0_addLook_32 : decode cX0_addLook 32 = .ok (.aload_n 0, 1) := by decide +kernel
theorem dX0_addLook_33 : decode cX0_addLook 33 = .ok (.getfield 32, 3) := by decide +kernel
theorem dX0_addLook_36 : decode cX0_addLook 36 = .ok (.iload_n 3, 1) := by decide +kernel
theorem dX0_addLook_37 : decode cX0_addLook 37 = .ok (.bastore, 1) := by decide +kernel
theorem dX0_addLook_38 : decode cX0_addLook 38 = .ok (.aload_n 0, 1) := by decide +kernel
theorem dX0_addLook_39 : decode cX0_addLook 39 = .ok (.dup, 1) := by decide +kernel
theorem dX0_addLook_40 : decode cX0_addLook 40 = .ok (.getfield 32, 3) := by decide +kernel
theorem dX0_addLook_43 : decode cX0_addLook 43 = .ok (.iconst 1, 1) := by decide +kernel
theorem dX0_addLook_44 : decode cX0_addLook 44 = .ok (.iadd, 1) := by decide +kernel
theorem dX0_addLook_45 : decode cX0_addLook 45 = .ok (.putfield 32, 3) := by decide +kernel
theorem dX0_addLook_48 : decode cX0_addLook 48 = .ok (.return_, 1) := by decide +kernel
theorem dX0_dropLook_0 : decode cX0_dropLook 0 = .ok (.aload_n 0, 1) := by decide +kernel
theorem dX0_dropLook_1 : decode cX0_dropLook 1 = .ok (.getfield 32, 3) := by decide +kernel
theorem dX0_dropLook_4 : decode cX0_dropLook 4 = .ok (.ifCond .le 13, 3) := by decide +kernel
theorem dX0_dropLook_7 : decode cX0_dropLook 7 = .ok (.aload_n 0, 1) := by decide +kernel
theorem dX0_dropLook_8 : decode cX0_dropLook 8 = .ok (.dup, 1) := by decide +kernel
theorem dX0_dropLook_9 : decode cX0_dropLook 9 = .ok (.getfield 32, 3) := by decide +kernel
theorem dX0_dropLook_12 : decode cX0_dropLook 12 = .ok (.iconst 1, 1) := by decide +kernel
theorem dX0_dropLook_13 : decode cX0_dropLook 13 = .ok (.isub, 1) := by decide +kernel
theorem dX0_dropLook_14 : decode cX0_dropLook 14 = .ok (.putfield 32, 3) := by decide +kernel
theorem dX0_dropLook_17 : decode cX0_dropLook 17 = .ok (.return_, 1) := by decide +kernel
set_option maxRecDepth 20000 in
theorem ggX0_open_X0_count : GoodIn wsX0_open wsX0_count := goodIn_sub (fw_c (fw_t (fw_l (fw_l (fw_l (fw_t (fw_t (fw_t (fw_t (fw_t (fw_t fw_h)))))))))) (fw_a (fw_a (fw_c (fw_t (fw_l (fw_l (fw_l (fw_t fw_h))))) (fw_c (fw_t (fw_l (fw_l (fw_l (fw_t (fw_t (fw_t (fw_t (fw_t (fw_t (fw_t fw_h))))))))))) (fw_c (fw_t (fw_l (fw_l (fw_l (fw_t (fw_t (fw_t (fw_t (fw_t (fw_t (fw_t (fw_t fw_h)))))))))))) (fw_c (fw_t (fw_l (fw_l (fw_l (fw_t (fw_t (fw_t (fw_t (fw_t (fw_t (fw_t (fw_t (fw_t fw_h))))))))))))) (fw_c (fw_t (fw_l (fw_l (fw_l (fw_t (fw_t (fw_t (fw_t (fw_t (fw_t (fw_t (fw_t (fw_t (fw_t fw_h)))))))))))))) (fw_c (fw_t (fw_l (fw_l (fw_l (fw_t (fw_t (fw_t (fw_t (fw_t (fw_t (fw_t (fw_t (fw_t (fw_t (fw_t fw_h))))))))))))))) (fw_c (fw_t (fw_l (fw_l (fw_l (fw_t (fw_t (fw_t (fw_t (fw_t (fw_t (fw_t (fw_t (fw_t (fw_t (fw_t (fw_t fw_h)))))))))))))))) (fw_c (fw_t (fw_l (fw_l (fw_l (fw_t (fw_t (fw_t (fw_t (fw_t (fw_t (fw_t (fw_t (fw_t (fw_t (fw_t (fw_t (fw_t fw_h))))))))))))))))) (fw_c (fw_t (fw_l (fw_l (fw_l (fw_t (fw_t (fw_t (fw_t (fw_t (fw_t (fw_t (fw_t (fw_t (fw_t (fw_t (fw_t (fw_t (fw_t fw_h)))))))))))))))))) (fw_c (fw_t (fw_l (fw_l (fw_l (fw_t (fw_t (fw_t (fw_t (fw_t (fw_t (fw_t (fw_t (fw_t (fw_t (fw_t (fw_t (fw_t (fw_t (fw_t fw_h))))))))))))))))))) (fw_c (fw_t (fw_l (fw_l (fw_l (fw_t (fw_t (fw_t (fw_t (fw_t (fw_t (fw_t (fw_t (fw_t (fw_t (fw_t (fw_t (fw_t (fw_t (fw_t (fw_t fw_h)))))))))))))))))))) (fw_c (fw_t (fw_l (fw_l (fw_l (fw_t (fw_t (fw_t (fw_t (fw_t (fw_t (fw_t (fw_t (fw_t (fw_t (fw_t (fw_t (fw_t (fw_t (fw_t (fw_t (fw_t fw_h))))))))))))))))))))) (fw_c (fw_t (fw_l (fw_l (fw_l (fw_t (fw_t (fw_t (fw_t (fw_t (fw_t (fw_t (fw_t (fw_t (fw_t (fw_t (fw_t (fw_t (fw_t (fw_t (fw_t (fw_t (fw_t fw_h)))))))))))))))))))))) (fw_c (fw_t (fw_l (fw_l (fw_l (fw_t (fw_t (fw_t (fw_t (fw_t (fw_t (fw_t (fw_t (fw_t (fw_t (fw_t (fw_t (fw_t (fw_t (fw_t (fw_t (fw_t (fw_t (fw_t fw_h))))))))))))))))))))))) (fw_c (fw_t (fw_l (fw_l (fw_l (fw_t (fw_t (fw_t (fw_t (fw_t (fw_t (fw_t (fw_t (fw_t (fw_t (fw_t (fw_t (fw_t (fw_t (fw_t (fw_t (fw_t (fw_t (fw_t (fw_t fw_h)))))))))))))))))))))))) (fw_c (fw_t (fw_l (fw_l (fw_l (fw_t (fw_t (fw_t (fw_t (fw_t (fw_t (fw_t (fw_t (fw_t (fw_t (fw_t (fw_t (fw_t (fw_t (fw_t (fw_t (fw_t (fw_t (fw_t (fw_t (fw_t fw_h))))))))))))))))))))))))) (fw_c (fw_t (fw_l (fw_l (fw_l (fw_t (fw_t (fw_t (fw_t (fw_t (fw_t (fw_t (fw_t (fw_t (fw_t (fw_t (fw_t (fw_t (fw_t (fw_t (fw_t (fw_t (fw_t (fw_t (fw_t (fw_t (fw_t fw_h)))))))))))))))))))))))))) (fw_c (fw_t (fw_l (fw_l (fw_l (fw_t (fw_t (fw_t (fw_t (fw_t (fw_t (fw_t (fw_t (fw_t (fw_t (fw_t (fw_t (fw_t (fw_t (fw_t (fw_t (fw_t (fw_t (fw_t (fw_t (fw_t (fw_t (fw_t fw_h))))))))))))))))))))))))))) (fw_c (fw_t (fw_l (fw_l (fw_r fw_h)))) (fw_c (fw_t (fw_l (fw_l (fw_r (fw_t fw_h))))) (fw_c (fw_t (fw_l (fw_l (fw_r (fw_t (fw_t fw_h)))))) fw_n))))))))))))))))))))) (fun _ h => fw_t (fw_l (fw_r h)))) (fun _ h => fw_t (fw_r h)))) (by decide +kernel)
set_option maxRecDepth 20000 in
theorem gX0_open_X0_count : GoodIn wsX0_open (wsV RX0 42 RX0 yX0_count wsX0_count) := goodIn_app (goodIn_sub (fw_c (fw_t (fw_l (fw_l (fw_l (fw_t (fw_t fw_h)))))) (fw_c (fw_t (fw_l (fw_l (fw_l (fw_t (fw_t (fw_t fw_h))))))) (fw_c (fw_t (fw_l (fw_l (fw_l (fw_t (fw_t (fw_t (fw_t fw_h)))))))) (fw_c (fw_t (fw_l (fw_l (fw_l (fw_t (fw_t (fw_t (fw_t (fw_t fw_h))))))))) fw_n)))) (by decide +kernel)) ggX0_open_X0_count
theorem dX0_open_0 : decode cX0_open 0 = .ok (.aload_n 0, 1) := by decide +kernel
theorem dX0_open_1 : decode cX0_open 1 = .ok (.iconst 1, 1) := by decide +kernel
theorem dX0_open_2 : decode cX0_open 2 = .ok (.putfield 35, 3) := by decide +kernel
theorem dX0_open_5 : decode cX0_open 5 = .ok (.aload_n 0, 1) := by decide +kernel
theorem dX0_open_6 : decode cX0_open 6 = .ok (.iload_n 1, 1) := by decide +kernel
theorem dX0_open_7 : decode cX0_open 7 = .ok (.putfield 39, 3) := by decide +kernel
theorem dX0_open_10 : decode cX0_open 10 = .ok (.aload_n 0, 1) := by decide +kernel
theorem dX0_open_11 : decode cX0_open 11 = .ok (.aload_n 2, 1) := by decide +kernel
theorem dX0_open_12 : decode cX0_open 12 = .ok (.iconst 1, 1) := by decide +kernel
theorem dX0_open_13 : decode cX0_open 13 = .ok (.invokevirtual 42, 3) := by decide +kernel
theorem dX0_open_16 : decode cX0_open 16 = .ok (.ireturn, 1) := by decide +kernel
set_option maxRecDepth 20000 in
theorem ggX0_close_X0_count : GoodIn wsX0_close wsX0_count := goodIn_sub (fw_c (fw_t (fw_l (fw_l (fw_l (fw_t (fw_t (fw_t (fw_t (fw_t (fw_t fw_h)))))))))) (fw_a (fw_a (fw_c (fw_t (fw_l (fw_l (fw_l (fw_t fw_h))))) (fw_c (fw_t (fw_l (fw_l (fw_l (fw_t (fw_t (fw_t (fw_t (fw_t (fw_t (fw_t fw_h))))))))))) (fw_c (fw_t (fw_l (fw_l (fw_l (fw_t (fw_t (fw_t (fw_t (fw_t (fw_t (fw_t (fw_t fw_h)))))))))))) (fw_c (fw_t (fw_l (fw_l (fw_l (fw_t (fw_t (fw_t (fw_t (fw_t (fw_t (fw_t (fw_t (fw_t fw_h))))))))))))) (fw_c (fw_t (fw_l (fw_l (fw_l (fw_t (fw_t (fw_t (fw_t (fw_t (fw_t (fw_t (fw_t (fw_t (fw_t fw_h)))))))))))))) (fw_c (fw_t (fw_l (fw_l (fw_l (fw_t (fw_t (fw_t (fw_t (fw_t (fw_t (fw_t (fw_t (fw_t (fw_t (fw_t fw_h))))))))))))))) (fw_c (fw_t (fw_l (fw_l (fw_l (fw_t (fw_t (fw_t (fw_t (fw_t (fw_t (fw_t (fw_t (fw_t (fw_t (fw_t (fw_t fw_h)))))))))))))))) (fw_c (fw_t (fw_l (fw_l (fw_l (fw_t (fw_t (fw_t (fw_t (fw_t (fw_t (fw_t (fw_t (fw_t (fw_t (fw_t (fw_t (fw_t fw_h))))))))))))))))) (fw_c (fw_t (fw_l (fw_l (fw_l (fw_t (fw_t (fw_t (fw_t (fw_t (fw_t (fw_t (fw_t (fw_t (fw_t (fw_t (fw_t (fw_t (fw_t fw_h)))))))))))))))))) (fw_c (fw_t (fw_l (fw_l (fw_l (fw_t (fw_t (fw_t (fw_t (fw_t (fw_t (fw_t (fw_t (fw_t (fw_t (fw_t (fw_t (fw_t (fw_t (fw_t fw_h))))))))))))))))))) (fw_c (fw_t (fw_l (fw_l (fw_l (fw_t (fw_t (fw_t (fw_t (fw_t (fw_t (fw_t (fw_t (fw_t (fw_t (fw_t (fw_t (fw_t (fw_t (fw_t (fw_t fw_h)))))))))))))))))))) (fw_c (fw_t (fw_l (fw_l (fw_l (fw_t (fw_t (fw_t (fw_t (fw_t (fw_t (fw_t (fw_t (fw_t (fw_t (fw_t (fw_t (fw_t (fw_t (fw_t (fw_t (fw_t fw_h))))))))))))))))))))) (fw_c (fw_t (fw_l (fw_l (fw_l (fw_t (fw_t (fw_t (fw_t (fw_t (fw_t (fw_t (fw_t (fw_t (fw_t (fw_t (fw_t (fw_t (fw_t (fw_t (fw_t (fw_t (fw_t fw_h)))))))))))))))))))))) (fw_c (fw_t (fw_l (fw_l (fw_l (fw_t (fw_t (fw_t (fw_t (fw_t (fw_t (fw_t (fw_t (fw_t (fw_t (fw_t (fw_t (fw_t (fw_t (fw_t (fw_t (fw_t (fw_t (fw_t fw_h))))))))))))))))))))))) (fw_c (fw_t (fw_l (fw_l (fw_l (fw_t (fw_t (fw_t (fw_t (fw_t (fw_t (fw_t (fw_t (fw_t (fw_t (fw_t (fw_t (fw_t (fw_t (fw_t (fw_t (fw_t (fw_t (fw_t (fw_t fw_h)))))))))))))))))))))))) (fw_c (fw_t (fw_l (fw_l (fw_l (fw_t (fw_t (fw_t (fw_t (fw_t (fw_t (fw_t (fw_t (fw_t (fw_t (fw_t (fw_t (fw_t (fw_t (fw_t (fw_t (fw_t (fw_t (fw_t (fw_t (fw_t fw_h))))))))))))))))))))))))) (fw_c (fw_t (fw_l (fw_l (fw_l (fw_t (fw_t (fw_t (fw_t (fw_t (fw_t (fw_t (fw_t (fw_t (fw_t (fw_t (fw_t (fw_t (fw_t (fw_t (fw_t (fw_t (fw_t (fw_t (fw_t (fw_t (fw_t fw_h)))))))))))))))))))))))))) (fw_c (fw_t (fw_l (fw_l (fw_l (fw_t (fw_t (fw_t (fw_t (fw_t (fw_t (fw_t (fw_t (fw_t (fw_t (fw_t (fw_t (fw_t (fw_t (fw_t (fw_t (fw_t (fw_t (fw_t (fw_t (fw_t (fw_t (fw_t fw_h))))))))))))))))))))))))))) (fw_c (fw_t (fw_l (fw_l (fw_r fw_h)))) (fw_c (fw_t (fw_l (fw_l (fw_r (fw_t fw_h))))) (fw_c (fw_t (fw_l (fw_l (fw_r (fw_t (fw_t fw_h)))))) fw_n))))))))))))))))))))) (fun _ h => fw_t (fw_l (fw_r h)))) (fun _ h => fw_t (fw_r h)))) (by decide +kernel)
set_option maxRecDepth 20000 in
theorem gX0_close_X0_count : GoodIn wsX0_close (wsV RX0 42 RX0 yX0_count wsX0_count) := goodIn_app (goodIn_sub (fw_c (fw_t (fw_l (fw_l (fw_l (fw_t (fw_t fw_h)))))) (fw_c (fw_t (fw_l (fw_l (fw_l (fw_t (fw_t (fw_t fw_h))))))) (fw_c (fw_t (fw_l (fw_l (fw_l (fw_t (fw_t (fw_t (fw_t fw_h)))))))) (fw_c (fw_t (fw_l (fw_l (fw_l (fw_t (fw_t (fw_t (fw_t (fw_t fw_h))))))))) fw_n)))) (by decide +kernel)) ggX0_close_X0_count
theorem dX0_close_0 : decode cX0_close 0 = .ok (.aload_n 0, 1) := by decide +kernel
theorem dX0_close_1 : decode cX0_close 1 = .ok (.aload_n 1, 1) := by decide +kernel
theorem dX0_close_2 : decode cX0_close 2 = .ok (.iconst (-1), 1) := by decide +kernel
theorem dX0_close_3 : decode cX0_close 3 = .ok (.invokevirtual 42, 3) := by decide +kernel
theorem dX0_close_6 : decode cX0_close 6 = .ok (.pop, 1) := by decide +kernel
theorem dX0_close_7 : decode cX0_close 7 = .ok (.aload_n 0, 1) := by decide +kernel
theorem dX0_close_8 : decode cX0_close 8 = .ok (.iconst 0, 1) := by decide +kernel
theorem dX0_close_9 : decode cX0_close 9 = .ok (.putfield 35, 3) := by decide +kernel
theorem dX0_close_12 : decode cX0_close 12 = .ok (.aload_n 0, 1) := by decide +kernel
theorem dX0_close_13 : decode cX0_close 13 = .ok (.iconst 0, 1) := by decide +kernel
theorem dX0_close_14 : decode cX0_close 14 = .ok (.putfield 39, 3) := by decide +kernel
theorem dX0_close_17 : decode cX0_close 17 = .ok (.return_, 1) := by decide +kernel
set_option maxRecDepth 20000 in
theorem ggX0_count_X10_cell : GoodIn wsX0_count wsX10_cell := goodIn_sub (fw_c (fw_t (fw_l (fw_l (fw_t (fw_t (fw_t (fw_t (fw_t (fw_t (fw_t (fw_t fw_h))))))))))) (fw_c (fw_t (fw_l (fw_l (fw_t (fw_t (fw_t (fw_t (fw_t (fw_t (fw_t (fw_t (fw_t fw_h)))))))))))) (fw_c (fw_t (fw_l (fw_l (fw_t (fw_t (fw_t (fw_t (fw_t (fw_t (fw_t (fw_t (fw_t (fw_t fw_h))))))))))))) (fw_c (fw_t (fw_l (fw_l (fw_t (fw_t (fw_t (fw_t (fw_t (fw_t (fw_t (fw_t (fw_t (fw_t (fw_t fw_h)))))))))))))) (fw_c (fw_t (fw_l (fw_l (fw_t (fw_t (fw_t (fw_t (fw_t (fw_t (fw_t (fw_t (fw_t (fw_t (fw_t (fw_t fw_h))))))))))))))) (fw_c (fw_t (fw_l (fw_l (fw_t (fw_t (fw_t (fw_t (fw_t (fw_t (fw_t (fw_t (fw_t (fw_t (fw_t (fw_t (fw_t fw_h)))))))))))))))) (fw_c (fw_t (fw_l (fw_l (fw_t (fw_t (fw_t (fw_t (fw_t (fw_t (fw_t (fw_t (fw_t (fw_t (fw_t (fw_t (fw_t (fw_t fw_h))))))))))))))))) fw_n))))))) (by decide +kernel)
set_option maxRecDepth 20000 in
theorem gX0_count_X10_cell_n46 : GoodIn wsX0_count (wsX10_cell) := ggX0_count_X10_cell
set_option maxRecDepth 20000 in
theorem ggX0_count_X10_count : GoodIn wsX0_count wsX10_count := goodIn_sub (fw_c (fw_t (fw_l (fw_l (fw_t (fw_t (fw_t (fw_t (fw_t (fw_t (fw_t (fw_t (fw_t (fw_t (fw_t (fw_t (fw_t (fw_t (fw_t (fw_t (fw_t (fw_t fw_h))))))))))))))))))))) (fw_a (fw_c (fw_t (fw_l (fw_l (fw_t (fw_t (fw_t (fw_t (fw_t (fw_t (fw_t (fw_t (fw_t (fw_t (fw_t (fw_t (fw_t (fw_t (fw_t (fw_t (fw_t (fw_t (fw_t fw_h)))))))))))))))))))))) (fw_c (fw_t (fw_l (fw_l (fw_t (fw_t (fw_t (fw_t (fw_t (fw_t (fw_t (fw_t (fw_t (fw_t (fw_t (fw_t (fw_t (fw_t (fw_t (fw_t (fw_t (fw_t (fw_t (fw_t fw_h))))))))))))))))))))))) fw_n)) (fun _ h => fw_t (fw_r h)))) (by decide +kernel)
set_option maxRecDepth 20000 in
theorem gX0_count_X10_count : GoodIn wsX0_count (wsV RX0 52 RX10 yX10_count wsX10_count) := goodIn_app (goodIn_sub (fw_c (fw_t (fw_l (fw_l (fw_t (fw_t (fw_t (fw_t (fw_t (fw_t (fw_t (fw_t (fw_t (fw_t (fw_t (fw_t (fw_t (fw_t (fw_t fw_h)))))))))))))))))) (fw_c (fw_t (fw_l (fw_l (fw_t (fw_t (fw_t (fw_t (fw_t (fw_t (fw_t (fw_t (fw_t (fw_t (fw_t (fw_t (fw_t (fw_t (fw_t (fw_t fw_h))))))))))))))))))) (fw_c (fw_t (fw_l (fw_l (fw_t (fw_t (fw_t (fw_t (fw_t (fw_t (fw_t (fw_t (fw_t (fw_t (fw_t (fw_t (fw_t (fw_t (fw_t (fw_t (fw_t fw_h)))))))))))))))))))) (fw_c (fw_t (fw_l (fw_l (fw_t (fw_t (fw_t (fw_t (fw_t (fw_t (fw_t fw_h)))))))))) fw_n)))) (by decide +kernel)) ggX0_count_X10_count
theorem dX0_count_0 : decode cX0_count 0 = .ok (.aload_n 0, 1) := by decide +kernel
theorem dX0_count_1 : decode cX0_count 1 = .ok (.getfield 39, 3) := by decide +kernel
theorem dX0_count_4 : decode cX0_count 4 = .ok (.ifCond .ne 5, 3) := by decide +kernel
theorem dX0_count_7 : decode cX0_count 7 = .ok (.iconst 0, 1) := by decide +kernel
theorem dX0_count_8 : decode cX0_count 8 = .ok (.ireturn, 1) := by decide +kernel
theorem dX0_count_9 : decode cX0_count 9 = .ok (.iconst 0, 1) := by decide +kernel
theorem dX0_count_10 : decode cX0_count 10 = .ok (.istore_n 3, 1) := by decide +kernel
theorem dX0_count_11 : decode cX0_count 11 = .ok (.iload_n 3, 1) := by decide +kernel
theorem dX0_count_12 : decode cX0_count 12 = .ok (.aload_n 0, 1) := by decide +kernel
theorem dX0_count_13 : decode cX0_count 13 = .ok (.getfield 32, 3) := by decide +kernel
theorem dX0_count_16 : decode cX0_count 16 = .ok (.if_icmp .ge 39, 3) := by decide +kernel
theorem dX0_count_19 : decode cX0_count 19 = .ok (.aload_n 1, 1) := by decide +kernel
theorem dX0_count_20 : decode cX0_count 20 = .ok (.aload_n 0, 1) := by decide +kernel
theorem dX0_count_21 : decode cX0_count 21 = .ok (.getfield 22, 3) := by decide +kernel
theorem dX0_count_24 : decode cX0_count 24 = .ok (.aload_n 0, 1) := by decide +kernel
theorem dX0_count_25 : decode cX0_count 25 = .ok (.getfield 9, 3) := by decide +kernel
theorem dX0_count_28 : decode cX0_count 28 = .ok (.iload_n 3, 1) := by decide +kernel
theorem dX0_count_29 : decode cX0_count 29 = .ok (.iaload, 1) := by decide +kernel
theorem dX0_count_30 : decode cX0_count 30 = .ok (.aload_n 0, 1) := by decide +kernel
theorem dX0_count_31 : decode cX0_count 31 = .ok (.getfield 15, 3) := by decide +kernel
theorem dX0_count_34 : decode cX0_count 34 = .ok (.iload_n 3, 1) := by decide +kernel
theorem dX0_count_35 : decode cX0_count 35 = .ok (.iaload, 1) := by decide +kernel
theorem dX0_count_36 : decode cX0_count 36 = .ok (.invokestatic 46, 3) := by decide +kernel
theorem dX0_count_39 : decode cX0_count 39 = .ok (.aload_n 0, 1) := by decide +kernel
theorem dX0_count_40 : decode cX0_count 40 = .ok (.getfield 18, 3) := by decide +kernel
theorem dX0_count_43 : decode cX0_count 43 = .ok (.iload_n 3, 1) := by decide +kernel
theorem dX0_count_44 : decode cX0_count 44 = .ok (.baload, 1) := by decide +kernel
theorem dX0_count_45 : decode cX0_count 45 = .ok (.iload_n 2, 1) := by decide +kernel
theorem dX0_count_46 : decode cX0_count 46 = .ok (.invokevirtual 52, 3) := by decide +kernel
theorem dX0_count_49 : decode cX0_count 49 = .ok (.iinc 3 1, 3) := by decide +kernel
theorem dX0_count_52 : decode cX0_count 52 = .ok (.goto (-41), 3) := by decide +kernel
theorem dX0_count_55 : decode cX0_count 55 = .ok (.aload_n 0, 1) := by decide +kernel
theorem dX0_count_56 : decode cX0_count 56 = .ok (.getfield 32, 3) := by decide +kernel
theorem dX0_count_59 : decode cX0_count 59 = .ok (.ireturn, 1) := by decide +kernel
theorem dX0_wasSeen_0 : decode cX0_wasSeen 0 = .ok (.iconst 0, 1) := by decide +kernel
theorem dX0_wasSeen_1 : decode cX0_wasSeen 1 = .ok (.istore_n 1, 1) := by decide +kernel
theorem dX0_wasSeen_2 : decode cX0_wasSeen 2 = .ok (.iload_n 1, 1) := by decide +kernel
theorem dX0_wasSeen_3 : decode cX0_wasSeen 3 = .ok (.aload_n 0, 1) := by decide +kernel
theorem dX0_wasSeen_4 : decode cX0_wasSeen 4 = .ok (.getfield 32, 3) := by decide +kernel
theorem dX0_wasSeen_7 : decode cX0_wasSeen 7 = .ok (.if_icmp .ge 20, 3) := by decide +kernel
theorem dX0_wasSeen_10 : decode cX0_wasSeen 10 = .ok (.aload_n 0, 1) := by decide +kernel
theorem dX0_wasSeen_11 : decode cX0_wasSeen 11 = .ok (.getfield 18, 3) := by decide +kernel
theorem dX0_wasSeen_14 : decode cX0_wasSeen 14 = .ok (.iload_n 1, 1) := by decide +kernel
theorem dX0_wasSeen_15 : decode cX0_wasSeen 15 = .ok (.baload, 1) := by decide +kernel
theorem dX0_wasSeen_16 : decode cX0_wasSeen 16 = .ok (.ifCond .eq 5, 3) := by decide +kernel
theorem dX0_wasSeen_19 : decode cX0_wasSeen 19 = .ok (.iconst 1, 1) := by decide +kernel
theorem dX0_wasSeen_20 : decode cX0_wasSeen 20 = .ok (.ireturn, 1) := by decide +kernel
theorem dX0_wasSeen_21 : decode cX0_wasSeen 21 = .ok (.iinc 1 1, 3) := by decide +kernel
theorem dX0_wasSeen_24 : decode cX0_wasSeen 24 = .ok (.goto (-22), 3) := by decide +kernel
theorem dX0_wasSeen_27 : decode cX0_wasSeen 27 = .ok (.iconst 0, 1) := by decide +kernel
theorem dX0_wasSeen_28 : decode cX0_wasSeen 28 = .ok (.ireturn, 1) := by decide +kernel
set_option maxRecDepth 20000 in
theorem ggX0_believed_X0_wasSeen : GoodIn wsX0_believed wsX0_wasSeen := goodIn_sub (fw_c (fw_t (fw_l (fw_l (fw_l (fw_t (fw_t (fw_t (fw_t (fw_t (fw_t (fw_t (fw_t (fw_t (fw_t fw_h)))))))))))))) (fw_a (fw_c (fw_t (fw_l (fw_l (fw_l (fw_t (fw_t fw_h)))))) (fw_c (fw_t (fw_l (fw_l (fw_l (fw_t (fw_t (fw_t (fw_t (fw_t (fw_t (fw_t (fw_t (fw_t (fw_t (fw_t fw_h))))))))))))))) fw_n)) (fun _ h => fw_t (fw_l (fw_r h))))) (by decide +kernel)
set_option maxRecDepth 20000 in
theorem gX0_believed_X0_wasSeen : GoodIn wsX0_believed (wsV RX0 55 RX0 yX0_wasSeen wsX0_wasSeen) := goodIn_app (goodIn_sub (fw_c (fw_t (fw_l (fw_l (fw_l (fw_t (fw_t (fw_t (fw_t (fw_t (fw_t fw_h)))))))))) (fw_c (fw_t (fw_l (fw_l (fw_l (fw_t (fw_t (fw_t (fw_t (fw_t (fw_t (fw_t fw_h))))))))))) (fw_c (fw_t (fw_l (fw_l (fw_l (fw_t (fw_t (fw_t (fw_t (fw_t (fw_t (fw_t (fw_t fw_h)))))))))))) (fw_c (fw_t (fw_l (fw_l (fw_l (fw_t (fw_t (fw_t (fw_t (fw_t (fw_t (fw_t (fw_t (fw_t fw_h))))))))))))) fw_n)))) (by decide +kernel)) ggX0_believed_X0_wasSeen
set_option maxRecDepth 20000 in
theorem ggX0_believed_X10_upper : GoodIn wsX0_believed wsX10_upper := goodIn_sub (fw_c (fw_t (fw_l (fw_l (fw_l (fw_t (fw_t (fw_t (fw_t (fw_t (fw_t (fw_t (fw_t (fw_t (fw_t (fw_t (fw_t (fw_t (fw_t (fw_t (fw_t fw_h)))))))))))))))))))) (fw_a (fw_c (fw_t (fw_l (fw_l (fw_l (fw_t (fw_t (fw_t (fw_t (fw_t (fw_t (fw_t (fw_t (fw_t (fw_t (fw_t (fw_t (fw_t (fw_t (fw_t (fw_t (fw_t fw_h))))))))))))))))))))) (fw_c (fw_t (fw_l (fw_l (fw_l (fw_t (fw_t (fw_t (fw_t (fw_t (fw_t (fw_t (fw_t (fw_t (fw_t (fw_t (fw_t (fw_t (fw_t (fw_t (fw_t (fw_t (fw_t fw_h)))))))))))))))))))))) (fw_c (fw_t (fw_l (fw_l (fw_l (fw_t (fw_t (fw_t (fw_t (fw_t (fw_t (fw_t (fw_t (fw_t (fw_t (fw_t (fw_t (fw_t (fw_t (fw_t (fw_t (fw_t (fw_t (fw_t fw_h))))))))))))))))))))))) (fw_c (fw_t (fw_l (fw_l (fw_l (fw_t (fw_t (fw_t (fw_t (fw_t (fw_t (fw_t (fw_t (fw_t (fw_t (fw_t (fw_t (fw_t (fw_t (fw_t fw_h))))))))))))))))))) (fw_c (fw_t (fw_l (fw_l (fw_l (fw_t (fw_t (fw_t (fw_t (fw_t (fw_t (fw_t (fw_t (fw_t (fw_t (fw_t (fw_t (fw_t (fw_t (fw_t (fw_t (fw_t (fw_t (fw_t (fw_t fw_h)))))))))))))))))))))))) (fw_c (fw_t (fw_l (fw_l (fw_l (fw_t (fw_t (fw_t (fw_t (fw_t (fw_t (fw_t (fw_t (fw_t (fw_t (fw_t (fw_t (fw_t (fw_t (fw_t (fw_t (fw_t (fw_t (fw_t (fw_t (fw_t fw_h))))))))))))))))))))))))) (fw_c (fw_t (fw_l (fw_l (fw_l (fw_t (fw_t (fw_t (fw_t (fw_t (fw_t (fw_t (fw_t (fw_t (fw_t (fw_t (fw_t (fw_t (fw_t (fw_t (fw_t (fw_t (fw_t (fw_t (fw_t (fw_t (fw_t fw_h)))))))))))))))))))))))))) (fw_c (fw_t (fw_l (fw_l (fw_l (fw_t (fw_t (fw_t (fw_t (fw_t (fw_t (fw_t (fw_t (fw_t (fw_t (fw_t (fw_t (fw_t (fw_t (fw_t (fw_t (fw_t (fw_t (fw_t (fw_t (fw_t (fw_t (fw_t fw_h))))))))))))))))))))))))))) (fw_c (fw_t (fw_l (fw_l (fw_r fw_h)))) (fw_c (fw_t (fw_l (fw_l (fw_r (fw_t fw_h))))) (fw_c (fw_t (fw_l (fw_l (fw_r (fw_t (fw_t fw_h)))))) fw_n))))))))))) (fun _ h => fw_t (fw_r h)))) (by decide +kernel)
set_option maxRecDepth 20000 in
theorem gX0_believed_X10_upper : GoodIn wsX0_believed (wsV RX0 61 RX10 yX10_upper wsX10_upper) := goodIn_app (goodIn_sub (fw_c (fw_t (fw_l (fw_l (fw_l (fw_t (fw_t (fw_t (fw_t (fw_t (fw_t (fw_t (fw_t (fw_t (fw_t (fw_t (fw_t fw_h)))))))))))))))) (fw_c (fw_t (fw_l (fw_l (fw_l (fw_t (fw_t (fw_t (fw_t (fw_t (fw_t (fw_t (fw_t (fw_t (fw_t (fw_t (fw_t (fw_t fw_h))))))))))))))))) (fw_c (fw_t (fw_l (fw_l (fw_l (fw_t (fw_t (fw_t (fw_t (fw_t (fw_t (fw_t (fw_t (fw_t (fw_t (fw_t (fw_t (fw_t (fw_t fw_h)))))))))))))))))) (fw_c (fw_t (fw_l (fw_l (fw_l (fw_t (fw_t (fw_t (fw_t (fw_t (fw_t (fw_t (fw_t (fw_t (fw_t (fw_t (fw_t (fw_t (fw_t (fw_t fw_h))))))))))))))))))) fw_n)))) (by decide +kernel)) ggX0_believed_X10_upper
set_option maxRecDepth 20000 in
theorem ggX0_believed_X10_lower : GoodIn wsX0_believed wsX10_lower := goodIn_sub (fw_c (fw_t (fw_l (fw_l (fw_r (fw_t (fw_t (fw_t (fw_t (fw_t (fw_t fw_h)))))))))) (fw_a (fw_c (fw_t (fw_l (fw_l (fw_r (fw_t (fw_t (fw_t (fw_t (fw_t (fw_t (fw_t fw_h))))))))))) (fw_c (fw_t (fw_l (fw_l (fw_l (fw_t (fw_t (fw_t (fw_t (fw_t (fw_t (fw_t (fw_t (fw_t (fw_t (fw_t (fw_t (fw_t (fw_t (fw_t (fw_t (fw_t (fw_t fw_h)))))))))))))))))))))) (fw_c (fw_t (fw_l (fw_l (fw_l (fw_t (fw_t (fw_t (fw_t (fw_t (fw_t (fw_t (fw_t (fw_t (fw_t (fw_t (fw_t (fw_t (fw_t (fw_t (fw_t (fw_t (fw_t (fw_t fw_h))))))))))))))))))))))) (fw_c (fw_t (fw_l (fw_l (fw_l (fw_t (fw_t (fw_t (fw_t (fw_t (fw_t (fw_t (fw_t (fw_t (fw_t (fw_t (fw_t (fw_t (fw_t (fw_t fw_h))))))))))))))))))) (fw_c (fw_t (fw_l (fw_l (fw_l (fw_t (fw_t (fw_t (fw_t (fw_t (fw_t (fw_t (fw_t (fw_t (fw_t (fw_t (fw_t (fw_t (fw_t (fw_t (fw_t (fw_t (fw_t (fw_t (fw_t fw_h)))))))))))))))))))))))) (fw_c (fw_t (fw_l (fw_l (fw_l (fw_t (fw_t (fw_t (fw_t (fw_t (fw_t (fw_t (fw_t (fw_t (fw_t (fw_t (fw_t (fw_t (fw_t (fw_t (fw_t (fw_t (fw_t (fw_t (fw_t (fw_t fw_h))))))))))))))))))))))))) (fw_c (fw_t (fw_l (fw_l (fw_l (fw_t (fw_t (fw_t (fw_t (fw_t (fw_t (fw_t (fw_t (fw_t (fw_t (fw_t (fw_t (fw_t (fw_t (fw_t (fw_t (fw_t (fw_t (fw_t (fw_t (fw_t (fw_t fw_h)))))))))))))))))))))))))) (fw_c (fw_t (fw_l (fw_l (fw_l (fw_t (fw_t (fw_t (fw_t (fw_t (fw_t (fw_t (fw_t (fw_t (fw_t (fw_t (fw_t (fw_t (fw_t (fw_t (fw_t (fw_t (fw_t (fw_t (fw_t (fw_t (fw_t (fw_t fw_h))))))))))))))))))))))))))) (fw_c (fw_t (fw_l (fw_l (fw_r fw_h)))) (fw_c (fw_t (fw_l (fw_l (fw_r (fw_t fw_h))))) (fw_c (fw_t (fw_l (fw_l (fw_r (fw_t (fw_t fw_h)))))) fw_n))))))))))) (fun _ h => fw_t (fw_r h)))) (by decide +kernel)
set_option maxRecDepth 20000 in
theorem gX0_believed_X10_lower : GoodIn wsX0_believed (wsV RX0 64 RX10 yX10_lower wsX10_lower) := goodIn_app (goodIn_sub (fw_c (fw_t (fw_l (fw_l (fw_r (fw_t (fw_t (fw_t fw_h))))))) (fw_c (fw_t (fw_l (fw_l (fw_r (fw_t (fw_t (fw_t (fw_t fw_h)))))))) (fw_c (fw_t (fw_l (fw_l (fw_r (fw_t (fw_t (fw_t (fw_t (fw_t fw_h))))))))) (fw_c (fw_t (fw_l (fw_l (fw_l (fw_t (fw_t (fw_t (fw_t (fw_t (fw_t (fw_t (fw_t (fw_t (fw_t (fw_t (fw_t (fw_t (fw_t (fw_t fw_h))))))))))))))))))) fw_n)))) (by decide +kernel)) ggX0_believed_X10_lower
set_option maxRecDepth 20000 in
theorem ggX0_believed_X11_part : GoodIn wsX0_believed wsX11_part := goodIn_sub (fw_c (fw_t (fw_l (fw_l (fw_r (fw_t (fw_t (fw_t (fw_t (fw_t (fw_t (fw_t (fw_t (fw_t fw_h))))))))))))) (fw_c (fw_t (fw_l (fw_l (fw_r (fw_t (fw_t (fw_t (fw_t (fw_t (fw_t (fw_t (fw_t (fw_t (fw_t fw_h)))))))))))))) (fw_c (fw_t (fw_l (fw_l (fw_r (fw_t (fw_t (fw_t (fw_t (fw_t (fw_t (fw_t (fw_t (fw_t (fw_t (fw_t fw_h))))))))))))))) (fw_c (fw_t (fw_l (fw_l (fw_r (fw_t (fw_t (fw_t (fw_t (fw_t (fw_t (fw_t (fw_t (fw_t (fw_t (fw_t (fw_t fw_h)))))))))))))))) (fw_c (fw_t (fw_l (fw_l (fw_r (fw_t (fw_t (fw_t (fw_t (fw_t (fw_t (fw_t (fw_t (fw_t (fw_t (fw_t (fw_t (fw_t fw_h))))))))))))))))) (fw_c (fw_t (fw_l (fw_l (fw_r (fw_t (fw_t (fw_t (fw_t (fw_t (fw_t (fw_t (fw_t (fw_t (fw_t (fw_t (fw_t (fw_t (fw_t fw_h)))))))))))))))))) (fw_c (fw_t (fw_l (fw_l (fw_r (fw_t (fw_t (fw_t (fw_t (fw_t (fw_t (fw_t (fw_t (fw_t (fw_t (fw_t (fw_t (fw_t (fw_t (fw_t fw_h))))))))))))))))))) (fw_c (fw_t (fw_l (fw_l (fw_l (fw_t (fw_t (fw_t (fw_t (fw_t (fw_t (fw_t (fw_t (fw_t (fw_t (fw_t (fw_t (fw_t (fw_t (fw_t (fw_t (fw_t (fw_t (fw_t (fw_t (fw_t (fw_t fw_h)))))))))))))))))))))))))) (fw_c (fw_t (fw_l (fw_l (fw_r (fw_t (fw_t (fw_t (fw_t (fw_t (fw_t (fw_t (fw_t (fw_t (fw_t (fw_t (fw_t (fw_t (fw_t (fw_t (fw_t fw_h)))))))))))))))))))) fw_n))))))))) (by decide +kernel)
set_option maxRecDepth 20000 in
theorem gX0_believed_X11_part_n67 : GoodIn wsX0_believed (wsX11_part) := ggX0_believed_X11_part
theorem dX0_believed_0 : decode cX0_believed 0 = .ok (.aload_n 0, 1) := by decide +kernel
theorem dX0_believed_1 : decode cX0_believed 1 = .ok (.invokevirtual 55, 3) := by decide +kernel
theorem dX0_believed_4 : decode cX0_believed 4 = .ok (.ifCond .eq 5, 3) := by decide +kernel
theorem dX0_believed_7 : decode cX0_believed 7 = .ok (.lconst 1, 1) := by decide +kernel
theorem dX0_believed_8 : decode cX0_believed 8 = .ok (.lreturn, 1) := by decide +kernel
theorem dX0_believed_9 : decode cX0_believed 9 = .ok (.aload_n 0, 1) := by decide +kernel
theorem dX0_believed_10 : decode cX0_believed 10 = .ok (.getfield 26, 3) := by decide +kernel
theorem dX0_believed_13 : decode cX0_believed 13 = .ok (.i2l, 1) := by decide +kernel
theorem dX0_believed_14 : decode cX0_believed 14 = .ok (.lstore_n 3, 1) := by decide +kernel
theorem dX0_believed_15 : decode cX0_believed 15 = .ok (.ldc2_w 59, 3) := by decide +kernel
theorem dX0_believed_18 : decode cX0_believed 18 = .ok (.lstore 5, 2) := by decide +kernel
theorem dX0_believed_20 : decode cX0_believed 20 = .ok (.iconst 0, 1) := by decide +kernel
theorem dX0_believed_21 : decode cX0_believed 21 = .ok (.istore 7, 2) := by decide +kernel
theorem dX0_believed_23 : decode cX0_believed 23 = .ok (.iload 7, 2) := by decide +kernel
theorem dX0_believed_25 : decode cX0_believed 25 = .ok (.aload_n 0, 1) := by decide +kernel
theorem dX0_believed_26 : decode cX0_believed 26 = .ok (.getfield 32, 3) := by decide +kernel
theorem dX0_believed_29 : decode cX0_believed 29 = .ok (.if_icmp .ge 83, 3) := by decide +kernel
theorem dX0_believed_32 : decode cX0_believed 32 = .ok (.aload_n 1, 1) := by decide +kernel
theorem dX0_believed_33 : decode cX0_believed 33 = .ok (.aload_n 0, 1) := by decide +kernel
theorem dX0_believed_34 : decode cX0_believed 34 = .ok (.getfield 22, 3) := by decide +kernel
theorem dX0_believed_37 : decode cX0_believed 37 = .ok (.aload_n 0, 1) := by decide +kernel
theorem dX0_believed_38 : decode cX0_believed 38 = .ok (.getfield 9, 3) := by decide +kernel
theorem dX0_believed_41 : decode cX0_believed 41 = .ok (.iload 7, 2) := by decide +kernel
theorem dX0_believed_43 : decode cX0_believed 43 = .ok (.iaload, 1) := by decide +kernel
theorem dX0_believed_44 : decode cX0_believed 44 = .ok (.aload_n 0, 1) := by decide +kernel
theorem dX0_believed_45 : decode cX0_believed 45 = .ok (.getfield 15, 3) := by decide +kernel
theorem dX0_believed_48 : decode cX0_believed 48 = .ok (.iload 7, 2) := by decide +kernel
theorem dX0_believed_50 : decode cX0_believed 50 = .ok (.iaload, 1) := by decide +kernel
theorem dX0_believed_51 : decode cX0_believed 51 = .ok (.invokevirtual 61, 3) := by decide +kernel
theorem dX0_believed_54 : decode cX0_believed 54 = .ok (.i2l, 1) := by decide +kernel
theorem dX0_believed_55 : decode cX0_believed 55 = .ok (.lstore 8, 2) := by decide +kernel
theorem dX0_believed_57 : decode cX0_believed 57 = .ok (.aload_n 1, 1) := by decide +kernel
theorem dX0_believed_58 : decode cX0_believed 58 = .ok (.aload_n 0, 1) := by decide +kernel
theorem dX0_believed_59 : decode cX0_believed 59 = .ok (.getfield 22, 3) := by decide +kernel
theorem dX0_believed_62 : decode cX0_believed 62 = .ok (.aload_n 0, 1) := by decide +kernel
theorem dX0_believed_63 : decode cX0_believed 63 = .ok (.getfield 9, 3) := by decide +kernel
theorem dX0_believed_66 : decode cX0_believed 66 = .ok (.iload 7, 2) := by decide +kernel
theorem dX0_believed_68 : decode cX0_believed 68 = .ok (.iaload, 1) := by decide +kernel
theorem dX0_believed_69 : decode cX0_believed 69 = .ok (.aload_n 0, 1) := by decide +kernel
theorem dX0_believed_70 : decode cX0_believed 70 = .ok (.getfield 15, 3) := by decide +kernel
theorem dX0_believed_73 : decode cX0_believed 73 = .ok (.iload 7, 2) := by decide +kernel
theorem dX0_believed_75 : decode cX0_believed 75 = .ok (.iaload, 1) := by decide +kernel
theorem dX0_believed_76 : decode cX0_believed 76 = .ok (.invokevirtual 64, 3) := by decide +kernel
theorem dX0_believed_79 : decode cX0_believed 79 = .ok (.i2l, 1) := by decide +kernel
theorem dX0_believed_80 : decode cX0_believed 80 = .ok (.lstore 10, 2) := by decide +kernel
theorem dX0_believed_82 : decode cX0_believed 82 = .ok (.lload_n 3, 1) := by decide +kernel
theorem dX0_believed_83 : decode cX0_believed 83 = .ok (.lload 10, 2) := by decide +kernel
theorem dX0_believed_85 : decode cX0_believed 85 = .ok (.lload 8, 2) := by decide +kernel
theorem dX0_believed_87 : decode cX0_believed 87 = .ok (.lsub, 1) := by decide +kernel
theorem dX0_believed_88 : decode cX0_believed 88 = .ok (.lmul, 1) := by decide +kernel
theorem dX0_believed_89 : decode cX0_believed 89 = .ok (.lstore 12, 2) := by decide +kernel
theorem dX0_believed_91 : decode cX0_believed 91 = .ok (.lload 12, 2) := by decide +kernel
theorem dX0_believed_93 : decode cX0_believed 93 = .ok (.lload 5, 2) := by decide +kernel
theorem dX0_believed_95 : decode cX0_believed 95 = .ok (.lload_n 3, 1) := by decide +kernel
theorem dX0_believed_96 : decode cX0_believed 96 = .ok (.lsub, 1) := by decide +kernel
theorem dX0_believed_97 : decode cX0_believed 97 = .ok (.lload 10, 2) := by decide +kernel
theorem dX0_believed_99 : decode cX0_believed 99 = .ok (.lmul, 1) := by decide +kernel
theorem dX0_believed_100 : decode cX0_believed 100 = .ok (.ladd, 1) := by decide +kernel
theorem dX0_believed_101 : decode cX0_believed 101 = .ok (.lstore 5, 2) := by decide +kernel
theorem dX0_believed_103 : decode cX0_believed 103 = .ok (.lload 12, 2) := by decide +kernel
theorem dX0_believed_105 : decode cX0_believed 105 = .ok (.lstore_n 3, 1) := by decide +kernel
theorem dX0_believed_106 : decode cX0_believed 106 = .ok (.iinc 7 1, 3) := by decide +kernel
theorem dX0_believed_109 : decode cX0_believed 109 = .ok (.goto (-86), 3) := by decide +kernel
theorem dX0_believed_112 : decode cX0_believed 112 = .ok (.lload_n 3, 1) := by decide +kernel
theorem dX0_believed_113 : decode cX0_believed 113 = .ok (.lload 5, 2) := by decide +kernel
theorem dX0_believed_115 : decode cX0_believed 115 = .ok (.iload_n 2, 1) := by decide +kernel
theorem dX0_believed_116 : decode cX0_believed 116 = .ok (.invokestatic 67, 3) := by decide +kernel
theorem dX0_believed_119 : decode cX0_believed 119 = .ok (.lreturn, 1) := by decide +kernel
set_option maxRecDepth 20000 in
theorem ggX0_gain_X10_lower : GoodIn wsX0_gain wsX10_lower := goodIn_sub (fw_c (fw_t (fw_l (fw_l (fw_l (fw_t (fw_t (fw_t (fw_t (fw_t (fw_t (fw_t (fw_t fw_h)))))))))))) (fw_a (fw_c (fw_t (fw_l (fw_l (fw_l (fw_t (fw_t (fw_t (fw_t (fw_t (fw_t (fw_t (fw_t (fw_t fw_h))))))))))))) (fw_c (fw_t (fw_l (fw_l (fw_l (fw_t (fw_t (fw_t (fw_t (fw_t (fw_t (fw_t (fw_t (fw_t (fw_t fw_h)))))))))))))) (fw_c (fw_t (fw_l (fw_l (fw_l (fw_t (fw_t (fw_t (fw_t (fw_t (fw_t (fw_t (fw_t (fw_t (fw_t (fw_t fw_h))))))))))))))) (fw_c (fw_t (fw_l (fw_l (fw_l (fw_t (fw_t (fw_t (fw_t (fw_t (fw_t (fw_t fw_h))))))))))) (fw_c (fw_t (fw_l (fw_l (fw_l (fw_t (fw_t (fw_t (fw_t (fw_t (fw_t (fw_t (fw_t (fw_t (fw_t (fw_t (fw_t fw_h)))))))))))))))) (fw_c (fw_t (fw_l (fw_l (fw_l (fw_t (fw_t (fw_t (fw_t (fw_t (fw_t (fw_t (fw_t (fw_t (fw_t (fw_t (fw_t (fw_t fw_h))))))))))))))))) (fw_c (fw_t (fw_l (fw_l (fw_l (fw_t (fw_t (fw_t (fw_t (fw_t (fw_t (fw_t (fw_t (fw_t (fw_t (fw_t (fw_t (fw_t (fw_t fw_h)))))))))))))))))) (fw_c (fw_t (fw_l (fw_l (fw_l (fw_t (fw_t (fw_t (fw_t (fw_t (fw_t (fw_t (fw_t (fw_t (fw_t (fw_t (fw_t (fw_t (fw_t (fw_t fw_h))))))))))))))))))) (fw_c (fw_t (fw_l (fw_l (fw_l (fw_t (fw_t (fw_t (fw_t (fw_t (fw_t (fw_t (fw_t (fw_t (fw_t (fw_t (fw_t (fw_t (fw_t (fw_t (fw_t fw_h)))))))))))))))))))) (fw_c (fw_t (fw_l (fw_l (fw_l (fw_t (fw_t (fw_t (fw_t (fw_t (fw_t (fw_t (fw_t (fw_t (fw_t (fw_t (fw_t (fw_t (fw_t (fw_t (fw_t (fw_t fw_h))))))))))))))))))))) (fw_c (fw_t (fw_l (fw_l (fw_l (fw_t (fw_t (fw_t (fw_t (fw_t (fw_t (fw_t (fw_t (fw_t (fw_t (fw_t (fw_t (fw_t (fw_t (fw_t (fw_t (fw_t (fw_t fw_h)))))))))))))))))))))) fw_n))))))))))) (fun _ h => fw_t (fw_r h)))) (by decide +kernel)
set_option maxRecDepth 20000 in
theorem gX0_gain_X10_lower : GoodIn wsX0_gain (wsV RX0 64 RX10 yX10_lower wsX10_lower) := goodIn_app (goodIn_sub (fw_c (fw_t (fw_l (fw_l (fw_l (fw_t (fw_t (fw_t (fw_t fw_h)))))))) (fw_c (fw_t (fw_l (fw_l (fw_l (fw_t (fw_t (fw_t (fw_t (fw_t fw_h))))))))) (fw_c (fw_t (fw_l (fw_l (fw_l (fw_t (fw_t (fw_t (fw_t (fw_t (fw_t fw_h)))))))))) (fw_c (fw_t (fw_l (fw_l (fw_l (fw_t (fw_t (fw_t (fw_t (fw_t (fw_t (fw_t fw_h))))))))))) fw_n)))) (by decide +kernel)) ggX0_gain_X10_lower
set_option maxRecDepth 20000 in
theorem ggX0_gain_X0_wasSeen : GoodIn wsX0_gain wsX0_wasSeen := goodIn_sub (fw_c (fw_t (fw_l (fw_l (fw_l (fw_t (fw_t (fw_t (fw_t (fw_t (fw_t (fw_t (fw_t (fw_t (fw_t (fw_t (fw_t (fw_t (fw_t (fw_t (fw_t (fw_t (fw_t (fw_t (fw_t (fw_t (fw_t (fw_t fw_h))))))))))))))))))))))))))) (fw_a (fw_c (fw_t (fw_l (fw_l (fw_r fw_h)))) (fw_c (fw_t (fw_l (fw_l (fw_r (fw_t fw_h))))) fw_n)) (fun _ h => fw_t (fw_l (fw_r h))))) (by decide +kernel)
set_option maxRecDepth 20000 in
theorem gX0_gain_X0_wasSeen : GoodIn wsX0_gain (wsV RX0 55 RX0 yX0_wasSeen wsX0_wasSeen) := goodIn_app (goodIn_sub (fw_c (fw_t (fw_l (fw_l (fw_l (fw_t (fw_t (fw_t (fw_t (fw_t (fw_t (fw_t (fw_t (fw_t (fw_t (fw_t (fw_t (fw_t (fw_t (fw_t (fw_t (fw_t (fw_t (fw_t fw_h))))))))))))))))))))))) (fw_c (fw_t (fw_l (fw_l (fw_l (fw_t (fw_t (fw_t (fw_t (fw_t (fw_t (fw_t (fw_t (fw_t (fw_t (fw_t (fw_t (fw_t (fw_t (fw_t (fw_t (fw_t (fw_t (fw_t (fw_t fw_h)))))))))))))))))))))))) (fw_c (fw_t (fw_l (fw_l (fw_l (fw_t (fw_t (fw_t (fw_t (fw_t (fw_t (fw_t (fw_t (fw_t (fw_t (fw_t (fw_t (fw_t (fw_t (fw_t (fw_t (fw_t (fw_t (fw_t (fw_t (fw_t fw_h))))))))))))))))))))))))) (fw_c (fw_t (fw_l (fw_l (fw_l (fw_t (fw_t (fw_t (fw_t (fw_t (fw_t (fw_t (fw_t (fw_t (fw_t (fw_t (fw_t (fw_t (fw_t (fw_t (fw_t (fw_t (fw_t (fw_t (fw_t (fw_t (fw_t fw_h)))))))))))))))))))))))))) fw_n)))) (by decide +kernel)) ggX0_gain_X0_wasSeen
set_option maxRecDepth 20000 in
theorem ggX0_gain_X10_upper : GoodIn wsX0_gain wsX10_upper := goodIn_sub (fw_c (fw_t (fw_l (fw_l (fw_r (fw_t (fw_t (fw_t (fw_t (fw_t fw_h))))))))) (fw_a (fw_c (fw_t (fw_l (fw_l (fw_r (fw_t (fw_t (fw_t (fw_t (fw_t (fw_t fw_h)))))))))) (fw_c (fw_t (fw_l (fw_l (fw_l (fw_t (fw_t (fw_t (fw_t (fw_t (fw_t (fw_t (fw_t (fw_t (fw_t fw_h)))))))))))))) (fw_c (fw_t (fw_l (fw_l (fw_l (fw_t (fw_t (fw_t (fw_t (fw_t (fw_t (fw_t (fw_t (fw_t (fw_t (fw_t fw_h))))))))))))))) (fw_c (fw_t (fw_l (fw_l (fw_l (fw_t (fw_t (fw_t (fw_t (fw_t (fw_t (fw_t fw_h))))))))))) (fw_c (fw_t (fw_l (fw_l (fw_l (fw_t (fw_t (fw_t (fw_t (fw_t (fw_t (fw_t (fw_t (fw_t (fw_t (fw_t (fw_t fw_h)))))))))))))))) (fw_c (fw_t (fw_l (fw_l (fw_l (fw_t (fw_t (fw_t (fw_t (fw_t (fw_t (fw_t (fw_t (fw_t (fw_t (fw_t (fw_t (fw_t fw_h))))))))))))))))) (fw_c (fw_t (fw_l (fw_l (fw_l (fw_t (fw_t (fw_t (fw_t (fw_t (fw_t (fw_t (fw_t (fw_t (fw_t (fw_t (fw_t (fw_t (fw_t fw_h)))))))))))))))))) (fw_c (fw_t (fw_l (fw_l (fw_l (fw_t (fw_t (fw_t (fw_t (fw_t (fw_t (fw_t (fw_t (fw_t (fw_t (fw_t (fw_t (fw_t (fw_t (fw_t fw_h))))))))))))))))))) (fw_c (fw_t (fw_l (fw_l (fw_l (fw_t (fw_t (fw_t (fw_t (fw_t (fw_t (fw_t (fw_t (fw_t (fw_t (fw_t (fw_t (fw_t (fw_t (fw_t (fw_t fw_h)))))))))))))))))))) (fw_c (fw_t (fw_l (fw_l (fw_l (fw_t (fw_t (fw_t (fw_t (fw_t (fw_t (fw_t (fw_t (fw_t (fw_t (fw_t (fw_t (fw_t (fw_t (fw_t (fw_t (fw_t fw_h))))))))))))))))))))) (fw_c (fw_t (fw_l (fw_l (fw_l (fw_t (fw_t (fw_t (fw_t (fw_t (fw_t (fw_t (fw_t (fw_t (fw_t (fw_t (fw_t (fw_t (fw_t (fw_t (fw_t (fw_t (fw_t fw_h)))))))))))))))))))))) fw_n))))))))))) (fun _ h => fw_t (fw_r h)))) (by decide +kernel)
set_option maxRecDepth 20000 in
theorem gX0_gain_X10_upper : GoodIn wsX0_gain (wsV RX0 61 RX10 yX10_upper wsX10_upper) := goodIn_app (goodIn_sub (fw_c (fw_t (fw_l (fw_l (fw_r (fw_t (fw_t fw_h)))))) (fw_c (fw_t (fw_l (fw_l (fw_r (fw_t (fw_t (fw_t fw_h))))))) (fw_c (fw_t (fw_l (fw_l (fw_r (fw_t (fw_t (fw_t (fw_t fw_h)))))))) (fw_c (fw_t (fw_l (fw_l (fw_l (fw_t (fw_t (fw_t (fw_t (fw_t (fw_t (fw_t fw_h))))))))))) fw_n)))) (by decide +kernel)) ggX0_gain_X10_upper
theorem dX0_gain_0 : decode cX0_gain 0 = .ok (.aload_n 1, 1) := by decide +kernel
theorem dX0_gain_1 : decode cX0_gain 1 = .ok (.aload_n 0, 1) := by decide +kernel
theorem dX0_gain_2 : decode cX0_gain 2 = .ok (.getfield 22, 3) := by decide +kernel
theorem dX0_gain_5 : decode cX0_gain 5 = .ok (.iload_n 2, 1) := by decide +kernel
theorem dX0_gain_6 : decode cX0_gain 6 = .ok (.iload_n 3, 1) := by decide +kernel
theorem dX0_gain_7 : decode cX0_gain 7 = .ok (.invokevirtual 64, 3) := by decide +kernel
theorem dX0_gain_10 : decode cX0_gain 10 = .ok (.i2l, 1) := by decide +kernel
theorem dX0_gain_11 : decode cX0_gain 11 = .ok (.lstore 4, 2) := by decide +kernel
theorem dX0_gain_13 : decode cX0_gain 13 = .ok (.aload_n 0, 1) := by decide +kernel
theorem dX0_gain_14 : decode cX0_gain 14 = .ok (.getfield 35, 3) := by decide +kernel
theorem dX0_gain_17 : decode cX0_gain 17 = .ok (.ifCond .ne 17, 3) := by decide +kernel
theorem dX0_gain_20 : decode cX0_gain 20 = .ok (.aload_n 0, 1) := by decide +kernel
theorem dX0_gain_21 : decode cX0_gain 21 = .ok (.invokevirtual 55, 3) := by decide +kernel
theorem dX0_gain_24 : decode cX0_gain 24 = .ok (.ifCond .ne 10, 3) := by decide +kernel
theorem dX0_gain_27 : decode cX0_gain 27 = .ok (.lload 4, 2) := by decide +kernel
theorem dX0_gain_29 : decode cX0_gain 29 = .ok (.lconst 0, 1) := by decide +kernel
theorem dX0_gain_30 : decode cX0_gain 30 = .ok (.lcmp, 1) := by decide +kernel
theorem dX0_gain_31 : decode cX0_gain 31 = .ok (.ifCond .gt 5, 3) := by decide +kernel
theorem dX0_gain_34 : decode cX0_gain 34 = .ok (.lconst 0, 1) := by decide +kernel
theorem dX0_gain_35 : decode cX0_gain 35 = .ok (.lreturn, 1) := by decide +kernel
theorem dX0_gain_36 : decode cX0_gain 36 = .ok (.ldc2_w 59, 3) := by decide +kernel
theorem dX0_gain_39 : decode cX0_gain 39 = .ok (.aload_n 0, 1) := by decide +kernel
theorem dX0_gain_40 : decode cX0_gain 40 = .ok (.getfield 26, 3) := by decide +kernel
theorem dX0_gain_43 : decode cX0_gain 43 = .ok (.i2l, 1) := by decide +kernel
theorem dX0_gain_44 : decode cX0_gain 44 = .ok (.lmul, 1) := by decide +kernel
theorem dX0_gain_45 : decode cX0_gain 45 = .ok (.aload_n 1, 1) := by decide +kernel
theorem dX0_gain_46 : decode cX0_gain 46 = .ok (.aload_n 0, 1) := by decide +kernel
theorem dX0_gain_47 : decode cX0_gain 47 = .ok (.getfield 22, 3) := by decide +kernel
theorem dX0_gain_50 : decode cX0_gain 50 = .ok (.iload_n 2, 1) := by decide +kernel
theorem dX0_gain_51 : decode cX0_gain 51 = .ok (.iload_n 3, 1) := by decide +kernel
theorem dX0_gain_52 : decode cX0_gain 52 = .ok (.invokevirtual 61, 3) := by decide +kernel
theorem dX0_gain_55 : decode cX0_gain 55 = .ok (.i2l, 1) := by decide +kernel
theorem dX0_gain_56 : decode cX0_gain 56 = .ok (.lmul, 1) := by decide +kernel
theorem dX0_gain_57 : decode cX0_gain 57 = .ok (.lload 4, 2) := by decide +kernel
theorem dX0_gain_59 : decode cX0_gain 59 = .ok (.ldiv, 1) := by decide +kernel
theorem dX0_gain_60 : decode cX0_gain 60 = .ok (.lreturn, 1) := by decide +kernel
theorem dX1_init_0 : decode cX1_init 0 = .ok (.aload_n 0, 1) := by decide +kernel
theorem dX1_init_1 : decode cX1_init 1 = .ok (.invokespecial 3, 3) := by decide +kernel
theorem dX1_init_4 : decode cX1_init 4 = .ok (.aload_n 0, 1) := by decide +kernel
theorem dX1_init_5 : decode cX1_init 5 = .ok (.bipush 8, 2) := by decide +kernel
theorem dX1_init_7 : decode cX1_init 7 = .ok (.newarray .long, 2) := by decide +kernel
theorem dX1_init_9 : decode cX1_init 9 = .ok (.putfield 9, 3) := by decide +kernel
theorem dX1_init_12 : decode cX1_init 12 = .ok (.aload_n 0, 1) := by decide +kernel
theorem dX1_init_13 : decode cX1_init 13 = .ok (.bipush 8, 2) := by decide +kernel
theorem dX1_init_15 : decode cX1_init 15 = .ok (.newarray .int, 2) := by decide +kernel
theorem dX1_init_17 : decode cX1_init 17 = .ok (.putfield 15, 3) := by decide +kernel
theorem dX1_init_20 : decode cX1_init 20 = .ok (.return_, 1) := by decide +kernel
theorem dX1_set_0 : decode cX1_set 0 = .ok (.aload_n 0, 1) := by decide +kernel
theorem dX1_set_1 : decode cX1_set 1 = .ok (.getfield 19, 3) := by decide +kernel
theorem dX1_set_4 : decode cX1_set 4 = .ok (.ireturn, 1) := by decide +kernel
theorem dX1_gain_0 : decode cX1_gain 0 = .ok (.aload_n 0, 1) := by decide +kernel
theorem dX1_gain_1 : decode cX1_gain 1 = .ok (.getfield 23, 3) := by decide +kernel
theorem dX1_gain_4 : decode cX1_gain 4 = .ok (.lreturn, 1) := by decide +kernel
set_option maxRecDepth 20000 in
theorem ggX1_weighFields_X0_gain : GoodIn wsX1_weighFields wsX0_gain := goodIn_sub (fw_c (fw_t (fw_l (fw_l (fw_l (fw_l (fw_t (fw_t (fw_t (fw_t (fw_t (fw_t fw_h))))))))))) (fw_a (fw_a (fw_a (fw_c (fw_t (fw_l (fw_l (fw_l (fw_l (fw_t (fw_t (fw_t (fw_t (fw_t (fw_t (fw_t fw_h)))))))))))) (fw_c (fw_t (fw_l (fw_l (fw_l (fw_l (fw_t (fw_t (fw_t (fw_t (fw_t (fw_t (fw_t (fw_t fw_h))))))))))))) (fw_c (fw_t (fw_l (fw_l (fw_l (fw_l (fw_t (fw_t (fw_t (fw_t (fw_t (fw_t (fw_t (fw_t (fw_t fw_h)))))))))))))) (fw_c (fw_t (fw_l (fw_l (fw_l (fw_l (fw_t (fw_t (fw_t (fw_t (fw_t (fw_t (fw_t (fw_t (fw_t (fw_t fw_h))))))))))))))) (fw_c (fw_t (fw_l (fw_l (fw_l (fw_l (fw_t (fw_t (fw_t (fw_t (fw_t (fw_t (fw_t (fw_t (fw_t (fw_t (fw_t fw_h)))))))))))))))) (fw_c (fw_t (fw_l (fw_l (fw_l (fw_l (fw_t (fw_t (fw_t (fw_t (fw_t (fw_t (fw_t (fw_t (fw_t (fw_t (fw_t (fw_t fw_h))))))))))))))))) (fw_c (fw_t (fw_l (fw_l (fw_l (fw_l (fw_t (fw_t (fw_t (fw_t (fw_t (fw_t (fw_t (fw_t (fw_t (fw_t (fw_t (fw_t (fw_t fw_h)))))))))))))))))) (fw_c (fw_t (fw_l (fw_l (fw_l (fw_l (fw_t (fw_t (fw_t (fw_t (fw_t (fw_t (fw_t (fw_t (fw_t (fw_t (fw_t (fw_t (fw_t (fw_t fw_h))))))))))))))))))) (fw_c (fw_t (fw_l (fw_l (fw_l (fw_l (fw_t (fw_t (fw_t (fw_t (fw_t (fw_t (fw_t (fw_t (fw_t (fw_t (fw_t (fw_t (fw_t (fw_t (fw_t fw_h)))))))))))))))))))) (fw_c (fw_t (fw_l (fw_l (fw_l (fw_l (fw_t (fw_t (fw_t (fw_t (fw_t (fw_t (fw_t (fw_t (fw_t (fw_t (fw_t (fw_t (fw_t (fw_t (fw_t (fw_t fw_h))))))))))))))))))))) (fw_c (fw_t (fw_l (fw_l (fw_l (fw_l (fw_t (fw_t (fw_t (fw_t (fw_t (fw_t (fw_t (fw_t (fw_t (fw_t (fw_t (fw_t (fw_t (fw_t (fw_t (fw_t (fw_t fw_h)))))))))))))))))))))) (fw_c (fw_t (fw_l (fw_l (fw_l (fw_l (fw_t (fw_t (fw_t (fw_t (fw_t (fw_t (fw_t (fw_t (fw_t (fw_t (fw_t (fw_t (fw_t (fw_t (fw_t (fw_t (fw_t (fw_t fw_h))))))))))))))))))))))) (fw_c (fw_t (fw_l (fw_l (fw_l (fw_l (fw_t (fw_t (fw_t (fw_t (fw_t (fw_t (fw_t (fw_t (fw_t (fw_t (fw_t (fw_t (fw_t (fw_t (fw_t (fw_t (fw_t (fw_t (fw_t fw_h)))))))))))))))))))))))) (fw_c (fw_t (fw_l (fw_l (fw_l (fw_l (fw_t (fw_t (fw_t (fw_t (fw_t (fw_t (fw_t (fw_t (fw_t (fw_t (fw_t (fw_t (fw_t (fw_t (fw_t (fw_t (fw_t (fw_t (fw_t (fw_t fw_h))))))))))))))))))))))))) (fw_c (fw_t (fw_l (fw_l (fw_l (fw_l (fw_t (fw_t (fw_t (fw_t (fw_t (fw_t (fw_t (fw_t (fw_t (fw_t (fw_t (fw_t (fw_t (fw_t (fw_t (fw_t (fw_t (fw_t (fw_t (fw_t (fw_t fw_h)))))))))))))))))))))))))) (fw_c (fw_t (fw_l (fw_l (fw_l (fw_l (fw_t (fw_t (fw_t (fw_t (fw_t (fw_t (fw_t (fw_t (fw_t (fw_t (fw_t (fw_t (fw_t (fw_t (fw_t (fw_t (fw_t (fw_t (fw_t (fw_t (fw_t (fw_t fw_h))))))))))))))))))))))))))) (fw_c (fw_t (fw_l (fw_l (fw_l (fw_l (fw_t (fw_t (fw_t (fw_t (fw_t (fw_t (fw_t (fw_t (fw_t (fw_t (fw_t (fw_t (fw_t (fw_t (fw_t (fw_t (fw_t (fw_t (fw_t (fw_t (fw_t (fw_t (fw_t fw_h)))))))))))))))))))))))))))) (fw_c (fw_t (fw_l (fw_l (fw_l (fw_r fw_h))))) (fw_c (fw_t (fw_l (fw_l (fw_l (fw_r (fw_t fw_h)))))) (fw_c (fw_t (fw_l (fw_l (fw_l (fw_r (fw_t (fw_t fw_h))))))) (fw_c (fw_t (fw_l (fw_l (fw_l (fw_r (fw_t (fw_t (fw_t fw_h)))))))) (fw_c (fw_t (fw_l (fw_l (fw_l (fw_r (fw_t (fw_t (fw_t (fw_t fw_h))))))))) (fw_c (fw_t (fw_l (fw_l (fw_l (fw_l (fw_t (fw_t (fw_t (fw_t (fw_t fw_h)))))))))) (fw_c (fw_t (fw_l (fw_l (fw_l (fw_r (fw_t (fw_t (fw_t (fw_t (fw_t fw_h)))))))))) fw_n)))))))))))))))))))))))) (fw_c (fw_t (fw_l (fw_l (fw_l (fw_r (fw_t (fw_t (fw_t (fw_t (fw_t (fw_t fw_h))))))))))) (fw_c (fw_t (fw_l (fw_l (fw_l (fw_r (fw_t (fw_t (fw_t (fw_t (fw_t (fw_t (fw_t fw_h)))))))))))) (fw_c (fw_t (fw_l (fw_l (fw_l (fw_r (fw_t (fw_t (fw_t (fw_t (fw_t (fw_t (fw_t (fw_t fw_h))))))))))))) (fw_c (fw_t (fw_l (fw_l (fw_l (fw_r (fw_t (fw_t (fw_t (fw_t (fw_t (fw_t (fw_t (fw_t (fw_t fw_h)))))))))))))) (fw_c (fw_t (fw_l (fw_l (fw_l (fw_r (fw_t (fw_t (fw_t (fw_t (fw_t (fw_t (fw_t (fw_t (fw_t (fw_t fw_h))))))))))))))) (fw_c (fw_t (fw_l (fw_l (fw_l (fw_r (fw_t (fw_t (fw_t (fw_t (fw_t (fw_t (fw_t (fw_t (fw_t (fw_t (fw_t fw_h)))))))))))))))) (fw_c (fw_t (fw_l (fw_l (fw_l (fw_r (fw_t (fw_t (fw_t (fw_t (fw_t (fw_t (fw_t (fw_t (fw_t (fw_t (fw_t (fw_t fw_h))))))))))))))))) fw_n)))))))) (fun _ h => fw_t (fw_l (fw_r h)))) (fun _ h => fw_t (fw_r h)))) (by decide +kernel)
set_option maxRecDepth 20000 in
theorem gX1_weighFields_X0_gain : GoodIn wsX1_weighFields (wsV RX1 27 RX0 yX0_gain wsX0_gain) := goodIn_app (goodIn_sub (fw_c (fw_t (fw_l (fw_l (fw_l (fw_l (fw_t (fw_t fw_h))))))) (fw_c (fw_t (fw_l (fw_l (fw_l (fw_l (fw_t (fw_t (fw_t fw_h)))))))) (fw_c (fw_t (fw_l (fw_l (fw_l (fw_l (fw_t (fw_t (fw_t (fw_t fw_h))))))))) (fw_c (fw_t (fw_l (fw_l (fw_l (fw_l (fw_t (fw_t (fw_t (fw_t (fw_t fw_h)))))))))) fw_n)))) (by decide +kernel)) ggX1_weighFields_X0_gain
theorem dX1_weighFields_0 : decode cX1_weighFields 0 = .ok (.iconst 0, 1) := by decide +kernel
theorem dX1_weighFields_1 : decode cX1_weighFields 1 = .ok (.istore 6, 2) := by decide +kernel
theorem dX1_weighFields_3 : decode cX1_weighFields 3 = .ok (.iload 6, 2) := by decide +kernel
theorem dX1_weighFields_5 : decode cX1_weighFields 5 = .ok (.iload_n 2, 1) := by decide +kernel
theorem dX1_weighFields_6 : decode cX1_weighFields 6 = .ok (.if_icmp .ge 56, 3) := by decide +kernel
theorem dX1_weighFields_9 : decode cX1_weighFields 9 = .ok (.iload 6, 2) := by decide +kernel
theorem dX1_weighFields_11 : decode cX1_weighFields 11 = .ok (.bipush 8, 2) := by decide +kernel
theorem dX1_weighFields_13 : decode cX1_weighFields 13 = .ok (.if_icmp .ge 49, 3) := by decide +kernel
theorem dX1_weighFields_16 : decode cX1_weighFields 16 = .ok (.aload_n 1, 1) := by decide +kernel
theorem dX1_weighFields_17 : decode cX1_weighFields 17 = .ok (.iload 6, 2) := by decide +kernel
theorem dX1_weighFields_19 : decode cX1_weighFields 19 = .ok (.aaload, 1) := by decide +kernel
theorem dX1_weighFields_20 : decode cX1_weighFields 20 = .ok (.ifnull 42, 3) := by decide +kernel
theorem dX1_weighFields_23 : decode cX1_weighFields 23 = .ok (.aload_n 0, 1) := by decide +kernel
theorem dX1_weighFields_24 : decode cX1_weighFields 24 = .ok (.getfield 9, 3) := by decide +kernel
theorem dX1_weighFields_27 : decode cX1_weighFields 27 = .ok (.iload 6, 2) := by decide +kernel
theorem dX1_weighFields_29 : decode cX1_weighFields 29 = .ok (.aload_n 1, 1) := by decide +kernel
theorem dX1_weighFields_30 : decode cX1_weighFields 30 = .ok (.iload 6, 2) := by decide +kernel
theorem dX1_weighFields_32 : decode cX1_weighFields 32 = .ok (.aaload, 1) := by decide +kernel
theorem dX1_weighFields_33 : decode cX1_weighFields 33 = .ok (.aload_n 3, 1) := by decide +kernel
theorem dX1_weighFields_34 : decode cX1_weighFields 34 = .ok (.iload 4, 2) := by decide +kernel
theorem dX1_weighFields_36 : decode cX1_weighFields 36 = .ok (.iload 5, 2) := by decide +kernel
theorem dX1_weighFields_38 : decode cX1_weighFields 38 = .ok (.invokevirtual 27, 3) := by decide +kernel
theorem dX1_weighFields_41 : decode cX1_weighFields 41 = .ok (.lastore, 1) := by decide +kernel
theorem dX1_weighFields_42 : decode cX1_weighFields 42 = .ok (.aload_n 0, 1) := by decide +kernel
theorem dX1_weighFields_43 : decode cX1_weighFields 43 = .ok (.getfield 15, 3) := by decide +kernel
theorem dX1_weighFields_46 : decode cX1_weighFields 46 = .ok (.iload 6, 2) := by decide +kernel
theorem dX1_weighFields_48 : decode cX1_weighFields 48 = .ok (.aload_n 1, 1) := by decide +kernel
theorem dX1_weighFields_49 : decode cX1_weighFields 49 = .ok (.iload 6, 2) := by decide +kernel
theorem dX1_weighFields_51 : decode cX1_weighFields 51 = .ok (.aaload, 1) := by decide +kernel
theorem dX1_weighFields_52 : decode cX1_weighFields 52 = .ok (.getfield 33, 3) := by decide +kernel
theorem dX1_weighFields_55 : decode cX1_weighFields 55 = .ok (.iastore, 1) := by decide +kernel
theorem dX1_weighFields_56 : decode cX1_weighFields 56 = .ok (.iinc 6 1, 3) := by decide +kernel
theorem dX1_weighFields_59 : decode cX1_weighFields 59 = .ok (.goto (-56), 3) := by decide +kernel
theorem dX1_weighFields_62 : decode cX1_weighFields 62 = .ok (.return_, 1) := by decide +kernel
set_option maxRecDepth 20000 in
theorem ggX1_choose_X1_weighSet : GoodIn wsX1_choose wsX1_weighSet := goodIn_sub (fw_c (fw_t (fw_l (fw_t (fw_t (fw_t (fw_t (fw_t (fw_t (fw_t (fw_t (fw_t (fw_t (fw_t fw_h))))))))))))) (fw_a (fw_c (fw_t (fw_l (fw_t (fw_t (fw_t (fw_t (fw_t (fw_t (fw_t (fw_t (fw_t (fw_t (fw_t (fw_t fw_h)))))))))))))) (fw_c (fw_t (fw_l (fw_t (fw_t (fw_t (fw_t (fw_t (fw_t (fw_t (fw_t (fw_t (fw_t (fw_t (fw_t (fw_t fw_h))))))))))))))) (fw_c (fw_t (fw_l (fw_t fw_h))) (fw_c (fw_t (fw_l (fw_t (fw_t fw_h)))) (fw_c (fw_t (fw_l fw_h)) fw_n))))) (fun _ h => fw_t (fw_r h)))) (by decide +kernel)
set_option maxRecDepth 20000 in
theorem gX1_choose_X1_weighSet : GoodIn wsX1_choose (wsV RX1 44 RX1 yX1_weighSet wsX1_weighSet) := goodIn_app (goodIn_sub (fw_c (fw_t (fw_l (fw_t (fw_t (fw_t (fw_t (fw_t (fw_t (fw_t fw_h))))))))) (fw_c (fw_t (fw_l (fw_t (fw_t (fw_t (fw_t (fw_t (fw_t (fw_t (fw_t fw_h)))))))))) (fw_c (fw_t (fw_l (fw_t (fw_t (fw_t (fw_t (fw_t (fw_t (fw_t (fw_t (fw_t fw_h))))))))))) (fw_c (fw_t (fw_l (fw_t (fw_t (fw_t (fw_t (fw_t (fw_t (fw_t (fw_t (fw_t (fw_t fw_h)))))))))))) fw_n)))) (by decide +kernel)) ggX1_choose_X1_weighSet
theorem dX1_choose_0 : decode cX1_choose 0 = .ok (.aload_n 0, 1) := by decide +kernel
theorem dX1_choose_1 : decode cX1_choose 1 = .ok (.iconst 0, 1) := by decide +kernel
theorem dX1_choose_2 : decode cX1_choose 2 = .ok (.putfield 19, 3) := by decide +kernel
theorem dX1_choose_5 : decode cX1_choose 5 = .ok (.aload_n 0, 1) := by decide +kernel
theorem dX1_choose_6 : decode cX1_choose 6 = .ok (.lconst 0, 1) := by decide +kernel
theorem dX1_choose_7 : decode cX1_choose 7 = .ok (.putfield 23, 3) := by decide +kernel
theorem dX1_choose_10 : decode cX1_choose 10 = .ok (.aload_n 0, 1) := by decide +kernel
theorem dX1_choose_11 : decode cX1_choose 11 = .ok (.iconst 0, 1) := by decide +kernel
theorem dX1_choose_12 : decode cX1_choose 12 = .ok (.putfield 35, 3) := by decide +kernel
theorem dX1_choose_15 : decode cX1_choose 15 = .ok (.iconst 1, 1) := by decide +kernel
theorem dX1_choose_16 : decode cX1_choose 16 = .ok (.iload_n 1, 1) := by decide +kernel
theorem dX1_choose_17 : decode cX1_choose 17 = .ok (.bipush 8, 2) := by decide +kernel
theorem dX1_choose_19 : decode cX1_choose 19 = .ok (.invokestatic 38, 3) := by decide +kernel
theorem dX1_choose_22 : decode cX1_choose 22 = .ok (.ishl, 1) := by decide +kernel
theorem dX1_choose_23 : decode cX1_choose 23 = .ok (.istore_n 3, 1) := by decide +kernel
theorem dX1_choose_24 : decode cX1_choose 24 = .ok (.iconst 1, 1) := by decide +kernel
theorem dX1_choose_25 : decode cX1_choose 25 = .ok (.istore 4, 2) := by decide +kernel
theorem dX1_choose_27 : decode cX1_choose 27 = .ok (.iload 4, 2) := by decide +kernel
theorem dX1_choose_29 : decode cX1_choose 29 = .ok (.iload_n 3, 1) := by decide +kernel
theorem dX1_choose_30 : decode cX1_choose 30 = .ok (.if_icmp .ge 16, 3) := by decide +kernel
theorem dX1_choose_33 : decode cX1_choose 33 = .ok (.aload_n 0, 1) := by decide +kernel
theorem dX1_choose_34 : decode cX1_choose 34 = .ok (.iload 4, 2) := by decide +kernel
theorem dX1_choose_36 : decode cX1_choose 36 = .ok (.iload_n 2, 1) := by decide +kernel
theorem dX1_choose_37 : decode cX1_choose 37 = .ok (.invokevirtual 44, 3) := by decide +kernel
theorem dX1_choose_40 : decode cX1_choose 40 = .ok (.iinc 4 1, 3) := by decide +kernel
theorem dX1_choose_43 : decode cX1_choose 43 = .ok (.goto (-16), 3) := by decide +kernel
theorem dX1_choose_46 : decode cX1_choose 46 = .ok (.return_, 1) := by decide +kernel
theorem dX1_weighSet_0 : decode cX1_weighSet 0 = .ok (.lconst 0, 1) := by decide +kernel
theorem dX1_weighSet_1 : decode cX1_weighSet 1 = .ok (.lstore_n 3, 1) := by decide +kernel
theorem dX1_weighSet_2 : decode cX1_weighSet 2 = .ok (.iconst 0, 1) := by decide +kernel
theorem dX1_weighSet_3 : decode cX1_weighSet 3 = .ok (.istore 5, 2) := by decide +kernel
theorem dX1_weighSet_5 : decode cX1_weighSet 5 = .ok (.iconst 0, 1) := by decide +kernel
theorem dX1_weighSet_6 : decode cX1_weighSet 6 = .ok (.istore 6, 2) := by decide +kernel
theorem dX1_weighSet_8 : decode cX1_weighSet 8 = .ok (.iload 6, 2) := by decide +kernel
theorem dX1_weighSet_10 : decode cX1_weighSet 10 = .ok (.bipush 8, 2) := by decide +kernel
theorem dX1_weighSet_12 : decode cX1_weighSet 12 = .ok (.if_icmp .ge 41, 3) := by decide +kernel
theorem dX1_weighSet_15 : decode cX1_weighSet 15 = .ok (.iload_n 1, 1) := by decide +kernel
theorem dX1_weighSet_16 : decode cX1_weighSet 16 = .ok (.iload 6, 2) := by decide +kernel
theorem dX1_weighSet_18 : decode cX1_weighSet 18 = .ok (.ishr, 1) := by decide +kernel
theorem dX1_weighSet_19 : decode cX1_weighSet 19 = .ok (.iconst 1, 1) := by decide +kernel
theorem dX1_weighSet_20 : decode cX1_weighSet 20 = .ok (.iand, 1) := by decide +kernel
theorem dX1_weighSet_21 : decode cX1_weighSet 21 = .ok (.iconst 1, 1) := by decide +kernel
theorem dX1_weighSet_22 : decode cX1_weighSet 22 = .ok (.if_icmp .ne 25, 3) := by decide +kernel
theorem dX1_weighSet_25 : decode cX1_weighSet 25 = .ok (.lload_n 3, 1) := by decide +kernel
theorem dX1_weighSet_26 : decode cX1_weighSet 26 = .ok (.aload_n 0, 1) := by decide +kernel
theorem dX1_weighSet_27 : decode cX1_weighSet 27 = .ok (.getfield 9, 3) := by decide +kernel
theorem dX1_weighSet_30 : decode cX1_weighSet 30 = .ok (.iload 6, 2) := by decide +kernel
theorem dX1_weighSet_32 : decode cX1_weighSet 32 = .ok (.laload, 1) := by decide +kernel
theorem dX1_weighSet_33 : decode cX1_weighSet 33 = .ok (.ladd, 1) := by decide +kernel
theorem dX1_weighSet_34 : decode cX1_weighSet 34 = .ok (.lstore_n 3, 1) := by decide +kernel
theorem dX1_weighSet_35 : decode cX1_weighSet 35 = .ok (.iload 5, 2) := by decide +kernel
theorem dX1_weighSet_37 : decode cX1_weighSet 37 = .ok (.aload_n 0, 1) := by decide +kernel
theorem dX1_weighSet_38 : decode cX1_weighSet 38 = .ok (.getfield 15, 3) := by decide +kernel
theorem dX1_weighSet_41 : decode cX1_weighSet 41 = .ok (.iload 6, 2) := by decide +kernel
theorem dX1_weighSet_43 : decode cX1_weighSet 43 = .ok (.iaload, 1) := by decide +kernel
theorem dX1_weighSet_44 : decode cX1_weighSet 44 = .ok (.iadd, 1) := by decide +kernel
theorem dX1_weighSet_45 : decode cX1_weighSet 45 = .ok (.istore 5, 2) := by decide +kernel
theorem dX1_weighSet_47 : decode cX1_weighSet 47 = .ok (.iinc 6 1, 3) := by decide +kernel
theorem dX1_weighSet_50 : decode cX1_weighSet 50 = .ok (.goto (-42), 3) := by decide +kernel
theorem dX1_weighSet_53 : decode cX1_weighSet 53 = .ok (.iload 5, 2) := by decide +kernel
theorem dX1_weighSet_55 : decode cX1_weighSet 55 = .ok (.iload_n 2, 1) := by decide +kernel
theorem dX1_weighSet_56 : decode cX1_weighSet 56 = .ok (.if_icmp .gt 46, 3) := by decide +kernel
theorem dX1_weighSet_59 : decode cX1_weighSet 59 = .ok (.lload_n 3, 1) := by decide +kernel
theorem dX1_weighSet_60 : decode cX1_weighSet 60 = .ok (.aload_n 0, 1) := by decide +kernel
theorem dX1_weighSet_61 : decode cX1_weighSet 61 = .ok (.getfield 23, 3) := by decide +kernel
theorem dX1_weighSet_64 : decode cX1_weighSet 64 = .ok (.lcmp, 1) := by decide +kernel
theorem dX1_weighSet_65 : decode cX1_weighSet 65 = .ok (.ifCond .gt 21, 3) := by decide +kernel
theorem dX1_weighSet_68 : decode cX1_weighSet 68 = .ok (.lload_n 3, 1) := by decide +kernel
theorem dX1_weighSet_69 : decode cX1_weighSet 69 = .ok (.aload_n 0, 1) := by decide +kernel
theorem dX1_weighSet_70 : decode cX1_weighSet 70 = .ok (.getfield 23, 3) := by decide +kernel
theorem dX1_weighSet_73 : decode cX1_weighSet 73 = .ok (.lcmp, 1) := by decide +kernel
theorem dX1_weighSet_74 : decode cX1_weighSet 74 = .ok (.ifCond .ne 28, 3) := by decide +kernel
theorem dX1_weighSet_77 : decode cX1_weighSet 77 = .ok (.iload 5, 2) := by decide +kernel
theorem dX1_weighSet_79 : decode cX1_weighSet 79 = .ok (.aload_n 0, 1) := by decide +kernel
theorem dX1_weighSet_80 : decode cX1_weighSet 80 = .ok (.getfield 35, 3) := by decide +kernel
theorem dX1_weighSet_83 : decode cX1_weighSet 83 = .ok (.if_icmp .ge 19, 3) := by decide +kernel
theorem dX1_weighSet_86 : decode cX1_weighSet 86 = .ok (.aload_n 0, 1) := by decide +kernel
theorem dX1_weighSet_87 : decode cX1_weighSet 87 = .ok (.iload_n 1, 1) := by decide +kernel
theorem dX1_weighSet_88 : decode cX1_weighSet 88 = .ok (.putfield 19, 3) := by decide +kernel
theorem dX1_weighSet_91 : decode cX1_weighSet 91 = .ok (.aload_n 0, 1) := by decide +kernel
theorem dX1_weighSet_92 : decode cX1_weighSet 92 = .ok (.lload_n 3, 1) := by decide +kernel
theorem dX1_weighSet_93 : decode cX1_weighSet 93 = .ok (.putfield 23, 3) := by decide +kernel
theorem dX1_weighSet_96 : decode cX1_weighSet 96 = .ok (.aload_n 0, 1) := by decide +kernel
theorem dX1_weighSet_97 : decode cX1_weighSet 97 = .ok (.iload 5, 2) := by decide +kernel
theorem dX1_weighSet_99 : decode cX1_weighSet 99 = .ok (.putfield 35, 3) := by decide +kernel
theorem dX1_weighSet_102 : decode cX1_weighSet 102 = .ok (.return_, 1) := by decide +kernel
theorem dX2_init_0 : decode cX2_init 0 = .ok (.aload_n 0, 1) := by decide +kernel
theorem dX2_init_1 : decode cX2_init 1 = .ok (.invokespecial 3, 3) := by decide +kernel
theorem dX2_init_4 : decode cX2_init 4 = .ok (.aload_n 0, 1) := by decide +kernel
theorem dX2_init_5 : decode cX2_init 5 = .ok (.bipush 12, 2) := by decide +kernel
theorem dX2_init_7 : decode cX2_init 7 = .ok (.newarray .int, 2) := by decide +kernel
theorem dX2_init_9 : decode cX2_init 9 = .ok (.putfield 9, 3) := by decide +kernel
theorem dX2_init_12 : decode cX2_init 12 = .ok (.aload_n 0, 1) := by decide +kernel
theorem dX2_init_13 : decode cX2_init 13 = .ok (.bipush 7, 2) := by decide +kernel
theorem dX2_init_15 : decode cX2_init 15 = .ok (.newarray .int, 2) := by decide +kernel
theorem dX2_init_17 : decode cX2_init 17 = .ok (.putfield 15, 3) := by decide +kernel
theorem dX2_init_20 : decode cX2_init 20 = .ok (.return_, 1) := by decide +kernel
theorem dX2_size_0 : decode cX2_size 0 = .ok (.aload_n 0, 1) := by decide +kernel
theorem dX2_size_1 : decode cX2_size 1 = .ok (.getfield 18, 3) := by decide +kernel
theorem dX2_size_4 : decode cX2_size 4 = .ok (.ireturn, 1) := by decide +kernel
theorem dX2_add_0 : decode cX2_add 0 = .ok (.aload_n 0, 1) := by decide +kernel
theorem dX2_add_1 : decode cX2_add 1 = .ok (.getfield 18, 3) := by decide +kernel
theorem dX2_add_4 : decode cX2_add 4 = .ok (.bipush 12, 2) := by decide +kernel
theorem dX2_add_6 : decode cX2_add 6 = .ok (.if_icmp .ge 23, 3) := by decide +kernel
theorem dX2_add_9 : decode cX2_add 9 = .ok (.aload_n 0, 1) := by decide +kernel
theorem dX2_add_10 : decode cX2_add 10 = .ok (.getfield 9, 3) := by decide +kernel
theorem dX2_add_13 : decode cX2_add 13 = .ok (.aload_n 0, 1) := by decide +kernel
theorem dX2_add_14 : decode cX2_add 14 = .ok (.getfield 18, 3) := by decide +kernel
theorem dX2_add_17 : decode cX2_add 17 = .ok (.iload_n 1, 1) := by decide +kernel
theorem dX2_add_18 : decode cX2_add 18 = .ok (.iastore, 1) := by decide +kernel
theorem dX2_add_19 : decode cX2_add 19 = .ok (.aload_n 0, 1) := by decide +kernel
theorem dX2_add_20 : decode cX2_add 20 = .ok (.dup, 1) := by decide +kernel
theorem dX2_add_21 : decode cX2_add 21 = .ok (.getfield 18, 3) := by decide +kernel
theorem dX2_add_24 : decode cX2_add 24 = .ok (.iconst 1, 1) := by decide +kernel
theorem dX2_add_25 : decode cX2_add 25 = .ok (.iadd, 1) := by decide +kernel
theorem dX2_add_26 : decode cX2_add 26 = .ok (.putfield 18, 3) := by decide +kernel
theorem dX2_add_29 : decode cX2_add 29 = .ok (.return_, 1) := by decide +kernel
theorem dX2_drop_0 : decode cX2_drop 0 = .ok (.aload_n 0, 1) := by decide +kernel
theorem dX2_drop_1 : decode cX2_drop 1 = .ok (.getfield 18, 3) := by decide +kernel
theorem dX2_drop_4 : decode cX2_drop 4 = .ok (.ifCond .le 13, 3) := by decide +kernel
theorem dX2_drop_7 : decode cX2_drop 7 = .ok (.aload_n 0, 1) := by decide +kernel
theorem dX2_drop_8 : decode cX2_drop 8 = .ok (.dup, 1) := by decide +kernel
theorem dX2_drop_9 : decode cX2_drop 9 = .ok (.getfield 18, 3) := by decide +kernel
theorem dX2_drop_12 : decode cX2_drop 12 = .ok (.iconst 1, 1) := by decide +kernel
theorem dX2_drop_13 : decode cX2_drop 13 = .ok (.isub, 1) := by decide +kernel
theorem dX2_drop_14 : decode cX2_drop 14 = .ok (.putfield 18, 3) := by decide +kernel
theorem dX2_drop_17 : decode cX2_drop 17 = .ok (.return_, 1) := by decide +kernel
theorem dX2_clear_0 : decode cX2_clear 0 = .ok (.aload_n 0, 1) := by decide +kernel
theorem dX2_clear_1 : decode cX2_clear 1 = .ok (.iconst 0, 1) := by decide +kernel
theorem dX2_clear_2 : decode cX2_clear 2 = .ok (.putfield 18, 3) := by decide +kernel
theorem dX2_clear_5 : decode cX2_clear 5 = .ok (.return_, 1) := by decide +kernel
theorem dX2_saveTo_0 : decode cX2_saveTo 0 = .ok (.aload_n 0, 1) := by decide +kernel
theorem dX2_saveTo_1 : decode cX2_saveTo 1 = .ok (.getfield 9, 3) := by decide +kernel
theorem dX2_saveTo_4 : decode cX2_saveTo 4 = .ok (.iconst 0, 1) := by decide +kernel
theorem dX2_saveTo_5 : decode cX2_saveTo 5 = .ok (.aload_n 1, 1) := by decide +kernel
theorem dX2_saveTo_6 : decode cX2_saveTo 6 = .ok (.getfield 22, 3) := by decide +kernel
theorem dX2_saveTo_9 : decode cX2_saveTo 9 = .ok (.iconst 0, 1) := by decide +kernel
theorem dX2_saveTo_10 : decode cX2_saveTo 10 = .ok (.aload_n 0, 1) := by decide +kernel
theorem dX2_saveTo_11 : decode cX2_saveTo 11 = .ok (.getfield 18, 3) := by decide +kernel
theorem dX2_saveTo_14 : decode cX2_saveTo 14 = .ok (.invokestatic 25, 3) := by decide +kernel
theorem dX2_saveTo_17 : decode cX2_saveTo 17 = .ok (.return_, 1) := by decide +kernel
theorem dX2_become_0 : decode cX2_become 0 = .ok (.aload_n 0, 1) := by decide +kernel
theorem dX2_become_1 : decode cX2_become 1 = .ok (.iconst 0, 1) := by decide +kernel
theorem dX2_become_2 : decode cX2_become 2 = .ok (.iload_n 2, 1) := by decide +kernel
theorem dX2_become_3 : decode cX2_become 3 = .ok (.bipush 12, 2) := by decide +kernel
theorem dX2_become_5 : decode cX2_become 5 = .ok (.invokestatic 31, 3) := by decide +kernel
theorem dX2_become_8 : decode cX2_become 8 = .ok (.aload_n 1, 1) := by decide +kernel
theorem dX2_become_9 : decode cX2_become 9 = .ok (.arraylength, 1) := by decide +kernel
theorem dX2_become_10 : decode cX2_become 10 = .ok (.invokestatic 31, 3) := by decide +kernel
theorem dX2_become_13 : decode cX2_become 13 = .ok (.invokestatic 37, 3) := by decide +kernel
theorem dX2_become_16 : decode cX2_become 16 = .ok (.putfield 18, 3) := by decide +kernel
theorem dX2_become_19 : decode cX2_become 19 = .ok (.aload_n 1, 1) := by decide +kernel
theorem dX2_become_20 : decode cX2_become 20 = .ok (.iconst 0, 1) := by decide +kernel
theorem dX2_become_21 : decode cX2_become 21 = .ok (.aload_n 0, 1) := by decide +kernel
theorem dX2_become_22 : decode cX2_become 22 = .ok (.getfield 9, 3) := by decide +kernel
theorem dX2_become_25 : decode cX2_become 25 = .ok (.iconst 0, 1) := by decide +kernel
theorem dX2_become_26 : decode cX2_become 26 = .ok (.aload_n 0, 1) := by decide +kernel
theorem dX2_become_27 : decode cX2_become 27 = .ok (.getfield 18, 3) := by decide +kernel
theorem dX2_become_30 : decode cX2_become 30 = .ok (.invokestatic 25, 3) := by decide +kernel
theorem dX2_become_33 : decode cX2_become 33 = .ok (.return_, 1) := by decide +kernel
set_option maxRecDepth 20000 in
theorem ggX2_firstWrong_X2_taken : GoodIn wsX2_firstWrong wsX2_taken := goodIn_sub (fw_c (fw_t (fw_l (fw_t (fw_t (fw_t (fw_t (fw_t fw_h))))))) (fw_n)) (by decide +kernel)
set_option maxRecDepth 20000 in
theorem gX2_firstWrong_X2_taken : GoodIn wsX2_firstWrong (va_wsS RX2 40 yX2_taken wsX2_taken) := goodIn_app (goodIn_sub (fw_c (fw_t (fw_l (fw_t (fw_t fw_h)))) (fw_c (fw_t (fw_l (fw_t (fw_t (fw_t fw_h))))) (fw_c (fw_t (fw_l (fw_t (fw_t (fw_t (fw_t fw_h)))))) fw_n))) (by decide +kernel)) ggX2_firstWrong_X2_taken
theorem dX2_firstWrong_0 : decode cX2_firstWrong 0 = .ok (.iconst 0, 1) := by decide +kernel
theorem dX2_firstWrong_1 : decode cX2_firstWrong 1 = .ok (.istore_n 1, 1) := by decide +kernel
theorem dX2_firstWrong_2 : decode cX2_firstWrong 2 = .ok (.iconst 0, 1) := by decide +kernel
theorem dX2_firstWrong_3 : decode cX2_firstWrong 3 = .ok (.istore_n 2, 1) := by decide +kernel
theorem dX2_firstWrong_4 : decode cX2_firstWrong 4 = .ok (.iload_n 2, 1) := by decide +kernel
theorem dX2_firstWrong_5 : decode cX2_firstWrong 5 = .ok (.aload_n 0, 1) := by decide +kernel
theorem dX2_firstWrong_6 : decode cX2_firstWrong 6 = .ok (.getfield 18, 3) := by decide +kernel
theorem dX2_firstWrong_9 : decode cX2_firstWrong 9 = .ok (.if_icmp .ge 37, 3) := by decide +kernel
theorem dX2_firstWrong_12 : decode cX2_firstWrong 12 = .ok (.iload_n 1, 1) := by decide +kernel
theorem dX2_firstWrong_13 : decode cX2_firstWrong 13 = .ok (.aload_n 0, 1) := by decide +kernel
theorem dX2_firstWrong_14 : decode cX2_firstWrong 14 = .ok (.getfield 9, 3) := by decide +kernel
theorem dX2_firstWrong_17 : decode cX2_firstWrong 17 = .ok (.iload_n 2, 1) := by decide +kernel
theorem dX2_firstWrong_18 : decode cX2_firstWrong 18 = .ok (.iaload, 1) := by decide +kernel
theorem dX2_firstWrong_19 : decode cX2_firstWrong 19 = .ok (.invokestatic 40, 3) := by decide +kernel
theorem dX2_firstWrong_22 : decode cX2_firstWrong 22 = .ok (.isub, 1) := by decide +kernel
theorem dX2_firstWrong_23 : decode cX2_firstWrong 23 = .ok (.istore_n 3, 1) := by decide +kernel
theorem dX2_firstWrong_24 : decode cX2_firstWrong 24 = .ok (.iload_n 3, 1) := by decide +kernel
theorem dX2_firstWrong_25 : decode cX2_firstWrong 25 = .ok (.ifCond .lt 9, 3) := by decide +kernel
theorem dX2_firstWrong_28 : decode cX2_firstWrong 28 = .ok (.iload_n 3, 1) := by decide +kernel
theorem dX2_firstWrong_29 : decode cX2_firstWrong 29 = .ok (.bipush 6, 2) := by decide +kernel
theorem dX2_firstWrong_31 : decode cX2_firstWrong 31 = .ok (.if_icmp .lt 5, 3) := by decide +kernel
theorem dX2_firstWrong_34 : decode cX2_firstWrong 34 = .ok (.iload_n 2, 1) := by decide +kernel
theorem dX2_firstWrong_35 : decode cX2_firstWrong 35 = .ok (.ireturn, 1) := by decide +kernel
theorem dX2_firstWrong_36 : decode cX2_firstWrong 36 = .ok (.iload_n 3, 1) := by decide +kernel
theorem dX2_firstWrong_37 : decode cX2_firstWrong 37 = .ok (.iconst 1, 1) := by decide +kernel
theorem dX2_firstWrong_38 : decode cX2_firstWrong 38 = .ok (.iadd, 1) := by decide +kernel
theorem dX2_firstWrong_39 : decode cX2_firstWrong 39 = .ok (.istore_n 1, 1) := by decide +kernel
theorem dX2_firstWrong_40 : decode cX2_firstWrong 40 = .ok (.iinc 2 1, 3) := by decide +kernel
theorem dX2_firstWrong_43 : decode cX2_firstWrong 43 = .ok (.goto (-39), 3) := by decide +kernel
theorem dX2_firstWrong_46 : decode cX2_firstWrong 46 = .ok (.iload_n 1, 1) := by decide +kernel
theorem dX2_firstWrong_47 : decode cX2_firstWrong 47 = .ok (.iconst 1, 1) := by decide +kernel
theorem dX2_firstWrong_48 : decode cX2_firstWrong 48 = .ok (.if_icmp .ne 7, 3) := by decide +kernel
theorem dX2_firstWrong_51 : decode cX2_firstWrong 51 = .ok (.iconst (-1), 1) := by decide +kernel
theorem dX2_firstWrong_52 : decode cX2_firstWrong 52 = .ok (.goto 7, 3) := by decide +kernel
theorem dX2_firstWrong_55 : decode cX2_firstWrong 55 = .ok (.aload_n 0, 1) := by decide +kernel
theorem dX2_firstWrong_56 : decode cX2_firstWrong 56 = .ok (.getfield 18, 3) := by decide +kernel
theorem dX2_firstWrong_59 : decode cX2_firstWrong 59 = .ok (.ireturn, 1) := by decide +kernel
set_option maxRecDepth 20000 in
theorem ggX2_holds_X2_taken : GoodIn wsX2_holds wsX2_taken := goodIn_sub (fw_c (fw_t (fw_l (fw_t (fw_t (fw_t (fw_t (fw_t (fw_t fw_h)))))))) (fw_n)) (by decide +kernel)
set_option maxRecDepth 20000 in
theorem gX2_holds_X2_taken : GoodIn wsX2_holds (va_wsS RX2 40 yX2_taken wsX2_taken) := goodIn_app (goodIn_sub (fw_c (fw_t (fw_l (fw_t (fw_t (fw_t fw_h))))) (fw_c (fw_t (fw_l (fw_t (fw_t (fw_t (fw_t fw_h)))))) (fw_c (fw_t (fw_l (fw_t (fw_t (fw_t (fw_t (fw_t fw_h))))))) fw_n))) (by decide +kernel)) ggX2_holds_X2_taken
set_option maxRecDepth 20000 in
theorem ggX2_holds_X2_read : GoodIn wsX2_holds wsX2_read := goodIn_sub (fw_c (fw_t (fw_l (fw_t (fw_t (fw_t (fw_t (fw_t (fw_t (fw_t (fw_t (fw_t fw_h))))))))))) (fw_c (fw_t (fw_l (fw_t (fw_t (fw_t (fw_t (fw_t (fw_t (fw_t (fw_t (fw_t (fw_t fw_h)))))))))))) (fw_c (fw_t (fw_l (fw_t (fw_t (fw_t (fw_t (fw_t (fw_t (fw_t (fw_t (fw_t (fw_t (fw_t fw_h))))))))))))) (fw_c (fw_t (fw_l (fw_t (fw_t (fw_t (fw_t (fw_t (fw_t (fw_t (fw_t (fw_t (fw_t (fw_t (fw_t fw_h)))))))))))))) fw_n)))) (by decide +kernel)
set_option maxRecDepth 20000 in
theorem gX2_holds_X2_read : GoodIn wsX2_holds (va_wsS RX2 44 yX2_read wsX2_read) := goodIn_app (goodIn_sub (fw_c (fw_t (fw_l (fw_t (fw_t (fw_t (fw_t (fw_t (fw_t (fw_t fw_h))))))))) (fw_c (fw_t (fw_l (fw_t (fw_t (fw_t (fw_t (fw_t (fw_t (fw_t (fw_t fw_h)))))))))) (fw_c (fw_t (fw_l (fw_t (fw_t (fw_t (fw_t (fw_t fw_h))))))) fw_n))) (by decide +kernel)) ggX2_holds_X2_read
theorem dX2_holds_0 : decode cX2_holds 0 = .ok (.iconst 0, 1) := by decide +kernel
theorem dX2_holds_1 : decode cX2_holds 1 = .ok (.istore_n 2, 1) := by decide +kernel
theorem dX2_holds_2 : decode cX2_holds 2 = .ok (.iconst 0, 1) := by decide +kernel
theorem dX2_holds_3 : decode cX2_holds 3 = .ok (.istore_n 3, 1) := by decide +kernel
theorem dX2_holds_4 : decode cX2_holds 4 = .ok (.iload_n 3, 1) := by decide +kernel
theorem dX2_holds_5 : decode cX2_holds 5 = .ok (.aload_n 0, 1) := by decide +kernel
theorem dX2_holds_6 : decode cX2_holds 6 = .ok (.getfield 18, 3) := by decide +kernel
theorem dX2_holds_9 : decode cX2_holds 9 = .ok (.if_icmp .ge 74, 3) := by decide +kernel
theorem dX2_holds_12 : decode cX2_holds 12 = .ok (.iload_n 2, 1) := by decide +kernel
theorem dX2_holds_13 : decode cX2_holds 13 = .ok (.aload_n 0, 1) := by decide +kernel
theorem dX2_holds_14 : decode cX2_holds 14 = .ok (.getfield 9, 3) := by decide +kernel
theorem dX2_holds_17 : decode cX2_holds 17 = .ok (.iload_n 3, 1) := by decide +kernel
theorem dX2_holds_18 : decode cX2_holds 18 = .ok (.iaload, 1) := by decide +kernel
theorem dX2_holds_19 : decode cX2_holds 19 = .ok (.invokestatic 40, 3) := by decide +kernel
theorem dX2_holds_22 : decode cX2_holds 22 = .ok (.isub, 1) := by decide +kernel
theorem dX2_holds_23 : decode cX2_holds 23 = .ok (.istore 4, 2) := by decide +kernel
theorem dX2_holds_25 : decode cX2_holds 25 = .ok (.iload 4, 2) := by decide +kernel
theorem dX2_holds_27 : decode cX2_holds 27 = .ok (.ifCond .lt 10, 3) := by decide +kernel
theorem dX2_holds_30 : decode cX2_holds 30 = .ok (.iload 4, 2) := by decide +kernel
theorem dX2_holds_32 : decode cX2_holds 32 = .ok (.bipush 6, 2) := by decide +kernel
theorem dX2_holds_34 : decode cX2_holds 34 = .ok (.if_icmp .lt 5, 3) := by decide +kernel
theorem dX2_holds_37 : decode cX2_holds 37 = .ok (.iconst 0, 1) := by decide +kernel
theorem dX2_holds_38 : decode cX2_holds 38 = .ok (.ireturn, 1) := by decide +kernel
theorem dX2_holds_39 : decode cX2_holds 39 = .ok (.aload_n 0, 1) := by decide +kernel
theorem dX2_holds_40 : decode cX2_holds 40 = .ok (.getfield 15, 3) := by decide +kernel
theorem dX2_holds_43 : decode cX2_holds 43 = .ok (.iload 4, 2) := by decide +kernel
theorem dX2_holds_45 : decode cX2_holds 45 = .ok (.aload_n 0, 1) := by decide +kernel
theorem dX2_holds_46 : decode cX2_holds 46 = .ok (.getfield 9, 3) := by decide +kernel
theorem dX2_holds_49 : decode cX2_holds 49 = .ok (.iload_n 3, 1) := by decide +kernel
theorem dX2_holds_50 : decode cX2_holds 50 = .ok (.iaload, 1) := by decide +kernel
theorem dX2_holds_51 : decode cX2_holds 51 = .ok (.aload_n 0, 1) := by decide +kernel
theorem dX2_holds_52 : decode cX2_holds 52 = .ok (.getfield 15, 3) := by decide +kernel
theorem dX2_holds_55 : decode cX2_holds 55 = .ok (.iload 4, 2) := by decide +kernel
theorem dX2_holds_57 : decode cX2_holds 57 = .ok (.iaload, 1) := by decide +kernel
theorem dX2_holds_58 : decode cX2_holds 58 = .ok (.aload_n 0, 1) := by decide +kernel
theorem dX2_holds_59 : decode cX2_holds 59 = .ok (.getfield 15, 3) := by decide +kernel
theorem dX2_holds_62 : decode cX2_holds 62 = .ok (.iload 4, 2) := by decide +kernel
theorem dX2_holds_64 : decode cX2_holds 64 = .ok (.iconst 1, 1) := by decide +kernel
theorem dX2_holds_65 : decode cX2_holds 65 = .ok (.iadd, 1) := by decide +kernel
theorem dX2_holds_66 : decode cX2_holds 66 = .ok (.iaload, 1) := by decide +kernel
theorem dX2_holds_67 : decode cX2_holds 67 = .ok (.aload_n 1, 1) := by decide +kernel
theorem dX2_holds_68 : decode cX2_holds 68 = .ok (.invokestatic 44, 3) := by decide +kernel
theorem dX2_holds_71 : decode cX2_holds 71 = .ok (.iastore, 1) := by decide +kernel
theorem dX2_holds_72 : decode cX2_holds 72 = .ok (.iload 4, 2) := by decide +kernel
theorem dX2_holds_74 : decode cX2_holds 74 = .ok (.iconst 1, 1) := by decide +kernel
theorem dX2_holds_75 : decode cX2_holds 75 = .ok (.iadd, 1) := by decide +kernel
theorem dX2_holds_76 : decode cX2_holds 76 = .ok (.istore_n 2, 1) := by decide +kernel
theorem dX2_holds_77 : decode cX2_holds 77 = .ok (.iinc 3 1, 3) := by decide +kernel
theorem dX2_holds_80 : decode cX2_holds 80 = .ok (.goto (-76), 3) := by decide +kernel
theorem dX2_holds_83 : decode cX2_holds 83 = .ok (.iload_n 2, 1) := by decide +kernel
theorem dX2_holds_84 : decode cX2_holds 84 = .ok (.iconst 1, 1) := by decide +kernel
theorem dX2_holds_85 : decode cX2_holds 85 = .ok (.if_icmp .ne 16, 3) := by decide +kernel
theorem dX2_holds_88 : decode cX2_holds 88 = .ok (.aload_n 0, 1) := by decide +kernel
theorem dX2_holds_89 : decode cX2_holds 89 = .ok (.getfield 15, 3) := by decide +kernel
theorem dX2_holds_92 : decode cX2_holds 92 = .ok (.iconst 0, 1) := by decide +kernel
theorem dX2_holds_93 : decode cX2_holds 93 = .ok (.iaload, 1) := by decide +kernel
theorem dX2_holds_94 : decode cX2_holds 94 = .ok (.ifCond .eq 7, 3) := by decide +kernel
theorem dX2_holds_97 : decode cX2_holds 97 = .ok (.iconst 1, 1) := by decide +kernel
theorem dX2_holds_98 : decode cX2_holds 98 = .ok (.goto 4, 3) := by decide +kernel
theorem dX2_holds_101 : decode cX2_holds 101 = .ok (.iconst 0, 1) := by decide +kernel
theorem dX2_holds_102 : decode cX2_holds 102 = .ok (.ireturn, 1) := by decide +kernel
theorem dX2_taken_0 : decode cX2_taken 0 = .ok (.iload_n 0, 1) := by decide +kernel
theorem dX2_taken_1 : decode cX2_taken 1 = .ok (.bipush 20, 2) := by decide +kernel
