theorem dX11_isMarkOf_41 : decode cX11_isMarkOf 41 = .ok (.iconst 0, 1) := by decide +kernel
theorem dX11_isMarkOf_42 : decode cX11_isMarkOf 42 = .ok (.ireturn, 1) := by decide +kernel
theorem dX11_isMarkOf_43 : decode cX11_isMarkOf 43 = .ok (.iload_n 1, 1) := by decide +kernel
theorem dX11_isMarkOf_44 : decode cX11_isMarkOf 44 = .ok (.ifCond .ne 11, 3) := by decide +kernel
theorem dX11_isMarkOf_47 : decode cX11_isMarkOf 47 = .ok (.iload_n 2, 1) := by decide +kernel
theorem dX11_isMarkOf_48 : decode cX11_isMarkOf 48 = .ok (.ifCond .ne 7, 3) := by decide +kernel
theorem dX11_isMarkOf_51 : decode cX11_isMarkOf 51 = .ok (.iconst 1, 1) := by decide +kernel
theorem dX11_isMarkOf_52 : decode cX11_isMarkOf 52 = .ok (.goto 4, 3) := by decide +kernel
theorem dX11_isMarkOf_55 : decode cX11_isMarkOf 55 = .ok (.iconst 0, 1) := by decide +kernel
theorem dX11_isMarkOf_56 : decode cX11_isMarkOf 56 = .ok (.ireturn, 1) := by decide +kernel
set_option maxRecDepth 20000 in
theorem ggX11_isUnder_X11_isKind : GoodIn wsX11_isUnder wsX11_isKind := goodIn_sub (fw_c (fw_t (fw_t (fw_t (fw_t (fw_t fw_h))))) (fw_c (fw_t fw_h) (fw_c (fw_t (fw_t (fw_t (fw_t (fw_t (fw_t fw_h)))))) (fw_c (fw_t (fw_t (fw_t (fw_t (fw_t (fw_t (fw_t fw_h))))))) (fw_c (fw_t (fw_t (fw_t (fw_t fw_h)))) (fw_c (fw_t (fw_t (fw_t (fw_t (fw_t (fw_t (fw_t (fw_t fw_h)))))))) fw_n)))))) (by decide +kernel)
set_option maxRecDepth 20000 in
theorem gX11_isUnder_X11_isKind : GoodIn wsX11_isUnder (va_wsS RX11 161 yX11_isKind wsX11_isKind) := goodIn_app (goodIn_sub (fw_c (fw_t (fw_t fw_h)) (fw_c (fw_t (fw_t (fw_t fw_h))) (fw_c (fw_t (fw_t (fw_t (fw_t fw_h)))) fw_n))) (by decide +kernel)) ggX11_isUnder_X11_isKind
theorem dX11_isUnder_0 : decode cX11_isUnder 0 = .ok (.iload_n 0, 1) := by decide +kernel
theorem dX11_isUnder_1 : decode cX11_isUnder 1 = .ok (.istore_n 2, 1) := by decide +kernel
theorem dX11_isUnder_2 : decode cX11_isUnder 2 = .ok (.iconst 0, 1) := by decide +kernel
theorem dX11_isUnder_3 : decode cX11_isUnder 3 = .ok (.istore_n 3, 1) := by decide +kernel
theorem dX11_isUnder_4 : decode cX11_isUnder 4 = .ok (.iload_n 3, 1) := by decide +kernel
theorem dX11_isUnder_5 : decode cX11_isUnder 5 = .ok (.getstatic 372, 3) := by decide +kernel
theorem dX11_isUnder_8 : decode cX11_isUnder 8 = .ok (.arraylength, 1) := by decide +kernel
theorem dX11_isUnder_9 : decode cX11_isUnder 9 = .ok (.if_icmp .ge 31, 3) := by decide +kernel
theorem dX11_isUnder_12 : decode cX11_isUnder 12 = .ok (.iload_n 2, 1) := by decide +kernel
theorem dX11_isUnder_13 : decode cX11_isUnder 13 = .ok (.invokestatic 161, 3) := by decide +kernel
theorem dX11_isUnder_16 : decode cX11_isUnder 16 = .ok (.ifCond .ne 5, 3) := by decide +kernel
theorem dX11_isUnder_19 : decode cX11_isUnder 19 = .ok (.iconst 0, 1) := by decide +kernel
theorem dX11_isUnder_20 : decode cX11_isUnder 20 = .ok (.ireturn, 1) := by decide +kernel
theorem dX11_isUnder_21 : decode cX11_isUnder 21 = .ok (.iload_n 2, 1) := by decide +kernel
theorem dX11_isUnder_22 : decode cX11_isUnder 22 = .ok (.iload_n 1, 1) := by decide +kernel
theorem dX11_isUnder_23 : decode cX11_isUnder 23 = .ok (.if_icmp .ne 5, 3) := by decide +kernel
theorem dX11_isUnder_26 : decode cX11_isUnder 26 = .ok (.iconst 1, 1) := by decide +kernel
theorem dX11_isUnder_27 : decode cX11_isUnder 27 = .ok (.ireturn, 1) := by decide +kernel
theorem dX11_isUnder_28 : decode cX11_isUnder 28 = .ok (.getstatic 372, 3) := by decide +kernel
theorem dX11_isUnder_31 : decode cX11_isUnder 31 = .ok (.iload_n 2, 1) := by decide +kernel
theorem dX11_isUnder_32 : decode cX11_isUnder 32 = .ok (.iaload, 1) := by decide +kernel
theorem dX11_isUnder_33 : decode cX11_isUnder 33 = .ok (.istore_n 2, 1) := by decide +kernel
theorem dX11_isUnder_34 : decode cX11_isUnder 34 = .ok (.iinc 3 1, 3) := by decide +kernel
theorem dX11_isUnder_37 : decode cX11_isUnder 37 = .ok (.goto (-33), 3) := by decide +kernel
theorem dX11_isUnder_40 : decode cX11_isUnder 40 = .ok (.iconst 0, 1) := by decide +kernel
theorem dX11_isUnder_41 : decode cX11_isUnder 41 = .ok (.ireturn, 1) := by decide +kernel
set_option maxRecDepth 20000 in
theorem ggX11_part_X11_commonDivisor : GoodIn wsX11_part wsX11_commonDivisor := goodIn_sub (fw_c (fw_t (fw_t (fw_t (fw_t (fw_t (fw_t (fw_t (fw_t fw_h)))))))) (fw_n)) (by decide +kernel)
set_option maxRecDepth 20000 in
theorem gX11_part_X11_commonDivisor : GoodIn wsX11_part (va_wsS RX11 380 yX11_commonDivisor wsX11_commonDivisor) := goodIn_app (goodIn_sub (fw_c (fw_t (fw_t (fw_t (fw_t (fw_t fw_h))))) (fw_c (fw_t (fw_t (fw_t (fw_t (fw_t (fw_t fw_h)))))) (fw_c (fw_t (fw_t (fw_t (fw_t (fw_t (fw_t (fw_t fw_h))))))) fw_n))) (by decide +kernel)) ggX11_part_X11_commonDivisor
theorem dX11_part_0 : decode cX11_part 0 = .ok (.lload_n 0, 1) := by decide +kernel
theorem dX11_part_1 : decode cX11_part 1 = .ok (.invokestatic 375, 3) := by decide +kernel
theorem dX11_part_4 : decode cX11_part 4 = .ok (.lload_n 2, 1) := by decide +kernel
theorem dX11_part_5 : decode cX11_part 5 = .ok (.invokestatic 380, 3) := by decide +kernel
theorem dX11_part_8 : decode cX11_part 8 = .ok (.lstore 5, 2) := by decide +kernel
theorem dX11_part_10 : decode cX11_part 10 = .ok (.lload 5, 2) := by decide +kernel
theorem dX11_part_12 : decode cX11_part 12 = .ok (.lconst 0, 1) := by decide +kernel
theorem dX11_part_13 : decode cX11_part 13 = .ok (.lcmp, 1) := by decide +kernel
theorem dX11_part_14 : decode cX11_part 14 = .ok (.ifCond .gt 14, 3) := by decide +kernel
theorem dX11_part_17 : decode cX11_part 17 = .ok (.iload 4, 2) := by decide +kernel
theorem dX11_part_19 : decode cX11_part 19 = .ok (.ifCond .eq 7, 3) := by decide +kernel
theorem dX11_part_22 : decode cX11_part 22 = .ok (.lconst 1, 1) := by decide +kernel
theorem dX11_part_23 : decode cX11_part 23 = .ok (.goto 4, 3) := by decide +kernel
theorem dX11_part_26 : decode cX11_part 26 = .ok (.lconst 0, 1) := by decide +kernel
theorem dX11_part_27 : decode cX11_part 27 = .ok (.lreturn, 1) := by decide +kernel
theorem dX11_part_28 : decode cX11_part 28 = .ok (.iload 4, 2) := by decide +kernel
theorem dX11_part_30 : decode cX11_part 30 = .ok (.ifCond .eq 7, 3) := by decide +kernel
theorem dX11_part_33 : decode cX11_part 33 = .ok (.lload_n 2, 1) := by decide +kernel
theorem dX11_part_34 : decode cX11_part 34 = .ok (.goto 4, 3) := by decide +kernel
theorem dX11_part_37 : decode cX11_part 37 = .ok (.lload_n 0, 1) := by decide +kernel
theorem dX11_part_38 : decode cX11_part 38 = .ok (.lload 5, 2) := by decide +kernel
theorem dX11_part_40 : decode cX11_part 40 = .ok (.ldiv, 1) := by decide +kernel
theorem dX11_part_41 : decode cX11_part 41 = .ok (.lreturn, 1) := by decide +kernel
theorem dX11_commonDivisor_0 : decode cX11_commonDivisor 0 = .ok (.lload_n 0, 1) := by decide +kernel
theorem dX11_commonDivisor_1 : decode cX11_commonDivisor 1 = .ok (.lstore 4, 2) := by decide +kernel
theorem dX11_commonDivisor_3 : decode cX11_commonDivisor 3 = .ok (.lload_n 2, 1) := by decide +kernel
theorem dX11_commonDivisor_4 : decode cX11_commonDivisor 4 = .ok (.lstore 6, 2) := by decide +kernel
theorem dX11_commonDivisor_6 : decode cX11_commonDivisor 6 = .ok (.iconst 0, 1) := by decide +kernel
theorem dX11_commonDivisor_7 : decode cX11_commonDivisor 7 = .ok (.istore 8, 2) := by decide +kernel
theorem dX11_commonDivisor_9 : decode cX11_commonDivisor 9 = .ok (.iload 8, 2) := by decide +kernel
theorem dX11_commonDivisor_11 : decode cX11_commonDivisor 11 = .ok (.bipush 100, 2) := by decide +kernel
theorem dX11_commonDivisor_13 : decode cX11_commonDivisor 13 = .ok (.if_icmp .ge 31, 3) := by decide +kernel
theorem dX11_commonDivisor_16 : decode cX11_commonDivisor 16 = .ok (.lload 6, 2) := by decide +kernel
theorem dX11_commonDivisor_18 : decode cX11_commonDivisor 18 = .ok (.lconst 0, 1) := by decide +kernel
theorem dX11_commonDivisor_19 : decode cX11_commonDivisor 19 = .ok (.lcmp, 1) := by decide +kernel
theorem dX11_commonDivisor_20 : decode cX11_commonDivisor 20 = .ok (.ifCond .eq 24, 3) := by decide +kernel
theorem dX11_commonDivisor_23 : decode cX11_commonDivisor 23 = .ok (.lload 4, 2) := by decide +kernel
theorem dX11_commonDivisor_25 : decode cX11_commonDivisor 25 = .ok (.lload 6, 2) := by decide +kernel
theorem dX11_commonDivisor_27 : decode cX11_commonDivisor 27 = .ok (.lrem, 1) := by decide +kernel
theorem dX11_commonDivisor_28 : decode cX11_commonDivisor 28 = .ok (.lstore 9, 2) := by decide +kernel
theorem dX11_commonDivisor_30 : decode cX11_commonDivisor 30 = .ok (.lload 6, 2) := by decide +kernel
theorem dX11_commonDivisor_32 : decode cX11_commonDivisor 32 = .ok (.lstore 4, 2) := by decide +kernel
theorem dX11_commonDivisor_34 : decode cX11_commonDivisor 34 = .ok (.lload 9, 2) := by decide +kernel
theorem dX11_commonDivisor_36 : decode cX11_commonDivisor 36 = .ok (.lstore 6, 2) := by decide +kernel
theorem dX11_commonDivisor_38 : decode cX11_commonDivisor 38 = .ok (.iinc 8 1, 3) := by decide +kernel
theorem dX11_commonDivisor_41 : decode cX11_commonDivisor 41 = .ok (.goto (-32), 3) := by decide +kernel
theorem dX11_commonDivisor_44 : decode cX11_commonDivisor 44 = .ok (.lload 4, 2) := by decide +kernel
theorem dX11_commonDivisor_46 : decode cX11_commonDivisor 46 = .ok (.lreturn, 1) := by decide +kernel
