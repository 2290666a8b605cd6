theorem dX2_taken_3 : decode cX2_taken 3 = .ok (.if_icmp .ge 5, 3) := by decide +kernel
theorem dX2_taken_6 : decode cX2_taken 6 = .ok (.iconst 0, 1) := by decide +kernel
theorem dX2_taken_7 : decode cX2_taken 7 = .ok (.ireturn, 1) := by decide +kernel
theorem dX2_taken_8 : decode cX2_taken 8 = .ok (.iload_n 0, 1) := by decide +kernel
theorem dX2_taken_9 : decode cX2_taken 9 = .ok (.bipush 22, 2) := by decide +kernel
theorem dX2_taken_11 : decode cX2_taken 11 = .ok (.if_icmp .ne 7, 3) := by decide +kernel
theorem dX2_taken_14 : decode cX2_taken 14 = .ok (.iconst 1, 1) := by decide +kernel
theorem dX2_taken_15 : decode cX2_taken 15 = .ok (.goto 4, 3) := by decide +kernel
theorem dX2_taken_18 : decode cX2_taken 18 = .ok (.iconst 2, 1) := by decide +kernel
theorem dX2_taken_19 : decode cX2_taken 19 = .ok (.ireturn, 1) := by decide +kernel
set_option maxRecDepth 20000 in
theorem ggX2_read_X11_isWithin : GoodIn wsX2_read wsX11_isWithin := goodIn_sub (fw_c (fw_t (fw_t (fw_t fw_h))) (fw_n)) (by decide +kernel)
set_option maxRecDepth 20000 in
theorem gX2_read_X11_isWithin_n48 : GoodIn wsX2_read (wsX11_isWithin) := ggX2_read_X11_isWithin
theorem dX2_read_0 : decode cX2_read 0 = .ok (.iload_n 0, 1) := by decide +kernel
theorem dX2_read_1 : decode cX2_read 1 = .ok (.tableswitch 95 20 24 #[35, 46, 57, 67, 81], 35) := by decide +kernel
theorem dX2_read_36 : decode cX2_read 36 = .ok (.iload_n 1, 1) := by decide +kernel
theorem dX2_read_37 : decode cX2_read 37 = .ok (.iload_n 2, 1) := by decide +kernel
theorem dX2_read_38 : decode cX2_read 38 = .ok (.if_icmp .ge 7, 3) := by decide +kernel
theorem dX2_read_41 : decode cX2_read 41 = .ok (.iconst 1, 1) := by decide +kernel
theorem dX2_read_42 : decode cX2_read 42 = .ok (.goto 4, 3) := by decide +kernel
theorem dX2_read_45 : decode cX2_read 45 = .ok (.iconst 0, 1) := by decide +kernel
theorem dX2_read_46 : decode cX2_read 46 = .ok (.ireturn, 1) := by decide +kernel
theorem dX2_read_47 : decode cX2_read 47 = .ok (.iload_n 1, 1) := by decide +kernel
theorem dX2_read_48 : decode cX2_read 48 = .ok (.iload_n 2, 1) := by decide +kernel
theorem dX2_read_49 : decode cX2_read 49 = .ok (.if_icmp .ne 7, 3) := by decide +kernel
theorem dX2_read_52 : decode cX2_read 52 = .ok (.iconst 1, 1) := by decide +kernel
theorem dX2_read_53 : decode cX2_read 53 = .ok (.goto 4, 3) := by decide +kernel
theorem dX2_read_56 : decode cX2_read 56 = .ok (.iconst 0, 1) := by decide +kernel
theorem dX2_read_57 : decode cX2_read 57 = .ok (.ireturn, 1) := by decide +kernel
theorem dX2_read_58 : decode cX2_read 58 = .ok (.iload_n 1, 1) := by decide +kernel
theorem dX2_read_59 : decode cX2_read 59 = .ok (.ifCond .ne 7, 3) := by decide +kernel
theorem dX2_read_62 : decode cX2_read 62 = .ok (.iconst 1, 1) := by decide +kernel
theorem dX2_read_63 : decode cX2_read 63 = .ok (.goto 4, 3) := by decide +kernel
theorem dX2_read_66 : decode cX2_read 66 = .ok (.iconst 0, 1) := by decide +kernel
theorem dX2_read_67 : decode cX2_read 67 = .ok (.ireturn, 1) := by decide +kernel
theorem dX2_read_68 : decode cX2_read 68 = .ok (.iload_n 1, 1) := by decide +kernel
theorem dX2_read_69 : decode cX2_read 69 = .ok (.ifCond .eq 11, 3) := by decide +kernel
theorem dX2_read_72 : decode cX2_read 72 = .ok (.iload_n 2, 1) := by decide +kernel
theorem dX2_read_73 : decode cX2_read 73 = .ok (.ifCond .eq 7, 3) := by decide +kernel
theorem dX2_read_76 : decode cX2_read 76 = .ok (.iconst 1, 1) := by decide +kernel
theorem dX2_read_77 : decode cX2_read 77 = .ok (.goto 4, 3) := by decide +kernel
theorem dX2_read_80 : decode cX2_read 80 = .ok (.iconst 0, 1) := by decide +kernel
theorem dX2_read_81 : decode cX2_read 81 = .ok (.ireturn, 1) := by decide +kernel
theorem dX2_read_82 : decode cX2_read 82 = .ok (.iload_n 1, 1) := by decide +kernel
theorem dX2_read_83 : decode cX2_read 83 = .ok (.ifCond .ne 7, 3) := by decide +kernel
theorem dX2_read_86 : decode cX2_read 86 = .ok (.iload_n 2, 1) := by decide +kernel
theorem dX2_read_87 : decode cX2_read 87 = .ok (.ifCond .eq 7, 3) := by decide +kernel
theorem dX2_read_90 : decode cX2_read 90 = .ok (.iconst 1, 1) := by decide +kernel
theorem dX2_read_91 : decode cX2_read 91 = .ok (.goto 4, 3) := by decide +kernel
theorem dX2_read_94 : decode cX2_read 94 = .ok (.iconst 0, 1) := by decide +kernel
theorem dX2_read_95 : decode cX2_read 95 = .ok (.ireturn, 1) := by decide +kernel
theorem dX2_read_96 : decode cX2_read 96 = .ok (.iload_n 0, 1) := by decide +kernel
theorem dX2_read_97 : decode cX2_read 97 = .ok (.iconst 1, 1) := by decide +kernel
theorem dX2_read_98 : decode cX2_read 98 = .ok (.aload_n 3, 1) := by decide +kernel
theorem dX2_read_99 : decode cX2_read 99 = .ok (.arraylength, 1) := by decide +kernel
theorem dX2_read_100 : decode cX2_read 100 = .ok (.invokestatic 48, 3) := by decide +kernel
theorem dX2_read_103 : decode cX2_read 103 = .ok (.ifCond .eq 11, 3) := by decide +kernel
theorem dX2_read_106 : decode cX2_read 106 = .ok (.aload_n 3, 1) := by decide +kernel
theorem dX2_read_107 : decode cX2_read 107 = .ok (.iload_n 0, 1) := by decide +kernel
theorem dX2_read_108 : decode cX2_read 108 = .ok (.iconst 1, 1) := by decide +kernel
theorem dX2_read_109 : decode cX2_read 109 = .ok (.isub, 1) := by decide +kernel
theorem dX2_read_110 : decode cX2_read 110 = .ok (.iaload, 1) := by decide +kernel
theorem dX2_read_111 : decode cX2_read 111 = .ok (.goto 7, 3) := by decide +kernel
theorem dX2_read_114 : decode cX2_read 114 = .ok (.iload_n 0, 1) := by decide +kernel
theorem dX2_read_115 : decode cX2_read 115 = .ok (.bipush 10, 2) := by decide +kernel
theorem dX2_read_117 : decode cX2_read 117 = .ok (.isub, 1) := by decide +kernel
theorem dX2_read_118 : decode cX2_read 118 = .ok (.ireturn, 1) := by decide +kernel
theorem dX3_init_0 : decode cX3_init 0 = .ok (.aload_n 0, 1) := by decide +kernel
theorem dX3_init_1 : decode cX3_init 1 = .ok (.invokespecial 3, 3) := by decide +kernel
theorem dX3_init_4 : decode cX3_init 4 = .ok (.aload_n 0, 1) := by decide +kernel
theorem dX3_init_5 : decode cX3_init 5 = .ok (.bipush 20, 2) := by decide +kernel
theorem dX3_init_7 : decode cX3_init 7 = .ok (.newarray .int, 2) := by decide +kernel
theorem dX3_init_9 : decode cX3_init 9 = .ok (.putfield 9, 3) := by decide +kernel
theorem dX3_init_12 : decode cX3_init 12 = .ok (.aload_n 0, 1) := by decide +kernel
theorem dX3_init_13 : decode cX3_init 13 = .ok (.bipush 20, 2) := by decide +kernel
theorem dX3_init_15 : decode cX3_init 15 = .ok (.newarray .int, 2) := by decide +kernel
theorem dX3_init_17 : decode cX3_init 17 = .ok (.putfield 15, 3) := by decide +kernel
theorem dX3_init_20 : decode cX3_init 20 = .ok (.aload_n 0, 1) := by decide +kernel
theorem dX3_init_21 : decode cX3_init 21 = .ok (.iconst 4, 1) := by decide +kernel
theorem dX3_init_22 : decode cX3_init 22 = .ok (.newarray .int, 2) := by decide +kernel
theorem dX3_init_24 : decode cX3_init 24 = .ok (.putfield 18, 3) := by decide +kernel
theorem dX3_init_27 : decode cX3_init 27 = .ok (.return_, 1) := by decide +kernel
set_option maxRecDepth 20000 in
theorem ggX3_sort_X3_standing : GoodIn wsX3_sort wsX3_standing := goodIn_sub (fw_c (fw_t (fw_l (fw_l (fw_l (fw_l (fw_l (fw_t (fw_t (fw_t (fw_t (fw_t (fw_t fw_h)))))))))))) (fw_c (fw_t (fw_l (fw_l (fw_l (fw_l (fw_l (fw_t (fw_t (fw_t (fw_t (fw_t (fw_t (fw_t fw_h))))))))))))) (fw_c (fw_t (fw_l (fw_l (fw_l (fw_l (fw_l (fw_t (fw_t (fw_t (fw_t (fw_t (fw_t (fw_t (fw_t fw_h)))))))))))))) (fw_c (fw_t (fw_l (fw_l (fw_l (fw_l (fw_l (fw_t (fw_t (fw_t (fw_t (fw_t (fw_t (fw_t (fw_t (fw_t fw_h))))))))))))))) (fw_c (fw_t (fw_l (fw_l (fw_l (fw_l (fw_l (fw_t (fw_t (fw_t (fw_t (fw_t (fw_t (fw_t (fw_t (fw_t (fw_t fw_h)))))))))))))))) fw_n))))) (by decide +kernel)
set_option maxRecDepth 20000 in
theorem gX3_sort_X3_standing : GoodIn wsX3_sort (va_wsS RX3 21 yX3_standing wsX3_standing) := goodIn_app (goodIn_sub (fw_c (fw_t (fw_l (fw_l (fw_l (fw_l (fw_l (fw_t (fw_t (fw_t fw_h))))))))) (fw_c (fw_t (fw_l (fw_l (fw_l (fw_l (fw_l (fw_t (fw_t (fw_t (fw_t fw_h)))))))))) (fw_c (fw_t (fw_l (fw_l (fw_l (fw_l (fw_l (fw_t (fw_t (fw_t (fw_t (fw_t fw_h))))))))))) fw_n))) (by decide +kernel)) ggX3_sort_X3_standing
set_option maxRecDepth 20000 in
theorem ggX3_sort_J7_fill_53178 : GoodIn wsX3_sort wsJ7_fill_53178 := goodIn_r _ [15] (by decide +kernel) (by decide +kernel)
set_option maxRecDepth 20000 in
theorem gX3_sort_J7_fill_53178 : GoodIn wsX3_sort (va_wsS RX3 32 yJ7_fill_53178 wsJ7_fill_53178) := goodIn_app (goodIn_sub (fw_c (fw_t (fw_l (fw_l (fw_l (fw_l (fw_l (fw_t (fw_t (fw_t (fw_t (fw_t (fw_t (fw_t (fw_t (fw_t (fw_t (fw_t fw_h))))))))))))))))) (fw_c (fw_t (fw_l (fw_l (fw_l (fw_l (fw_l (fw_t (fw_t (fw_t (fw_t (fw_t (fw_t (fw_t (fw_t (fw_t (fw_t (fw_t (fw_t fw_h)))))))))))))))))) (fw_c (fw_t (fw_l (fw_l (fw_l (fw_l (fw_l (fw_t (fw_t (fw_t (fw_t (fw_t (fw_t (fw_t (fw_t (fw_t (fw_t (fw_t (fw_t (fw_t fw_h))))))))))))))))))) fw_n))) (by decide +kernel)) ggX3_sort_J7_fill_53178
set_option maxRecDepth 20000 in
theorem ggX3_sort_X3_gather : GoodIn wsX3_sort wsX3_gather := goodIn_sub (fw_c (fw_t (fw_l (fw_l (fw_l (fw_l (fw_l (fw_t (fw_t (fw_t (fw_t (fw_t (fw_t (fw_t (fw_t (fw_t (fw_t (fw_t (fw_t (fw_t (fw_t (fw_t (fw_t (fw_t (fw_t fw_h)))))))))))))))))))))))) (fw_a (fw_a (fw_a (fw_a (fw_a (fw_c (fw_t (fw_l (fw_l (fw_l (fw_l (fw_l (fw_t (fw_t (fw_t (fw_t (fw_t (fw_t (fw_t (fw_t (fw_t (fw_t (fw_t (fw_t (fw_t (fw_t (fw_t (fw_t (fw_t (fw_t (fw_t fw_h))))))))))))))))))))))))) (fw_c (fw_t (fw_l (fw_l (fw_l (fw_l (fw_l (fw_t (fw_t fw_h)))))))) (fw_c (fw_t (fw_l (fw_l (fw_l (fw_l (fw_l (fw_t fw_h))))))) (fw_c (fw_t (fw_l (fw_l (fw_l (fw_l (fw_l fw_h)))))) (fw_c (fw_t (fw_l (fw_l (fw_l (fw_l (fw_l (fw_t (fw_t (fw_t (fw_t (fw_t (fw_t (fw_t (fw_t (fw_t (fw_t (fw_t (fw_t (fw_t (fw_t (fw_t (fw_t (fw_t (fw_t (fw_t (fw_t fw_h)))))))))))))))))))))))))) (fw_c (fw_t (fw_l (fw_l (fw_l (fw_l (fw_l (fw_t (fw_t (fw_t (fw_t (fw_t (fw_t (fw_t (fw_t (fw_t (fw_t (fw_t (fw_t (fw_t (fw_t (fw_t (fw_t (fw_t (fw_t (fw_t (fw_t (fw_t fw_h))))))))))))))))))))))))))) (fw_c (fw_t (fw_l (fw_l (fw_l (fw_l (fw_l (fw_t (fw_t (fw_t (fw_t (fw_t (fw_t (fw_t (fw_t (fw_t (fw_t (fw_t (fw_t (fw_t (fw_t (fw_t (fw_t (fw_t (fw_t (fw_t (fw_t (fw_t (fw_t fw_h)))))))))))))))))))))))))))) (fw_c (fw_t (fw_l (fw_l (fw_l (fw_l (fw_l (fw_t (fw_t (fw_t (fw_t (fw_t (fw_t (fw_t (fw_t (fw_t (fw_t (fw_t (fw_t (fw_t (fw_t (fw_t (fw_t (fw_t (fw_t (fw_t (fw_t (fw_t (fw_t (fw_t fw_h))))))))))))))))))))))))))))) (fw_c (fw_t (fw_l (fw_l (fw_l (fw_l (fw_r (fw_l fw_h))))))) (fw_c (fw_t (fw_l (fw_l (fw_l (fw_l (fw_r (fw_l (fw_t fw_h)))))))) (fw_c (fw_t (fw_l (fw_l (fw_l (fw_l (fw_r (fw_l (fw_t (fw_t fw_h))))))))) (fw_c (fw_t (fw_l (fw_l (fw_l (fw_l (fw_r (fw_l (fw_t (fw_t (fw_t fw_h)))))))))) (fw_c (fw_t (fw_l (fw_l (fw_l (fw_l (fw_r (fw_l (fw_t (fw_t (fw_t (fw_t fw_h))))))))))) (fw_c (fw_t (fw_l (fw_l (fw_l (fw_l (fw_l (fw_t (fw_t (fw_t (fw_t (fw_t (fw_t (fw_t (fw_t (fw_t fw_h))))))))))))))) (fw_c (fw_t (fw_l (fw_l (fw_l (fw_l (fw_r (fw_l (fw_t (fw_t (fw_t (fw_t (fw_t fw_h)))))))))))) (fw_c (fw_t (fw_l (fw_l (fw_l (fw_l (fw_r (fw_l (fw_t (fw_t (fw_t (fw_t (fw_t (fw_t fw_h))))))))))))) (fw_c (fw_t (fw_l (fw_l (fw_l (fw_l (fw_r (fw_l (fw_t (fw_t (fw_t (fw_t (fw_t (fw_t (fw_t fw_h)))))))))))))) (fw_c (fw_t (fw_l (fw_l (fw_l (fw_l (fw_r (fw_l (fw_t (fw_t (fw_t (fw_t (fw_t (fw_t (fw_t (fw_t fw_h))))))))))))))) (fw_c (fw_t (fw_l (fw_l (fw_l (fw_l (fw_r (fw_l (fw_t (fw_t (fw_t (fw_t (fw_t (fw_t (fw_t (fw_t (fw_t fw_h)))))))))))))))) (fw_c (fw_t (fw_l (fw_l (fw_l (fw_l (fw_r (fw_l (fw_t (fw_t (fw_t (fw_t (fw_t (fw_t (fw_t (fw_t (fw_t (fw_t fw_h))))))))))))))))) (fw_c (fw_t (fw_l (fw_l (fw_l (fw_l (fw_r (fw_l (fw_t (fw_t (fw_t (fw_t (fw_t (fw_t (fw_t (fw_t (fw_t (fw_t (fw_t fw_h)))))))))))))))))) (fw_c (fw_t (fw_l (fw_l (fw_l (fw_l (fw_r (fw_l (fw_t (fw_t (fw_t (fw_t (fw_t (fw_t (fw_t (fw_t (fw_t (fw_t (fw_t (fw_t fw_h))))))))))))))))))) (fw_c (fw_t (fw_l (fw_l (fw_l (fw_l (fw_r (fw_l (fw_t (fw_t (fw_t (fw_t (fw_t (fw_t (fw_t (fw_t (fw_t (fw_t (fw_t (fw_t (fw_t fw_h)))))))))))))))))))) (fw_c (fw_t (fw_l (fw_l (fw_l (fw_l (fw_r (fw_l (fw_t (fw_t (fw_t (fw_t (fw_t (fw_t (fw_t (fw_t (fw_t (fw_t (fw_t (fw_t (fw_t (fw_t fw_h))))))))))))))))))))) fw_n)))))))))))))))))))))))) (fw_a (fw_c (fw_t (fw_l (fw_l (fw_l (fw_l (fw_r (fw_l (fw_t (fw_t (fw_t (fw_t (fw_t (fw_t (fw_t (fw_t (fw_t (fw_t (fw_t (fw_t (fw_t (fw_t (fw_t fw_h)))))))))))))))))))))) (fw_c (fw_t (fw_l (fw_l (fw_l (fw_l (fw_r (fw_l (fw_t (fw_t (fw_t (fw_t (fw_t (fw_t (fw_t (fw_t (fw_t (fw_t (fw_t (fw_t (fw_t (fw_t (fw_t (fw_t fw_h))))))))))))))))))))))) (fw_c (fw_t (fw_l (fw_l (fw_l (fw_l (fw_r (fw_l (fw_t (fw_t (fw_t (fw_t (fw_t (fw_t (fw_t (fw_t (fw_t (fw_t (fw_t (fw_t (fw_t (fw_t (fw_t (fw_t (fw_t fw_h)))))))))))))))))))))))) (fw_c (fw_t (fw_l (fw_l (fw_l (fw_l (fw_r (fw_l (fw_t (fw_t (fw_t (fw_t (fw_t (fw_t (fw_t (fw_t (fw_t (fw_t (fw_t (fw_t (fw_t (fw_t (fw_t (fw_t (fw_t (fw_t fw_h))))))))))))))))))))))))) (fw_c (fw_t (fw_l (fw_l (fw_l (fw_l (fw_r (fw_l (fw_t (fw_t (fw_t (fw_t (fw_t (fw_t (fw_t (fw_t (fw_t (fw_t (fw_t (fw_t (fw_t (fw_t (fw_t (fw_t (fw_t (fw_t (fw_t fw_h)))))))))))))))))))))))))) (fw_c (fw_t (fw_l (fw_l (fw_l (fw_l (fw_r (fw_l (fw_t (fw_t (fw_t (fw_t (fw_t (fw_t (fw_t (fw_t (fw_t (fw_t (fw_t (fw_t (fw_t (fw_t (fw_t (fw_t (fw_t (fw_t (fw_t (fw_t fw_h))))))))))))))))))))))))))) (fw_c (fw_t (fw_l (fw_l (fw_l (fw_l (fw_r (fw_l (fw_t (fw_t (fw_t (fw_t (fw_t (fw_t (fw_t (fw_t (fw_t (fw_t (fw_t (fw_t (fw_t (fw_t (fw_t (fw_t (fw_t (fw_t (fw_t (fw_t (fw_t fw_h)))))))))))))))))))))))))))) (fw_c (fw_t (fw_l (fw_l (fw_l (fw_l (fw_r (fw_l (fw_t (fw_t (fw_t (fw_t (fw_t (fw_t (fw_t (fw_t (fw_t (fw_t (fw_t (fw_t (fw_t (fw_t (fw_t (fw_t (fw_t (fw_t (fw_t (fw_t (fw_t (fw_t fw_h))))))))))))))))))))))))))))) (fw_c (fw_t (fw_l (fw_l (fw_l (fw_l (fw_r (fw_l (fw_t (fw_t (fw_t (fw_t (fw_t (fw_t (fw_t (fw_t (fw_t (fw_t (fw_t (fw_t (fw_t (fw_t (fw_t (fw_t (fw_t (fw_t (fw_t (fw_t (fw_t (fw_t (fw_t fw_h)))))))))))))))))))))))))))))) (fw_c (fw_t (fw_l (fw_l (fw_l (fw_l (fw_r (fw_r (fw_l fw_h)))))))) (fw_c (fw_t (fw_l (fw_l (fw_l (fw_l (fw_r (fw_r (fw_l (fw_t fw_h))))))))) (fw_c (fw_t (fw_l (fw_l (fw_l (fw_l (fw_r (fw_r (fw_l (fw_t (fw_t fw_h)))))))))) (fw_c (fw_t (fw_l (fw_l (fw_l (fw_l (fw_r (fw_r (fw_l (fw_t (fw_t (fw_t fw_h))))))))))) (fw_c (fw_t (fw_l (fw_l (fw_l (fw_l (fw_r (fw_r (fw_l (fw_t (fw_t (fw_t (fw_t fw_h)))))))))))) (fw_c (fw_t (fw_l (fw_l (fw_l (fw_l (fw_r (fw_r (fw_l (fw_t (fw_t (fw_t (fw_t (fw_t fw_h))))))))))))) (fw_c (fw_t (fw_l (fw_l (fw_l (fw_l (fw_r (fw_r (fw_l (fw_t (fw_t (fw_t (fw_t (fw_t (fw_t fw_h)))))))))))))) (fw_c (fw_t (fw_l (fw_l (fw_l (fw_l (fw_r (fw_r (fw_l (fw_t (fw_t (fw_t (fw_t (fw_t (fw_t (fw_t fw_h))))))))))))))) (fw_c (fw_t (fw_l (fw_l (fw_l (fw_l (fw_r (fw_r (fw_l (fw_t (fw_t (fw_t (fw_t (fw_t (fw_t (fw_t (fw_t fw_h)))))))))))))))) (fw_c (fw_t (fw_l (fw_l (fw_l (fw_l (fw_r (fw_r (fw_l (fw_t (fw_t (fw_t (fw_t (fw_t (fw_t (fw_t (fw_t (fw_t fw_h))))))))))))))))) (fw_c (fw_t (fw_l (fw_l (fw_l (fw_l (fw_r (fw_r (fw_l (fw_t (fw_t (fw_t (fw_t (fw_t (fw_t (fw_t (fw_t (fw_t (fw_t fw_h)))))))))))))))))) (fw_c (fw_t (fw_l (fw_l (fw_l (fw_l (fw_r (fw_r (fw_l (fw_t (fw_t (fw_t (fw_t (fw_t (fw_t (fw_t (fw_t (fw_t (fw_t (fw_t fw_h))))))))))))))))))) (fw_c (fw_t (fw_l (fw_l (fw_l (fw_l (fw_r (fw_r (fw_l (fw_t (fw_t (fw_t (fw_t (fw_t (fw_t (fw_t (fw_t (fw_t (fw_t (fw_t (fw_t fw_h)))))))))))))))))))) (fw_c (fw_t (fw_l (fw_l (fw_l (fw_l (fw_r (fw_r (fw_l (fw_t (fw_t (fw_t (fw_t (fw_t (fw_t (fw_t (fw_t (fw_t (fw_t (fw_t (fw_t (fw_t fw_h))))))))))))))))))))) (fw_c (fw_t (fw_l (fw_l (fw_l (fw_l (fw_r (fw_r (fw_l (fw_t (fw_t (fw_t (fw_t (fw_t (fw_t (fw_t (fw_t (fw_t (fw_t (fw_t (fw_t (fw_t (fw_t fw_h)))))))))))))))))))))) fw_n)))))))))))))))))))))))) (fw_c (fw_t (fw_l (fw_l (fw_l (fw_l (fw_r (fw_r (fw_l (fw_t (fw_t (fw_t (fw_t (fw_t (fw_t (fw_t (fw_t (fw_t (fw_t (fw_t (fw_t (fw_t (fw_t (fw_t fw_h))))))))))))))))))))))) (fw_c (fw_t (fw_l (fw_l (fw_l (fw_l (fw_r (fw_r (fw_l (fw_t (fw_t (fw_t (fw_t (fw_t (fw_t (fw_t (fw_t (fw_t (fw_t (fw_t (fw_t (fw_t (fw_t (fw_t (fw_t fw_h)))))))))))))))))))))))) (fw_c (fw_t (fw_l (fw_l (fw_l (fw_l (fw_r (fw_r (fw_l (fw_t (fw_t (fw_t (fw_t (fw_t (fw_t (fw_t (fw_t (fw_t (fw_t (fw_t (fw_t (fw_t (fw_t (fw_t (fw_t (fw_t fw_h))))))))))))))))))))))))) (fw_c (fw_t (fw_l (fw_l (fw_l (fw_l (fw_r (fw_r (fw_l (fw_t (fw_t (fw_t (fw_t (fw_t (fw_t (fw_t (fw_t (fw_t (fw_t (fw_t (fw_t (fw_t (fw_t (fw_t (fw_t (fw_t (fw_t fw_h)))))))))))))))))))))))))) (fw_c (fw_t (fw_l (fw_l (fw_l (fw_l (fw_r (fw_r (fw_l (fw_t (fw_t (fw_t (fw_t (fw_t (fw_t (fw_t (fw_t (fw_t (fw_t (fw_t (fw_t (fw_t (fw_t (fw_t (fw_t (fw_t (fw_t (fw_t fw_h))))))))))))))))))))))))))) (fw_c (fw_t (fw_l (fw_l (fw_l (fw_l (fw_r (fw_r (fw_l (fw_t (fw_t (fw_t (fw_t (fw_t (fw_t (fw_t (fw_t (fw_t (fw_t (fw_t (fw_t (fw_t (fw_t (fw_t (fw_t (fw_t (fw_t (fw_t (fw_t fw_h)))))))))))))))))))))))))))) (fw_c (fw_t (fw_l (fw_l (fw_l (fw_l (fw_r (fw_r (fw_l (fw_t (fw_t (fw_t (fw_t (fw_t (fw_t (fw_t (fw_t (fw_t (fw_t (fw_t (fw_t (fw_t (fw_t (fw_t (fw_t (fw_t (fw_t (fw_t (fw_t (fw_t fw_h))))))))))))))))))))))))))))) (fw_c (fw_t (fw_l (fw_l (fw_l (fw_l (fw_r (fw_r (fw_l (fw_t (fw_t (fw_t (fw_t (fw_t (fw_t (fw_t (fw_t (fw_t (fw_t (fw_t (fw_t (fw_t (fw_t (fw_t (fw_t (fw_t (fw_t (fw_t (fw_t (fw_t (fw_t fw_h)))))))))))))))))))))))))))))) (fw_c (fw_t (fw_l (fw_l (fw_l (fw_l (fw_r (fw_r (fw_l (fw_t (fw_t (fw_t (fw_t (fw_t (fw_t (fw_t (fw_t (fw_t (fw_t (fw_t (fw_t (fw_t (fw_t (fw_t (fw_t (fw_t (fw_t (fw_t (fw_t (fw_t (fw_t (fw_t fw_h))))))))))))))))))))))))))))))) (fw_c (fw_t (fw_l (fw_l (fw_l (fw_l (fw_r (fw_r (fw_r fw_h)))))))) (fw_c (fw_t (fw_l (fw_l (fw_l (fw_l (fw_r (fw_r (fw_r (fw_t fw_h))))))))) (fw_c (fw_t (fw_l (fw_l (fw_l (fw_l (fw_r (fw_r (fw_r (fw_t (fw_t fw_h)))))))))) (fw_c (fw_t (fw_l (fw_l (fw_l (fw_l (fw_r (fw_r (fw_r (fw_t (fw_t (fw_t fw_h))))))))))) (fw_c (fw_t (fw_l (fw_l (fw_l (fw_l (fw_r (fw_r (fw_r (fw_t (fw_t (fw_t (fw_t fw_h)))))))))))) (fw_c (fw_t (fw_l (fw_l (fw_l (fw_l (fw_r (fw_r (fw_r (fw_t (fw_t (fw_t (fw_t (fw_t fw_h))))))))))))) (fw_c (fw_t (fw_l (fw_l (fw_l (fw_l (fw_r (fw_r (fw_r (fw_t (fw_t (fw_t (fw_t (fw_t (fw_t fw_h)))))))))))))) (fw_c (fw_t (fw_l (fw_l (fw_l (fw_l (fw_r (fw_r (fw_r (fw_t (fw_t (fw_t (fw_t (fw_t (fw_t (fw_t fw_h))))))))))))))) (fw_c (fw_t (fw_l (fw_l (fw_l (fw_l (fw_r (fw_r (fw_r (fw_t (fw_t (fw_t (fw_t (fw_t (fw_t (fw_t (fw_t fw_h)))))))))))))))) (fw_c (fw_t (fw_l (fw_l (fw_l (fw_l (fw_r (fw_r (fw_r (fw_t (fw_t (fw_t (fw_t (fw_t (fw_t (fw_t (fw_t (fw_t fw_h))))))))))))))))) (fw_c (fw_t (fw_l (fw_l (fw_l (fw_l (fw_r (fw_r (fw_r (fw_t (fw_t (fw_t (fw_t (fw_t (fw_t (fw_t (fw_t (fw_t (fw_t fw_h)))))))))))))))))) fw_n)))))))))))))))))))))) (fun _ h => fw_t (fw_l (fw_l (fw_l (fw_r h)))))) (fun _ h => fw_t (fw_l (fw_l (fw_r h))))) (fun _ h => fw_t (fw_l (fw_r h)))) (fun _ h => fw_t (fw_r h)))) (by decide +kernel)
set_option maxRecDepth 20000 in
theorem gX3_sort_X3_gather : GoodIn wsX3_sort (wsV RX3 38 RX3 yX3_gather wsX3_gather) := goodIn_app (goodIn_sub (fw_c (fw_t (fw_l (fw_l (fw_l (fw_l (fw_l (fw_t (fw_t (fw_t (fw_t (fw_t (fw_t (fw_t (fw_t (fw_t (fw_t (fw_t (fw_t (fw_t (fw_t (fw_t fw_h))))))))))))))))))))) (fw_c (fw_t (fw_l (fw_l (fw_l (fw_l (fw_l (fw_t (fw_t (fw_t (fw_t (fw_t (fw_t (fw_t (fw_t (fw_t (fw_t (fw_t (fw_t (fw_t (fw_t (fw_t (fw_t fw_h)))))))))))))))))))))) (fw_c (fw_t (fw_l (fw_l (fw_l (fw_l (fw_l (fw_t (fw_t (fw_t (fw_t (fw_t (fw_t (fw_t (fw_t (fw_t (fw_t (fw_t (fw_t (fw_t (fw_t (fw_t (fw_t (fw_t fw_h))))))))))))))))))))))) (fw_c (fw_t (fw_l (fw_l (fw_l (fw_l (fw_l (fw_t (fw_t (fw_t (fw_t (fw_t fw_h))))))))))) fw_n)))) (by decide +kernel)) ggX3_sort_X3_gather
theorem dX3_sort_0 : decode cX3_sort 0 = .ok (.aload_n 0, 1) := by decide +kernel
theorem dX3_sort_1 : decode cX3_sort 1 = .ok (.aload_n 1, 1) := by decide +kernel
theorem dX3_sort_2 : decode cX3_sort 2 = .ok (.iload_n 2, 1) := by decide +kernel
theorem dX3_sort_3 : decode cX3_sort 3 = .ok (.invokestatic 21, 3) := by decide +kernel
theorem dX3_sort_6 : decode cX3_sort 6 = .ok (.putfield 25, 3) := by decide +kernel
theorem dX3_sort_9 : decode cX3_sort 9 = .ok (.aload_n 0, 1) := by decide +kernel
theorem dX3_sort_10 : decode cX3_sort 10 = .ok (.iconst 0, 1) := by decide +kernel
theorem dX3_sort_11 : decode cX3_sort 11 = .ok (.putfield 29, 3) := by decide +kernel
theorem dX3_sort_14 : decode cX3_sort 14 = .ok (.aload_n 0, 1) := by decide +kernel
theorem dX3_sort_15 : decode cX3_sort 15 = .ok (.getfield 9, 3) := by decide +kernel
theorem dX3_sort_18 : decode cX3_sort 18 = .ok (.iconst (-1), 1) := by decide +kernel
theorem dX3_sort_19 : decode cX3_sort 19 = .ok (.invokestatic 32, 3) := by decide +kernel
theorem dX3_sort_22 : decode cX3_sort 22 = .ok (.iconst 0, 1) := by decide +kernel
theorem dX3_sort_23 : decode cX3_sort 23 = .ok (.istore_n 3, 1) := by decide +kernel
theorem dX3_sort_24 : decode cX3_sort 24 = .ok (.iload_n 3, 1) := by decide +kernel
theorem dX3_sort_25 : decode cX3_sort 25 = .ok (.aload_n 0, 1) := by decide +kernel
theorem dX3_sort_26 : decode cX3_sort 26 = .ok (.getfield 25, 3) := by decide +kernel
theorem dX3_sort_29 : decode cX3_sort 29 = .ok (.if_icmp .ge 35, 3) := by decide +kernel
theorem dX3_sort_32 : decode cX3_sort 32 = .ok (.aload_n 0, 1) := by decide +kernel
theorem dX3_sort_33 : decode cX3_sort 33 = .ok (.getfield 9, 3) := by decide +kernel
theorem dX3_sort_36 : decode cX3_sort 36 = .ok (.iload_n 3, 1) := by decide +kernel
theorem dX3_sort_37 : decode cX3_sort 37 = .ok (.iaload, 1) := by decide +kernel
theorem dX3_sort_38 : decode cX3_sort 38 = .ok (.iconst (-1), 1) := by decide +kernel
theorem dX3_sort_39 : decode cX3_sort 39 = .ok (.if_icmp .ne 19, 3) := by decide +kernel
theorem dX3_sort_42 : decode cX3_sort 42 = .ok (.aload_n 0, 1) := by decide +kernel
theorem dX3_sort_43 : decode cX3_sort 43 = .ok (.aload_n 1, 1) := by decide +kernel
theorem dX3_sort_44 : decode cX3_sort 44 = .ok (.iload_n 3, 1) := by decide +kernel
theorem dX3_sort_45 : decode cX3_sort 45 = .ok (.invokevirtual 38, 3) := by decide +kernel
theorem dX3_sort_48 : decode cX3_sort 48 = .ok (.aload_n 0, 1) := by decide +kernel
theorem dX3_sort_49 : decode cX3_sort 49 = .ok (.dup, 1) := by decide +kernel
theorem dX3_sort_50 : decode cX3_sort 50 = .ok (.getfield 29, 3) := by decide +kernel
theorem dX3_sort_53 : decode cX3_sort 53 = .ok (.iconst 1, 1) := by decide +kernel
theorem dX3_sort_54 : decode cX3_sort 54 = .ok (.iadd, 1) := by decide +kernel
theorem dX3_sort_55 : decode cX3_sort 55 = .ok (.putfield 29, 3) := by decide +kernel
theorem dX3_sort_58 : decode cX3_sort 58 = .ok (.iinc 3 1, 3) := by decide +kernel
theorem dX3_sort_61 : decode cX3_sort 61 = .ok (.goto (-37), 3) := by decide +kernel
theorem dX3_sort_64 : decode cX3_sort 64 = .ok (.return_, 1) := by decide +kernel
theorem dX3_standing_0 : decode cX3_standing 0 = .ok (.iload_n 1, 1) := by decide +kernel
theorem dX3_standing_1 : decode cX3_standing 1 = .ok (.bipush 20, 2) := by decide +kernel
theorem dX3_standing_3 : decode cX3_standing 3 = .ok (.invokestatic 42, 3) := by decide +kernel
theorem dX3_standing_6 : decode cX3_standing 6 = .ok (.aload_n 0, 1) := by decide +kernel
theorem dX3_standing_7 : decode cX3_standing 7 = .ok (.arraylength, 1) := by decide +kernel
theorem dX3_standing_8 : decode cX3_standing 8 = .ok (.invokestatic 42, 3) := by decide +kernel
theorem dX3_standing_11 : decode cX3_standing 11 = .ok (.istore_n 2, 1) := by decide +kernel
theorem dX3_standing_12 : decode cX3_standing 12 = .ok (.iconst 0, 1) := by decide +kernel
theorem dX3_standing_13 : decode cX3_standing 13 = .ok (.istore_n 3, 1) := by decide +kernel
theorem dX3_standing_14 : decode cX3_standing 14 = .ok (.iload_n 3, 1) := by decide +kernel
theorem dX3_standing_15 : decode cX3_standing 15 = .ok (.iload_n 2, 1) := by decide +kernel
theorem dX3_standing_16 : decode cX3_standing 16 = .ok (.if_icmp .ge 15, 3) := by decide +kernel
theorem dX3_standing_19 : decode cX3_standing 19 = .ok (.aload_n 0, 1) := by decide +kernel
theorem dX3_standing_20 : decode cX3_standing 20 = .ok (.iload_n 3, 1) := by decide +kernel
theorem dX3_standing_21 : decode cX3_standing 21 = .ok (.aaload, 1) := by decide +kernel
theorem dX3_standing_22 : decode cX3_standing 22 = .ok (.ifnull 9, 3) := by decide +kernel
theorem dX3_standing_25 : decode cX3_standing 25 = .ok (.iinc 3 1, 3) := by decide +kernel
theorem dX3_standing_28 : decode cX3_standing 28 = .ok (.goto (-14), 3) := by decide +kernel
theorem dX3_standing_31 : decode cX3_standing 31 = .ok (.iload_n 3, 1) := by decide +kernel
theorem dX3_standing_32 : decode cX3_standing 32 = .ok (.ireturn, 1) := by decide +kernel
set_option maxRecDepth 20000 in
theorem ggX3_gather_X5_fits : GoodIn wsX3_gather wsX5_fits := goodIn_sub (fw_c (fw_t (fw_l (fw_l (fw_l (fw_l (fw_l (fw_t (fw_t (fw_t (fw_t (fw_t (fw_t (fw_t (fw_t fw_h)))))))))))))) (fw_a (fw_a (fw_a (fw_a (fw_c (fw_t (fw_l (fw_l (fw_l (fw_l (fw_l (fw_t (fw_t (fw_t (fw_t (fw_t (fw_t (fw_t (fw_t (fw_t fw_h))))))))))))))) (fw_c (fw_t (fw_l (fw_l (fw_l (fw_l (fw_l (fw_t (fw_t (fw_t (fw_t (fw_t (fw_t (fw_t (fw_t (fw_t (fw_t fw_h)))))))))))))))) (fw_c (fw_t (fw_l (fw_l (fw_l (fw_l (fw_l (fw_t (fw_t (fw_t (fw_t (fw_t (fw_t (fw_t (fw_t (fw_t (fw_t (fw_t fw_h))))))))))))))))) (fw_c (fw_t (fw_l (fw_l (fw_l (fw_l (fw_l (fw_t (fw_t (fw_t (fw_t (fw_t (fw_t (fw_t (fw_t (fw_t (fw_t (fw_t (fw_t fw_h)))))))))))))))))) (fw_c (fw_t (fw_l (fw_l (fw_l (fw_l (fw_l (fw_t (fw_t (fw_t (fw_t (fw_t (fw_t (fw_t (fw_t (fw_t (fw_t (fw_t (fw_t (fw_t fw_h))))))))))))))))))) (fw_c (fw_t (fw_l (fw_l (fw_l (fw_l (fw_l (fw_t (fw_t (fw_t (fw_t (fw_t (fw_t (fw_t (fw_t (fw_t (fw_t (fw_t (fw_t (fw_t (fw_t fw_h)))))))))))))))))))) (fw_c (fw_t (fw_l (fw_l (fw_l (fw_l (fw_l (fw_t (fw_t (fw_t (fw_t (fw_t (fw_t (fw_t (fw_t (fw_t (fw_t (fw_t (fw_t (fw_t (fw_t (fw_t fw_h))))))))))))))))))))) (fw_c (fw_t (fw_l (fw_l (fw_l (fw_l (fw_l (fw_t (fw_t (fw_t (fw_t (fw_t (fw_t (fw_t (fw_t (fw_t (fw_t (fw_t (fw_t (fw_t (fw_t (fw_t (fw_t fw_h)))))))))))))))))))))) (fw_c (fw_t (fw_l (fw_l (fw_l (fw_l (fw_l (fw_t (fw_t (fw_t (fw_t (fw_t (fw_t (fw_t (fw_t (fw_t (fw_t (fw_t (fw_t (fw_t (fw_t (fw_t (fw_t (fw_t fw_h))))))))))))))))))))))) (fw_c (fw_t (fw_l (fw_l (fw_l (fw_l (fw_l (fw_t (fw_t (fw_t (fw_t (fw_t (fw_t (fw_t fw_h))))))))))))) (fw_c (fw_t (fw_l (fw_l (fw_l (fw_l (fw_l (fw_t (fw_t (fw_t (fw_t (fw_t (fw_t (fw_t (fw_t (fw_t (fw_t (fw_t (fw_t (fw_t (fw_t (fw_t (fw_t (fw_t (fw_t fw_h)))))))))))))))))))))))) (fw_c (fw_t (fw_l (fw_l (fw_l (fw_l (fw_l (fw_t (fw_t (fw_t (fw_t (fw_t (fw_t (fw_t (fw_t (fw_t (fw_t (fw_t (fw_t (fw_t (fw_t (fw_t (fw_t (fw_t (fw_t (fw_t fw_h))))))))))))))))))))))))) (fw_c (fw_t (fw_l (fw_l (fw_l (fw_l (fw_l (fw_t (fw_t (fw_t (fw_t (fw_t (fw_t (fw_t (fw_t (fw_t (fw_t (fw_t (fw_t (fw_t (fw_t (fw_t (fw_t (fw_t (fw_t (fw_t (fw_t fw_h)))))))))))))))))))))))))) (fw_c (fw_t (fw_l (fw_l (fw_l (fw_l (fw_l (fw_t (fw_t (fw_t (fw_t (fw_t (fw_t (fw_t (fw_t (fw_t (fw_t (fw_t (fw_t (fw_t (fw_t (fw_t (fw_t (fw_t (fw_t (fw_t (fw_t (fw_t fw_h))))))))))))))))))))))))))) (fw_c (fw_t (fw_l (fw_l (fw_l (fw_l (fw_l (fw_t (fw_t (fw_t (fw_t (fw_t (fw_t (fw_t (fw_t (fw_t (fw_t (fw_t (fw_t (fw_t (fw_t (fw_t (fw_t (fw_t (fw_t (fw_t (fw_t (fw_t (fw_t fw_h)))))))))))))))))))))))))))) (fw_c (fw_t (fw_l (fw_l (fw_l (fw_l (fw_l (fw_t (fw_t (fw_t (fw_t (fw_t (fw_t (fw_t (fw_t (fw_t (fw_t (fw_t (fw_t (fw_t (fw_t (fw_t (fw_t (fw_t (fw_t (fw_t (fw_t (fw_t (fw_t (fw_t fw_h))))))))))))))))))))))))))))) (fw_c (fw_t (fw_l (fw_l (fw_l (fw_l (fw_r (fw_l fw_h))))))) (fw_c (fw_t (fw_l (fw_l (fw_l (fw_l (fw_r (fw_l (fw_t fw_h)))))))) (fw_c (fw_t (fw_l (fw_l (fw_l (fw_l (fw_r (fw_l (fw_t (fw_t fw_h))))))))) (fw_c (fw_t (fw_l (fw_l (fw_l (fw_l (fw_r (fw_l (fw_t (fw_t (fw_t fw_h)))))))))) (fw_c (fw_t (fw_l (fw_l (fw_l (fw_l (fw_r (fw_l (fw_t (fw_t (fw_t (fw_t fw_h))))))))))) (fw_c (fw_t (fw_l (fw_l (fw_l (fw_l (fw_r (fw_l (fw_t (fw_t (fw_t (fw_t (fw_t fw_h)))))))))))) (fw_c (fw_t (fw_l (fw_l (fw_l (fw_l (fw_r (fw_l (fw_t (fw_t (fw_t (fw_t (fw_t (fw_t fw_h))))))))))))) (fw_c (fw_t (fw_l (fw_l (fw_l (fw_l (fw_r (fw_l (fw_t (fw_t (fw_t (fw_t (fw_t (fw_t (fw_t fw_h)))))))))))))) fw_n)))))))))))))))))))))))) (fw_a (fw_c (fw_t (fw_l (fw_l (fw_l (fw_l (fw_r (fw_l (fw_t (fw_t (fw_t (fw_t (fw_t (fw_t (fw_t (fw_t fw_h))))))))))))))) (fw_c (fw_t (fw_l (fw_l (fw_l (fw_l (fw_r (fw_l (fw_t (fw_t (fw_t (fw_t (fw_t (fw_t (fw_t (fw_t (fw_t fw_h)))))))))))))))) (fw_c (fw_t (fw_l (fw_l (fw_l (fw_l (fw_r (fw_l (fw_t (fw_t (fw_t (fw_t (fw_t (fw_t (fw_t (fw_t (fw_t (fw_t fw_h))))))))))))))))) (fw_c (fw_t (fw_l (fw_l (fw_l (fw_l (fw_r (fw_l (fw_t (fw_t (fw_t (fw_t (fw_t (fw_t (fw_t (fw_t (fw_t (fw_t (fw_t fw_h)))))))))))))))))) (fw_c (fw_t (fw_l (fw_l (fw_l (fw_l (fw_r (fw_l (fw_t (fw_t (fw_t (fw_t (fw_t (fw_t (fw_t (fw_t (fw_t (fw_t (fw_t (fw_t fw_h))))))))))))))))))) (fw_c (fw_t (fw_l (fw_l (fw_l (fw_l (fw_r (fw_l (fw_t (fw_t (fw_t (fw_t (fw_t (fw_t (fw_t (fw_t (fw_t (fw_t (fw_t (fw_t (fw_t fw_h)))))))))))))))))))) (fw_c (fw_t (fw_l (fw_l (fw_l (fw_l (fw_r (fw_l (fw_t (fw_t (fw_t (fw_t (fw_t (fw_t (fw_t (fw_t (fw_t (fw_t (fw_t (fw_t (fw_t (fw_t fw_h))))))))))))))))))))) (fw_c (fw_t (fw_l (fw_l (fw_l (fw_l (fw_r (fw_l (fw_t (fw_t (fw_t (fw_t (fw_t (fw_t (fw_t (fw_t (fw_t (fw_t (fw_t (fw_t (fw_t (fw_t (fw_t fw_h)))))))))))))))))))))) (fw_c (fw_t (fw_l (fw_l (fw_l (fw_l (fw_r (fw_l (fw_t (fw_t (fw_t (fw_t (fw_t (fw_t (fw_t (fw_t (fw_t (fw_t (fw_t (fw_t (fw_t (fw_t (fw_t (fw_t fw_h))))))))))))))))))))))) (fw_c (fw_t (fw_l (fw_l (fw_l (fw_l (fw_r (fw_l (fw_t (fw_t (fw_t (fw_t (fw_t (fw_t (fw_t (fw_t (fw_t (fw_t (fw_t (fw_t (fw_t (fw_t (fw_t (fw_t (fw_t fw_h)))))))))))))))))))))))) (fw_c (fw_t (fw_l (fw_l (fw_l (fw_l (fw_r (fw_l (fw_t (fw_t (fw_t (fw_t (fw_t (fw_t (fw_t (fw_t (fw_t (fw_t (fw_t (fw_t (fw_t (fw_t (fw_t (fw_t (fw_t (fw_t fw_h))))))))))))))))))))))))) (fw_c (fw_t (fw_l (fw_l (fw_l (fw_l (fw_r (fw_l (fw_t (fw_t (fw_t (fw_t (fw_t (fw_t (fw_t (fw_t (fw_t (fw_t (fw_t (fw_t (fw_t (fw_t (fw_t (fw_t (fw_t (fw_t (fw_t fw_h)))))))))))))))))))))))))) (fw_c (fw_t (fw_l (fw_l (fw_l (fw_l (fw_r (fw_l (fw_t (fw_t (fw_t (fw_t (fw_t (fw_t (fw_t (fw_t (fw_t (fw_t (fw_t (fw_t (fw_t (fw_t (fw_t (fw_t (fw_t (fw_t (fw_t (fw_t fw_h))))))))))))))))))))))))))) (fw_c (fw_t (fw_l (fw_l (fw_l (fw_l (fw_r (fw_l (fw_t (fw_t (fw_t (fw_t (fw_t (fw_t (fw_t (fw_t (fw_t (fw_t (fw_t (fw_t (fw_t (fw_t (fw_t (fw_t (fw_t (fw_t (fw_t (fw_t (fw_t fw_h)))))))))))))))))))))))))))) (fw_c (fw_t (fw_l (fw_l (fw_l (fw_l (fw_r (fw_l (fw_t (fw_t (fw_t (fw_t (fw_t (fw_t (fw_t (fw_t (fw_t (fw_t (fw_t (fw_t (fw_t (fw_t (fw_t (fw_t (fw_t (fw_t (fw_t (fw_t (fw_t (fw_t fw_h))))))))))))))))))))))))))))) (fw_c (fw_t (fw_l (fw_l (fw_l (fw_l (fw_r (fw_l (fw_t (fw_t (fw_t (fw_t (fw_t (fw_t (fw_t (fw_t (fw_t (fw_t (fw_t (fw_t (fw_t (fw_t (fw_t (fw_t (fw_t (fw_t (fw_t (fw_t (fw_t (fw_t (fw_t fw_h)))))))))))))))))))))))))))))) (fw_c (fw_t (fw_l (fw_l (fw_l (fw_l (fw_r (fw_r fw_h))))))) (fw_c (fw_t (fw_l (fw_l (fw_l (fw_l (fw_r (fw_r (fw_t fw_h)))))))) (fw_c (fw_t (fw_l (fw_l (fw_l (fw_l (fw_r (fw_r (fw_t (fw_t fw_h))))))))) (fw_c (fw_t (fw_l (fw_l (fw_l (fw_l (fw_r (fw_r (fw_t (fw_t (fw_t fw_h)))))))))) (fw_c (fw_t (fw_l (fw_l (fw_l (fw_l (fw_r (fw_r (fw_t (fw_t (fw_t (fw_t fw_h))))))))))) (fw_c (fw_t (fw_l (fw_l (fw_l (fw_l (fw_r (fw_r (fw_t (fw_t (fw_t (fw_t (fw_t fw_h)))))))))))) (fw_c (fw_t (fw_l (fw_l (fw_l (fw_l (fw_r (fw_r (fw_t (fw_t (fw_t (fw_t (fw_t (fw_t fw_h))))))))))))) (fw_c (fw_t (fw_l (fw_l (fw_l (fw_l (fw_r (fw_r (fw_t (fw_t (fw_t (fw_t (fw_t (fw_t (fw_t fw_h)))))))))))))) fw_n)))))))))))))))))))))))) (fw_c (fw_t (fw_l (fw_l (fw_l (fw_l (fw_r (fw_r (fw_t (fw_t (fw_t (fw_t (fw_t (fw_t (fw_t (fw_t fw_h))))))))))))))) (fw_c (fw_t (fw_l (fw_l (fw_l (fw_l (fw_r (fw_r (fw_t (fw_t (fw_t (fw_t (fw_t (fw_t (fw_t (fw_t (fw_t fw_h)))))))))))))))) (fw_c (fw_t (fw_l (fw_l (fw_l (fw_l (fw_r (fw_r (fw_t (fw_t (fw_t (fw_t (fw_t (fw_t (fw_t (fw_t (fw_t (fw_t fw_h))))))))))))))))) (fw_c (fw_t (fw_l (fw_l (fw_l (fw_l (fw_r (fw_r (fw_t (fw_t (fw_t (fw_t (fw_t (fw_t (fw_t (fw_t (fw_t (fw_t (fw_t fw_h)))))))))))))))))) (fw_c (fw_t (fw_l (fw_l (fw_l (fw_l (fw_r (fw_r (fw_t (fw_t (fw_t (fw_t (fw_t (fw_t (fw_t (fw_t (fw_t (fw_t (fw_t (fw_t fw_h))))))))))))))))))) (fw_c (fw_t (fw_l (fw_l (fw_l (fw_l (fw_r (fw_r (fw_t (fw_t (fw_t (fw_t (fw_t (fw_t (fw_t (fw_t (fw_t (fw_t (fw_t (fw_t (fw_t fw_h)))))))))))))))))))) (fw_c (fw_t (fw_l (fw_l (fw_l (fw_l (fw_r (fw_r (fw_t (fw_t (fw_t (fw_t (fw_t (fw_t (fw_t (fw_t (fw_t (fw_t (fw_t (fw_t (fw_t (fw_t fw_h))))))))))))))))))))) (fw_c (fw_t (fw_l (fw_l (fw_l (fw_l (fw_r (fw_r (fw_t (fw_t (fw_t (fw_t (fw_t (fw_t (fw_t (fw_t (fw_t (fw_t (fw_t (fw_t (fw_t (fw_t (fw_t fw_h)))))))))))))))))))))) (fw_c (fw_t (fw_l (fw_l (fw_l (fw_l (fw_r (fw_r (fw_t (fw_t (fw_t (fw_t (fw_t (fw_t (fw_t (fw_t (fw_t (fw_t (fw_t (fw_t (fw_t (fw_t (fw_t (fw_t fw_h))))))))))))))))))))))) (fw_c (fw_t (fw_l (fw_l (fw_l (fw_l (fw_r (fw_r (fw_t (fw_t (fw_t (fw_t (fw_t (fw_t (fw_t (fw_t (fw_t (fw_t (fw_t (fw_t (fw_t (fw_t (fw_t (fw_t (fw_t fw_h)))))))))))))))))))))))) (fw_c (fw_t (fw_l (fw_l (fw_l (fw_l (fw_r (fw_r (fw_t (fw_t (fw_t (fw_t (fw_t (fw_t (fw_t (fw_t (fw_t (fw_t (fw_t (fw_t (fw_t (fw_t (fw_t (fw_t (fw_t (fw_t fw_h))))))))))))))))))))))))) (fw_c (fw_t (fw_l (fw_l (fw_l (fw_l (fw_r (fw_r (fw_t (fw_t (fw_t (fw_t (fw_t (fw_t (fw_t (fw_t (fw_t (fw_t (fw_t (fw_t (fw_t (fw_t (fw_t (fw_t (fw_t (fw_t (fw_t fw_h)))))))))))))))))))))))))) fw_n)))))))))))))) (fun _ h => fw_t (fw_l (fw_l (fw_r h))))) (fun _ h => fw_t (fw_l (fw_r h)))) (fun _ h => fw_t (fw_r h)))) (by decide +kernel)
set_option maxRecDepth 20000 in
theorem gX3_gather_X5_fits : GoodIn wsX3_gather (wsV RX3 48 RX5 yX5_fits wsX5_fits) := goodIn_app (goodIn_sub (fw_c (fw_t (fw_l (fw_l (fw_l (fw_l (fw_l (fw_t (fw_t (fw_t (fw_t fw_h)))))))))) (fw_c (fw_t (fw_l (fw_l (fw_l (fw_l (fw_l (fw_t (fw_t (fw_t (fw_t (fw_t fw_h))))))))))) (fw_c (fw_t (fw_l (fw_l (fw_l (fw_l (fw_l (fw_t (fw_t (fw_t (fw_t (fw_t (fw_t fw_h)))))))))))) (fw_c (fw_t (fw_l (fw_l (fw_l (fw_l (fw_l (fw_t (fw_t (fw_t (fw_t (fw_t (fw_t (fw_t fw_h))))))))))))) fw_n)))) (by decide +kernel)) ggX3_gather_X5_fits
theorem dX3_gather_0 : decode cX3_gather 0 = .ok (.aload_n 0, 1) := by decide +kernel
theorem dX3_gather_1 : decode cX3_gather 1 = .ok (.getfield 15, 3) := by decide +kernel
theorem dX3_gather_4 : decode cX3_gather 4 = .ok (.iconst 0, 1) := by decide +kernel
theorem dX3_gather_5 : decode cX3_gather 5 = .ok (.iload_n 2, 1) := by decide +kernel
theorem dX3_gather_6 : decode cX3_gather 6 = .ok (.iastore, 1) := by decide +kernel
theorem dX3_gather_7 : decode cX3_gather 7 = .ok (.aload_n 0, 1) := by decide +kernel
theorem dX3_gather_8 : decode cX3_gather 8 = .ok (.getfield 9, 3) := by decide +kernel
theorem dX3_gather_11 : decode cX3_gather 11 = .ok (.iload_n 2, 1) := by decide +kernel
theorem dX3_gather_12 : decode cX3_gather 12 = .ok (.aload_n 0, 1) := by decide +kernel
theorem dX3_gather_13 : decode cX3_gather 13 = .ok (.getfield 29, 3) := by decide +kernel
theorem dX3_gather_16 : decode cX3_gather 16 = .ok (.iastore, 1) := by decide +kernel
theorem dX3_gather_17 : decode cX3_gather 17 = .ok (.iconst 1, 1) := by decide +kernel
theorem dX3_gather_18 : decode cX3_gather 18 = .ok (.istore_n 3, 1) := by decide +kernel
theorem dX3_gather_19 : decode cX3_gather 19 = .ok (.iconst 0, 1) := by decide +kernel
theorem dX3_gather_20 : decode cX3_gather 20 = .ok (.istore 4, 2) := by decide +kernel
theorem dX3_gather_22 : decode cX3_gather 22 = .ok (.iload 4, 2) := by decide +kernel
theorem dX3_gather_24 : decode cX3_gather 24 = .ok (.iload_n 3, 1) := by decide +kernel
theorem dX3_gather_25 : decode cX3_gather 25 = .ok (.if_icmp .ge 98, 3) := by decide +kernel
theorem dX3_gather_28 : decode cX3_gather 28 = .ok (.iload 4, 2) := by decide +kernel
theorem dX3_gather_30 : decode cX3_gather 30 = .ok (.bipush 20, 2) := by decide +kernel
theorem dX3_gather_32 : decode cX3_gather 32 = .ok (.if_icmp .ge 91, 3) := by decide +kernel
theorem dX3_gather_35 : decode cX3_gather 35 = .ok (.aload_n 1, 1) := by decide +kernel
theorem dX3_gather_36 : decode cX3_gather 36 = .ok (.aload_n 0, 1) := by decide +kernel
theorem dX3_gather_37 : decode cX3_gather 37 = .ok (.getfield 15, 3) := by decide +kernel
theorem dX3_gather_40 : decode cX3_gather 40 = .ok (.iload 4, 2) := by decide +kernel
theorem dX3_gather_42 : decode cX3_gather 42 = .ok (.iaload, 1) := by decide +kernel
theorem dX3_gather_43 : decode cX3_gather 43 = .ok (.aaload, 1) := by decide +kernel
theorem dX3_gather_44 : decode cX3_gather 44 = .ok (.astore 5, 2) := by decide +kernel
theorem dX3_gather_46 : decode cX3_gather 46 = .ok (.iload_n 2, 1) := by decide +kernel
theorem dX3_gather_47 : decode cX3_gather 47 = .ok (.iconst 1, 1) := by decide +kernel
theorem dX3_gather_48 : decode cX3_gather 48 = .ok (.iadd, 1) := by decide +kernel
theorem dX3_gather_49 : decode cX3_gather 49 = .ok (.istore 6, 2) := by decide +kernel
theorem dX3_gather_51 : decode cX3_gather 51 = .ok (.iload 6, 2) := by decide +kernel
theorem dX3_gather_53 : decode cX3_gather 53 = .ok (.aload_n 0, 1) := by decide +kernel
theorem dX3_gather_54 : decode cX3_gather 54 = .ok (.getfield 25, 3) := by decide +kernel
theorem dX3_gather_57 : decode cX3_gather 57 = .ok (.if_icmp .ge 60, 3) := by decide +kernel
theorem dX3_gather_60 : decode cX3_gather 60 = .ok (.iload_n 3, 1) := by decide +kernel
theorem dX3_gather_61 : decode cX3_gather 61 = .ok (.bipush 20, 2) := by decide +kernel
theorem dX3_gather_63 : decode cX3_gather 63 = .ok (.if_icmp .ge 54, 3) := by decide +kernel
theorem dX3_gather_66 : decode cX3_gather 66 = .ok (.aload_n 0, 1) := by decide +kernel
theorem dX3_gather_67 : decode cX3_gather 67 = .ok (.getfield 9, 3) := by decide +kernel
theorem dX3_gather_70 : decode cX3_gather 70 = .ok (.iload 6, 2) := by decide +kernel
theorem dX3_gather_72 : decode cX3_gather 72 = .ok (.iaload, 1) := by decide +kernel
theorem dX3_gather_73 : decode cX3_gather 73 = .ok (.iconst (-1), 1) := by decide +kernel
theorem dX3_gather_74 : decode cX3_gather 74 = .ok (.if_icmp .ne 37, 3) := by decide +kernel
theorem dX3_gather_77 : decode cX3_gather 77 = .ok (.aload 5, 2) := by decide +kernel
theorem dX3_gather_79 : decode cX3_gather 79 = .ok (.aload_n 1, 1) := by decide +kernel
theorem dX3_gather_80 : decode cX3_gather 80 = .ok (.iload 6, 2) := by decide +kernel
theorem dX3_gather_82 : decode cX3_gather 82 = .ok (.aaload, 1) := by decide +kernel
theorem dX3_gather_83 : decode cX3_gather 83 = .ok (.invokevirtual 48, 3) := by decide +kernel
theorem dX3_gather_86 : decode cX3_gather 86 = .ok (.ifCond .eq 25, 3) := by decide +kernel
theorem dX3_gather_89 : decode cX3_gather 89 = .ok (.aload_n 0, 1) := by decide +kernel
theorem dX3_gather_90 : decode cX3_gather 90 = .ok (.getfield 9, 3) := by decide +kernel
theorem dX3_gather_93 : decode cX3_gather 93 = .ok (.iload 6, 2) := by decide +kernel
theorem dX3_gather_95 : decode cX3_gather 95 = .ok (.aload_n 0, 1) := by decide +kernel
theorem dX3_gather_96 : decode cX3_gather 96 = .ok (.getfield 29, 3) := by decide +kernel
theorem dX3_gather_99 : decode cX3_gather 99 = .ok (.iastore, 1) := by decide +kernel
theorem dX3_gather_100 : decode cX3_gather 100 = .ok (.aload_n 0, 1) := by decide +kernel
theorem dX3_gather_101 : decode cX3_gather 101 = .ok (.getfield 15, 3) := by decide +kernel
theorem dX3_gather_104 : decode cX3_gather 104 = .ok (.iload_n 3, 1) := by decide +kernel
theorem dX3_gather_105 : decode cX3_gather 105 = .ok (.iload 6, 2) := by decide +kernel
theorem dX3_gather_107 : decode cX3_gather 107 = .ok (.iastore, 1) := by decide +kernel
theorem dX3_gather_108 : decode cX3_gather 108 = .ok (.iinc 3 1, 3) := by decide +kernel
theorem dX3_gather_111 : decode cX3_gather 111 = .ok (.iinc 6 1, 3) := by decide +kernel
theorem dX3_gather_114 : decode cX3_gather 114 = .ok (.goto (-63), 3) := by decide +kernel
theorem dX3_gather_117 : decode cX3_gather 117 = .ok (.iinc 4 1, 3) := by decide +kernel
theorem dX3_gather_120 : decode cX3_gather 120 = .ok (.goto (-98), 3) := by decide +kernel
theorem dX3_gather_123 : decode cX3_gather 123 = .ok (.return_, 1) := by decide +kernel
theorem dX3_count_0 : decode cX3_count 0 = .ok (.aload_n 0, 1) := by decide +kernel
theorem dX3_count_1 : decode cX3_count 1 = .ok (.getfield 29, 3) := by decide +kernel
theorem dX3_count_4 : decode cX3_count 4 = .ok (.ireturn, 1) := by decide +kernel
theorem dX3_has_0 : decode cX3_has 0 = .ok (.iload_n 1, 1) := by decide +kernel
theorem dX3_has_1 : decode cX3_has 1 = .ok (.ifCond .lt 15, 3) := by decide +kernel
theorem dX3_has_4 : decode cX3_has 4 = .ok (.iload_n 1, 1) := by decide +kernel
theorem dX3_has_5 : decode cX3_has 5 = .ok (.aload_n 0, 1) := by decide +kernel
theorem dX3_has_6 : decode cX3_has 6 = .ok (.getfield 29, 3) := by decide +kernel
theorem dX3_has_9 : decode cX3_has 9 = .ok (.if_icmp .ge 7, 3) := by decide +kernel
theorem dX3_has_12 : decode cX3_has 12 = .ok (.iconst 1, 1) := by decide +kernel
theorem dX3_has_13 : decode cX3_has 13 = .ok (.goto 4, 3) := by decide +kernel
theorem dX3_has_16 : decode cX3_has 16 = .ok (.iconst 0, 1) := by decide +kernel
theorem dX3_has_17 : decode cX3_has 17 = .ok (.ireturn, 1) := by decide +kernel
theorem dX3_groupOf_0 : decode cX3_groupOf 0 = .ok (.iload_n 1, 1) := by decide +kernel
theorem dX3_groupOf_1 : decode cX3_groupOf 1 = .ok (.ifCond .lt 20, 3) := by decide +kernel
theorem dX3_groupOf_4 : decode cX3_groupOf 4 = .ok (.iload_n 1, 1) := by decide +kernel
theorem dX3_groupOf_5 : decode cX3_groupOf 5 = .ok (.aload_n 0, 1) := by decide +kernel
theorem dX3_groupOf_6 : decode cX3_groupOf 6 = .ok (.getfield 25, 3) := by decide +kernel
theorem dX3_groupOf_9 : decode cX3_groupOf 9 = .ok (.if_icmp .ge 12, 3) := by decide +kernel
theorem dX3_groupOf_12 : decode cX3_groupOf 12 = .ok (.aload_n 0, 1) := by decide +kernel
theorem dX3_groupOf_13 : decode cX3_groupOf 13 = .ok (.getfield 9, 3) := by decide +kernel
theorem dX3_groupOf_16 : decode cX3_groupOf 16 = .ok (.iload_n 1, 1) := by decide +kernel
theorem dX3_groupOf_17 : decode cX3_groupOf 17 = .ok (.iaload, 1) := by decide +kernel
theorem dX3_groupOf_18 : decode cX3_groupOf 18 = .ok (.goto 4, 3) := by decide +kernel
theorem dX3_groupOf_21 : decode cX3_groupOf 21 = .ok (.iconst (-1), 1) := by decide +kernel
theorem dX3_groupOf_22 : decode cX3_groupOf 22 = .ok (.ireturn, 1) := by decide +kernel
set_option maxRecDepth 20000 in
theorem ggX3_rivalPairs_X5_sharesPicture : GoodIn wsX3_rivalPairs wsX5_sharesPicture := goodIn_sub (fw_c (fw_t (fw_l (fw_l (fw_l (fw_t (fw_t (fw_t (fw_t (fw_t (fw_t fw_h)))))))))) (fw_a (fw_a (fw_c (fw_t (fw_l (fw_l (fw_l (fw_t (fw_t (fw_t (fw_t (fw_t (fw_t (fw_t fw_h))))))))))) fw_n) (fun _ h => fw_t (fw_l (fw_r h)))) (fun _ h => fw_t (fw_r h)))) (by decide +kernel)
set_option maxRecDepth 20000 in
theorem gX3_rivalPairs_X5_sharesPicture : GoodIn wsX3_rivalPairs (wsV RX3 54 RX5 yX5_sharesPicture wsX5_sharesPicture) := goodIn_app (goodIn_sub (fw_c (fw_t (fw_l (fw_l (fw_l (fw_t (fw_t fw_h)))))) (fw_c (fw_t (fw_l (fw_l (fw_l (fw_t (fw_t (fw_t fw_h))))))) (fw_c (fw_t (fw_l (fw_l (fw_l (fw_t (fw_t (fw_t (fw_t fw_h)))))))) (fw_c (fw_t (fw_l (fw_l (fw_l (fw_t (fw_t (fw_t (fw_t (fw_t fw_h))))))))) fw_n)))) (by decide +kernel)) ggX3_rivalPairs_X5_sharesPicture
theorem dX3_rivalPairs_0 : decode cX3_rivalPairs 0 = .ok (.iconst 0, 1) := by decide +kernel
theorem dX3_rivalPairs_1 : decode cX3_rivalPairs 1 = .ok (.istore_n 3, 1) := by decide +kernel
theorem dX3_rivalPairs_2 : decode cX3_rivalPairs 2 = .ok (.iconst 0, 1) := by decide +kernel
theorem dX3_rivalPairs_3 : decode cX3_rivalPairs 3 = .ok (.istore 4, 2) := by decide +kernel
theorem dX3_rivalPairs_5 : decode cX3_rivalPairs 5 = .ok (.iload 4, 2) := by decide +kernel
theorem dX3_rivalPairs_7 : decode cX3_rivalPairs 7 = .ok (.aload_n 0, 1) := by decide +kernel
theorem dX3_rivalPairs_8 : decode cX3_rivalPairs 8 = .ok (.getfield 25, 3) := by decide +kernel
theorem dX3_rivalPairs_11 : decode cX3_rivalPairs 11 = .ok (.if_icmp .ge 69, 3) := by decide +kernel
theorem dX3_rivalPairs_14 : decode cX3_rivalPairs 14 = .ok (.iload 4, 2) := by decide +kernel
theorem dX3_rivalPairs_16 : decode cX3_rivalPairs 16 = .ok (.iconst 1, 1) := by decide +kernel
theorem dX3_rivalPairs_17 : decode cX3_rivalPairs 17 = .ok (.iadd, 1) := by decide +kernel
theorem dX3_rivalPairs_18 : decode cX3_rivalPairs 18 = .ok (.istore 5, 2) := by decide +kernel
theorem dX3_rivalPairs_20 : decode cX3_rivalPairs 20 = .ok (.iload 5, 2) := by decide +kernel
theorem dX3_rivalPairs_22 : decode cX3_rivalPairs 22 = .ok (.aload_n 0, 1) := by decide +kernel
theorem dX3_rivalPairs_23 : decode cX3_rivalPairs 23 = .ok (.getfield 25, 3) := by decide +kernel
theorem dX3_rivalPairs_26 : decode cX3_rivalPairs 26 = .ok (.if_icmp .ge 48, 3) := by decide +kernel
theorem dX3_rivalPairs_29 : decode cX3_rivalPairs 29 = .ok (.aload_n 0, 1) := by decide +kernel
theorem dX3_rivalPairs_30 : decode cX3_rivalPairs 30 = .ok (.getfield 9, 3) := by decide +kernel
theorem dX3_rivalPairs_33 : decode cX3_rivalPairs 33 = .ok (.iload 4, 2) := by decide +kernel
theorem dX3_rivalPairs_35 : decode cX3_rivalPairs 35 = .ok (.iaload, 1) := by decide +kernel
theorem dX3_rivalPairs_36 : decode cX3_rivalPairs 36 = .ok (.iload_n 2, 1) := by decide +kernel
theorem dX3_rivalPairs_37 : decode cX3_rivalPairs 37 = .ok (.if_icmp .ne 31, 3) := by decide +kernel
theorem dX3_rivalPairs_40 : decode cX3_rivalPairs 40 = .ok (.aload_n 0, 1) := by decide +kernel
theorem dX3_rivalPairs_41 : decode cX3_rivalPairs 41 = .ok (.getfield 9, 3) := by decide +kernel
theorem dX3_rivalPairs_44 : decode cX3_rivalPairs 44 = .ok (.iload 5, 2) := by decide +kernel
theorem dX3_rivalPairs_46 : decode cX3_rivalPairs 46 = .ok (.iaload, 1) := by decide +kernel
theorem dX3_rivalPairs_47 : decode cX3_rivalPairs 47 = .ok (.iload_n 2, 1) := by decide +kernel
theorem dX3_rivalPairs_48 : decode cX3_rivalPairs 48 = .ok (.if_icmp .ne 20, 3) := by decide +kernel
theorem dX3_rivalPairs_51 : decode cX3_rivalPairs 51 = .ok (.aload_n 1, 1) := by decide +kernel
theorem dX3_rivalPairs_52 : decode cX3_rivalPairs 52 = .ok (.iload 4, 2) := by decide +kernel
theorem dX3_rivalPairs_54 : decode cX3_rivalPairs 54 = .ok (.aaload, 1) := by decide +kernel
theorem dX3_rivalPairs_55 : decode cX3_rivalPairs 55 = .ok (.aload_n 1, 1) := by decide +kernel
theorem dX3_rivalPairs_56 : decode cX3_rivalPairs 56 = .ok (.iload 5, 2) := by decide +kernel
theorem dX3_rivalPairs_58 : decode cX3_rivalPairs 58 = .ok (.aaload, 1) := by decide +kernel
theorem dX3_rivalPairs_59 : decode cX3_rivalPairs 59 = .ok (.invokevirtual 54, 3) := by decide +kernel
theorem dX3_rivalPairs_62 : decode cX3_rivalPairs 62 = .ok (.ifCond .eq 6, 3) := by decide +kernel
theorem dX3_rivalPairs_65 : decode cX3_rivalPairs 65 = .ok (.iinc 3 1, 3) := by decide +kernel
theorem dX3_rivalPairs_68 : decode cX3_rivalPairs 68 = .ok (.iinc 5 1, 3) := by decide +kernel
theorem dX3_rivalPairs_71 : decode cX3_rivalPairs 71 = .ok (.goto (-51), 3) := by decide +kernel
theorem dX3_rivalPairs_74 : decode cX3_rivalPairs 74 = .ok (.iinc 4 1, 3) := by decide +kernel
theorem dX3_rivalPairs_77 : decode cX3_rivalPairs 77 = .ok (.goto (-72), 3) := by decide +kernel
theorem dX3_rivalPairs_80 : decode cX3_rivalPairs 80 = .ok (.iload_n 3, 1) := by decide +kernel
theorem dX3_rivalPairs_81 : decode cX3_rivalPairs 81 = .ok (.ireturn, 1) := by decide +kernel
set_option maxRecDepth 20000 in
theorem ggX3_facts_J7_fill_53178 : GoodIn wsX3_facts wsJ7_fill_53178 := goodIn_r _ [11] (by decide +kernel) (by decide +kernel)
set_option maxRecDepth 20000 in
theorem gX3_facts_J7_fill_53178 : GoodIn wsX3_facts (va_wsS RX3 32 yJ7_fill_53178 wsJ7_fill_53178) := goodIn_app (goodIn_sub (fw_c (fw_t (fw_l (fw_l (fw_t (fw_t (fw_t (fw_t (fw_t (fw_t (fw_t fw_h)))))))))) (fw_c (fw_t (fw_l (fw_l (fw_t (fw_t (fw_t (fw_t (fw_t (fw_t (fw_t (fw_t fw_h))))))))))) (fw_c (fw_t (fw_l (fw_l (fw_t (fw_t (fw_t (fw_t (fw_t (fw_t (fw_t (fw_t (fw_t fw_h)))))))))))) fw_n))) (by decide +kernel)) ggX3_facts_J7_fill_53178
set_option maxRecDepth 20000 in
theorem ggX3_facts_J6_bitCount_0f7a4 : GoodIn wsX3_facts wsJ6_bitCount_0f7a4 := goodIn_r _ [15, 16, 17, 18] (by decide +kernel) (by decide +kernel)
set_option maxRecDepth 20000 in
theorem gX3_facts_J6_bitCount_0f7a4 : GoodIn wsX3_facts (va_wsS RX3 69 yJ6_bitCount_0f7a4 wsJ6_bitCount_0f7a4) := goodIn_app (goodIn_sub (fw_c (fw_t (fw_l (fw_l (fw_t (fw_t (fw_t (fw_t (fw_t (fw_t (fw_t (fw_t (fw_t (fw_t (fw_t fw_h)))))))))))))) (fw_c (fw_t (fw_l (fw_l (fw_t (fw_t (fw_t (fw_t (fw_t (fw_t (fw_t (fw_t (fw_t (fw_t (fw_t (fw_t fw_h))))))))))))))) (fw_c (fw_t (fw_l (fw_l (fw_t (fw_t (fw_t (fw_t (fw_t (fw_t (fw_t (fw_t (fw_t (fw_t (fw_t (fw_t (fw_t fw_h)))))))))))))))) fw_n))) (by decide +kernel)) ggX3_facts_J6_bitCount_0f7a4
theorem dX3_facts_0 : decode cX3_facts 0 = .ok (.iconst 0, 1) := by decide +kernel
theorem dX3_facts_1 : decode cX3_facts 1 = .ok (.istore_n 3, 1) := by decide +kernel
theorem dX3_facts_2 : decode cX3_facts 2 = .ok (.aload_n 0, 1) := by decide +kernel
theorem dX3_facts_3 : decode cX3_facts 3 = .ok (.getfield 18, 3) := by decide +kernel
theorem dX3_facts_6 : decode cX3_facts 6 = .ok (.iconst 0, 1) := by decide +kernel
theorem dX3_facts_7 : decode cX3_facts 7 = .ok (.invokestatic 32, 3) := by decide +kernel
theorem dX3_facts_10 : decode cX3_facts 10 = .ok (.iconst 0, 1) := by decide +kernel
theorem dX3_facts_11 : decode cX3_facts 11 = .ok (.istore 4, 2) := by decide +kernel
theorem dX3_facts_13 : decode cX3_facts 13 = .ok (.iload 4, 2) := by decide +kernel
theorem dX3_facts_15 : decode cX3_facts 15 = .ok (.aload_n 0, 1) := by decide +kernel
theorem dX3_facts_16 : decode cX3_facts 16 = .ok (.getfield 25, 3) := by decide +kernel
theorem dX3_facts_19 : decode cX3_facts 19 = .ok (.if_icmp .ge 75, 3) := by decide +kernel
theorem dX3_facts_22 : decode cX3_facts 22 = .ok (.aload_n 0, 1) := by decide +kernel
theorem dX3_facts_23 : decode cX3_facts 23 = .ok (.getfield 9, 3) := by decide +kernel
theorem dX3_facts_26 : decode cX3_facts 26 = .ok (.iload 4, 2) := by decide +kernel
theorem dX3_facts_28 : decode cX3_facts 28 = .ok (.iaload, 1) := by decide +kernel
theorem dX3_facts_29 : decode cX3_facts 29 = .ok (.iload_n 2, 1) := by decide +kernel
theorem dX3_facts_30 : decode cX3_facts 30 = .ok (.if_icmp .ne 58, 3) := by decide +kernel
theorem dX3_facts_33 : decode cX3_facts 33 = .ok (.aload_n 0, 1) := by decide +kernel
theorem dX3_facts_34 : decode cX3_facts 34 = .ok (.getfield 18, 3) := by decide +kernel
theorem dX3_facts_37 : decode cX3_facts 37 = .ok (.iconst 0, 1) := by decide +kernel
theorem dX3_facts_38 : decode cX3_facts 38 = .ok (.dup2, 1) := by decide +kernel
theorem dX3_facts_39 : decode cX3_facts 39 = .ok (.iaload, 1) := by decide +kernel
theorem dX3_facts_40 : decode cX3_facts 40 = .ok (.iconst 1, 1) := by decide +kernel
theorem dX3_facts_41 : decode cX3_facts 41 = .ok (.iadd, 1) := by decide +kernel
theorem dX3_facts_42 : decode cX3_facts 42 = .ok (.iastore, 1) := by decide +kernel
theorem dX3_facts_43 : decode cX3_facts 43 = .ok (.aload_n 0, 1) := by decide +kernel
theorem dX3_facts_44 : decode cX3_facts 44 = .ok (.getfield 18, 3) := by decide +kernel
theorem dX3_facts_47 : decode cX3_facts 47 = .ok (.iconst 1, 1) := by decide +kernel
theorem dX3_facts_48 : decode cX3_facts 48 = .ok (.aload_n 0, 1) := by decide +kernel
theorem dX3_facts_49 : decode cX3_facts 49 = .ok (.getfield 18, 3) := by decide +kernel
theorem dX3_facts_52 : decode cX3_facts 52 = .ok (.iconst 1, 1) := by decide +kernel
theorem dX3_facts_53 : decode cX3_facts 53 = .ok (.iaload, 1) := by decide +kernel
theorem dX3_facts_54 : decode cX3_facts 54 = .ok (.aload_n 1, 1) := by decide +kernel
theorem dX3_facts_55 : decode cX3_facts 55 = .ok (.iload 4, 2) := by decide +kernel
theorem dX3_facts_57 : decode cX3_facts 57 = .ok (.aaload, 1) := by decide +kernel
theorem dX3_facts_58 : decode cX3_facts 58 = .ok (.getfield 57, 3) := by decide +kernel
theorem dX3_facts_61 : decode cX3_facts 61 = .ok (.invokestatic 60, 3) := by decide +kernel
theorem dX3_facts_64 : decode cX3_facts 64 = .ok (.iastore, 1) := by decide +kernel
theorem dX3_facts_65 : decode cX3_facts 65 = .ok (.iload_n 3, 1) := by decide +kernel
theorem dX3_facts_66 : decode cX3_facts 66 = .ok (.aload_n 1, 1) := by decide +kernel
theorem dX3_facts_67 : decode cX3_facts 67 = .ok (.iload 4, 2) := by decide +kernel
theorem dX3_facts_69 : decode cX3_facts 69 = .ok (.aaload, 1) := by decide +kernel
theorem dX3_facts_70 : decode cX3_facts 70 = .ok (.getfield 63, 3) := by decide +kernel
theorem dX3_facts_73 : decode cX3_facts 73 = .ok (.ior, 1) := by decide +kernel
theorem dX3_facts_74 : decode cX3_facts 74 = .ok (.istore_n 3, 1) := by decide +kernel
theorem dX3_facts_75 : decode cX3_facts 75 = .ok (.aload_n 0, 1) := by decide +kernel
theorem dX3_facts_76 : decode cX3_facts 76 = .ok (.getfield 18, 3) := by decide +kernel
theorem dX3_facts_79 : decode cX3_facts 79 = .ok (.iconst 3, 1) := by decide +kernel
theorem dX3_facts_80 : decode cX3_facts 80 = .ok (.aload_n 1, 1) := by decide +kernel
theorem dX3_facts_81 : decode cX3_facts 81 = .ok (.iload 4, 2) := by decide +kernel
theorem dX3_facts_83 : decode cX3_facts 83 = .ok (.aaload, 1) := by decide +kernel
theorem dX3_facts_84 : decode cX3_facts 84 = .ok (.getfield 66, 3) := by decide +kernel
theorem dX3_facts_87 : decode cX3_facts 87 = .ok (.iastore, 1) := by decide +kernel
theorem dX3_facts_88 : decode cX3_facts 88 = .ok (.iinc 4 1, 3) := by decide +kernel
theorem dX3_facts_91 : decode cX3_facts 91 = .ok (.goto (-78), 3) := by decide +kernel
theorem dX3_facts_94 : decode cX3_facts 94 = .ok (.aload_n 0, 1) := by decide +kernel
theorem dX3_facts_95 : decode cX3_facts 95 = .ok (.getfield 18, 3) := by decide +kernel
theorem dX3_facts_98 : decode cX3_facts 98 = .ok (.iconst 2, 1) := by decide +kernel
theorem dX3_facts_99 : decode cX3_facts 99 = .ok (.iload_n 3, 1) := by decide +kernel
theorem dX3_facts_100 : decode cX3_facts 100 = .ok (.invokestatic 69, 3) := by decide +kernel
theorem dX3_facts_103 : decode cX3_facts 103 = .ok (.iastore, 1) := by decide +kernel
theorem dX3_facts_104 : decode cX3_facts 104 = .ok (.aload_n 0, 1) := by decide +kernel
theorem dX3_facts_105 : decode cX3_facts 105 = .ok (.getfield 18, 3) := by decide +kernel
theorem dX3_facts_108 : decode cX3_facts 108 = .ok (.areturn, 1) := by decide +kernel
theorem dX4_init_0 : decode cX4_init 0 = .ok (.aload_n 0, 1) := by decide +kernel
theorem dX4_init_1 : decode cX4_init 1 = .ok (.invokespecial 3, 3) := by decide +kernel
theorem dX4_init_4 : decode cX4_init 4 = .ok (.aload_n 0, 1) := by decide +kernel
theorem dX4_init_5 : decode cX4_init 5 = .ok (.bipush 8, 2) := by decide +kernel
theorem dX4_init_7 : decode cX4_init 7 = .ok (.newarray .int, 2) := by decide +kernel
theorem dX4_init_9 : decode cX4_init 9 = .ok (.putfield 9, 3) := by decide +kernel
theorem dX4_init_12 : decode cX4_init 12 = .ok (.aload_n 0, 1) := by decide +kernel
theorem dX4_init_13 : decode cX4_init 13 = .ok (.bipush 8, 2) := by decide +kernel
theorem dX4_init_15 : decode cX4_init 15 = .ok (.newarray .int, 2) := by decide +kernel
theorem dX4_init_17 : decode cX4_init 17 = .ok (.putfield 15, 3) := by decide +kernel
theorem dX4_init_20 : decode cX4_init 20 = .ok (.return_, 1) := by decide +kernel
theorem dX4_size_0 : decode cX4_size 0 = .ok (.aload_n 0, 1) := by decide +kernel
theorem dX4_size_1 : decode cX4_size 1 = .ok (.getfield 18, 3) := by decide +kernel
theorem dX4_size_4 : decode cX4_size 4 = .ok (.ireturn, 1) := by decide +kernel
set_option maxRecDepth 20000 in
theorem ggX4_add_X4_fit : GoodIn wsX4_add wsX4_fit := goodIn_sub (fw_c (fw_t (fw_l (fw_l (fw_t (fw_t (fw_t (fw_t (fw_t (fw_t (fw_t fw_h)))))))))) (fw_a (fw_c (fw_t (fw_l (fw_l fw_h))) (fw_c (fw_t (fw_l (fw_l (fw_t fw_h)))) (fw_c (fw_t (fw_l (fw_l (fw_t (fw_t fw_h))))) (fw_c (fw_t (fw_l (fw_l (fw_t (fw_t (fw_t (fw_t (fw_t (fw_t (fw_t (fw_t fw_h))))))))))) (fw_c (fw_t (fw_l (fw_l (fw_t (fw_t (fw_t (fw_t (fw_t (fw_t (fw_t (fw_t (fw_t fw_h)))))))))))) (fw_c (fw_t (fw_l (fw_l (fw_t (fw_t (fw_t (fw_t (fw_t (fw_t (fw_t (fw_t (fw_t (fw_t fw_h))))))))))))) (fw_c (fw_t (fw_l (fw_l (fw_t (fw_t (fw_t (fw_t (fw_t (fw_t (fw_t (fw_t (fw_t (fw_t (fw_t fw_h)))))))))))))) (fw_c (fw_t (fw_l (fw_l (fw_t (fw_t (fw_t (fw_t (fw_t (fw_t (fw_t (fw_t (fw_t (fw_t (fw_t (fw_t fw_h))))))))))))))) (fw_c (fw_t (fw_l (fw_l (fw_t (fw_t (fw_t (fw_t (fw_t (fw_t (fw_t (fw_t (fw_t (fw_t (fw_t (fw_t (fw_t fw_h)))))))))))))))) (fw_c (fw_t (fw_l (fw_l (fw_t (fw_t (fw_t (fw_t (fw_t (fw_t (fw_t (fw_t (fw_t (fw_t (fw_t (fw_t (fw_t (fw_t fw_h))))))))))))))))) (fw_c (fw_t (fw_l (fw_l (fw_t (fw_t (fw_t (fw_t (fw_t (fw_t fw_h))))))))) (fw_c (fw_t (fw_l (fw_l (fw_t (fw_t (fw_t (fw_t (fw_t (fw_t (fw_t (fw_t (fw_t (fw_t (fw_t (fw_t (fw_t (fw_t (fw_t fw_h)))))))))))))))))) (fw_c (fw_t (fw_l (fw_l (fw_t (fw_t (fw_t (fw_t (fw_t (fw_t (fw_t (fw_t (fw_t (fw_t (fw_t (fw_t (fw_t (fw_t (fw_t (fw_t fw_h))))))))))))))))))) (fw_c (fw_t (fw_l (fw_l (fw_t (fw_t (fw_t (fw_t (fw_t (fw_t (fw_t (fw_t (fw_t (fw_t (fw_t (fw_t (fw_t (fw_t (fw_t (fw_t (fw_t fw_h)))))))))))))))))))) (fw_c (fw_t (fw_l (fw_l (fw_t (fw_t (fw_t (fw_t (fw_t (fw_t (fw_t (fw_t (fw_t (fw_t (fw_t (fw_t (fw_t (fw_t (fw_t (fw_t (fw_t (fw_t fw_h))))))))))))))))))))) (fw_c (fw_t (fw_l (fw_l (fw_t (fw_t (fw_t (fw_t (fw_t (fw_t (fw_t (fw_t (fw_t (fw_t (fw_t (fw_t (fw_t (fw_t (fw_t (fw_t (fw_t (fw_t (fw_t fw_h)))))))))))))))))))))) (fw_c (fw_t (fw_l (fw_l (fw_t (fw_t (fw_t (fw_t (fw_t (fw_t (fw_t (fw_t (fw_t (fw_t (fw_t (fw_t (fw_t (fw_t (fw_t (fw_t (fw_t (fw_t (fw_t (fw_t fw_h))))))))))))))))))))))) (fw_c (fw_t (fw_l (fw_l (fw_t (fw_t (fw_t (fw_t (fw_t (fw_t (fw_t (fw_t (fw_t (fw_t (fw_t (fw_t (fw_t (fw_t (fw_t (fw_t (fw_t (fw_t (fw_t (fw_t (fw_t fw_h)))))))))))))))))))))))) (fw_c (fw_t (fw_l (fw_l (fw_t (fw_t (fw_t (fw_t (fw_t (fw_t (fw_t (fw_t (fw_t (fw_t (fw_t (fw_t (fw_t (fw_t (fw_t (fw_t (fw_t (fw_t (fw_t (fw_t (fw_t (fw_t fw_h))))))))))))))))))))))))) (fw_c (fw_t (fw_l (fw_l (fw_t (fw_t (fw_t (fw_t (fw_t (fw_t (fw_t (fw_t (fw_t (fw_t (fw_t (fw_t (fw_t (fw_t (fw_t (fw_t (fw_t (fw_t (fw_t (fw_t (fw_t (fw_t (fw_t fw_h)))))))))))))))))))))))))) (fw_c (fw_t (fw_l (fw_r fw_h))) (fw_c (fw_t (fw_l (fw_r (fw_t fw_h)))) (fw_c (fw_t (fw_l (fw_r (fw_t (fw_t fw_h))))) (fw_c (fw_t (fw_l (fw_r (fw_t (fw_t (fw_t fw_h)))))) fw_n)))))))))))))))))))))))) (fun _ h => fw_t (fw_r h)))) (by decide +kernel)
set_option maxRecDepth 20000 in
theorem gX4_add_X4_fit : GoodIn wsX4_add (wsV RX4 22 RX4 yX4_fit wsX4_fit) := goodIn_app (goodIn_sub (fw_c (fw_t (fw_l (fw_l (fw_t (fw_t (fw_t fw_h)))))) (fw_c (fw_t (fw_l (fw_l (fw_t (fw_t (fw_t (fw_t fw_h))))))) (fw_c (fw_t (fw_l (fw_l (fw_t (fw_t (fw_t (fw_t (fw_t fw_h)))))))) (fw_c (fw_t (fw_l (fw_l (fw_t (fw_t (fw_t (fw_t (fw_t (fw_t fw_h))))))))) fw_n)))) (by decide +kernel)) ggX4_add_X4_fit
theorem dX4_add_0 : decode cX4_add 0 = .ok (.aload_n 0, 1) := by decide +kernel
theorem dX4_add_1 : decode cX4_add 1 = .ok (.getfield 18, 3) := by decide +kernel
theorem dX4_add_4 : decode cX4_add 4 = .ok (.bipush 8, 2) := by decide +kernel
theorem dX4_add_6 : decode cX4_add 6 = .ok (.if_icmp .ge 37, 3) := by decide +kernel
theorem dX4_add_9 : decode cX4_add 9 = .ok (.aload_n 0, 1) := by decide +kernel
theorem dX4_add_10 : decode cX4_add 10 = .ok (.getfield 9, 3) := by decide +kernel
theorem dX4_add_13 : decode cX4_add 13 = .ok (.aload_n 0, 1) := by decide +kernel
theorem dX4_add_14 : decode cX4_add 14 = .ok (.getfield 18, 3) := by decide +kernel
theorem dX4_add_17 : decode cX4_add 17 = .ok (.iload_n 1, 1) := by decide +kernel
theorem dX4_add_18 : decode cX4_add 18 = .ok (.iastore, 1) := by decide +kernel
theorem dX4_add_19 : decode cX4_add 19 = .ok (.aload_n 0, 1) := by decide +kernel
theorem dX4_add_20 : decode cX4_add 20 = .ok (.getfield 15, 3) := by decide +kernel
theorem dX4_add_23 : decode cX4_add 23 = .ok (.aload_n 0, 1) := by decide +kernel
theorem dX4_add_24 : decode cX4_add 24 = .ok (.getfield 18, 3) := by decide +kernel
theorem dX4_add_27 : decode cX4_add 27 = .ok (.iload_n 2, 1) := by decide +kernel
theorem dX4_add_28 : decode cX4_add 28 = .ok (.iastore, 1) := by decide +kernel
theorem dX4_add_29 : decode cX4_add 29 = .ok (.aload_n 0, 1) := by decide +kernel
theorem dX4_add_30 : decode cX4_add 30 = .ok (.dup, 1) := by decide +kernel
theorem dX4_add_31 : decode cX4_add 31 = .ok (.getfield 18, 3) := by decide +kernel
theorem dX4_add_34 : decode cX4_add 34 = .ok (.iconst 1, 1) := by decide +kernel
theorem dX4_add_35 : decode cX4_add 35 = .ok (.iadd, 1) := by decide +kernel
theorem dX4_add_36 : decode cX4_add 36 = .ok (.putfield 18, 3) := by decide +kernel
theorem dX4_add_39 : decode cX4_add 39 = .ok (.aload_n 0, 1) := by decide +kernel
theorem dX4_add_40 : decode cX4_add 40 = .ok (.invokevirtual 22, 3) := by decide +kernel
theorem dX4_add_43 : decode cX4_add 43 = .ok (.return_, 1) := by decide +kernel
set_option maxRecDepth 20000 in
theorem ggX4_drop_X4_fit : GoodIn wsX4_drop wsX4_fit := goodIn_sub (fw_c (fw_t (fw_l (fw_l (fw_t (fw_t (fw_t (fw_t (fw_t fw_h)))))))) (fw_a (fw_c (fw_t (fw_l (fw_l fw_h))) (fw_c (fw_t (fw_l (fw_l (fw_t (fw_t (fw_t (fw_t (fw_t (fw_t fw_h))))))))) (fw_c (fw_t (fw_l (fw_l (fw_t (fw_t (fw_t (fw_t (fw_t (fw_t (fw_t fw_h)))))))))) (fw_c (fw_t (fw_l (fw_l (fw_t (fw_t (fw_t (fw_t (fw_t (fw_t (fw_t (fw_t fw_h))))))))))) (fw_c (fw_t (fw_l (fw_l (fw_t (fw_t (fw_t (fw_t (fw_t (fw_t (fw_t (fw_t (fw_t fw_h)))))))))))) (fw_c (fw_t (fw_l (fw_l (fw_t (fw_t (fw_t (fw_t (fw_t (fw_t (fw_t (fw_t (fw_t (fw_t fw_h))))))))))))) (fw_c (fw_t (fw_l (fw_l (fw_t (fw_t (fw_t (fw_t (fw_t (fw_t (fw_t (fw_t (fw_t (fw_t (fw_t fw_h)))))))))))))) (fw_c (fw_t (fw_l (fw_l (fw_t (fw_t (fw_t (fw_t (fw_t (fw_t (fw_t (fw_t (fw_t (fw_t (fw_t (fw_t fw_h))))))))))))))) (fw_c (fw_t (fw_l (fw_l (fw_t (fw_t (fw_t (fw_t (fw_t (fw_t (fw_t (fw_t (fw_t (fw_t (fw_t (fw_t (fw_t fw_h)))))))))))))))) (fw_c (fw_t (fw_l (fw_l (fw_t (fw_t (fw_t (fw_t (fw_t (fw_t (fw_t (fw_t (fw_t (fw_t (fw_t (fw_t (fw_t (fw_t fw_h))))))))))))))))) (fw_c (fw_t (fw_l (fw_l (fw_t (fw_t (fw_t (fw_t fw_h))))))) (fw_c (fw_t (fw_l (fw_l (fw_t (fw_t (fw_t (fw_t (fw_t (fw_t (fw_t (fw_t (fw_t (fw_t (fw_t (fw_t (fw_t (fw_t (fw_t fw_h)))))))))))))))))) (fw_c (fw_t (fw_l (fw_l (fw_t (fw_t (fw_t (fw_t (fw_t (fw_t (fw_t (fw_t (fw_t (fw_t (fw_t (fw_t (fw_t (fw_t (fw_t (fw_t fw_h))))))))))))))))))) (fw_c (fw_t (fw_l (fw_l (fw_t (fw_t (fw_t (fw_t (fw_t (fw_t (fw_t (fw_t (fw_t (fw_t (fw_t (fw_t (fw_t (fw_t (fw_t (fw_t (fw_t fw_h)))))))))))))))))))) (fw_c (fw_t (fw_l (fw_l (fw_t (fw_t (fw_t (fw_t (fw_t (fw_t (fw_t (fw_t (fw_t (fw_t (fw_t (fw_t (fw_t (fw_t (fw_t (fw_t (fw_t (fw_t fw_h))))))))))))))))))))) (fw_c (fw_t (fw_l (fw_l (fw_t (fw_t (fw_t (fw_t (fw_t (fw_t (fw_t (fw_t (fw_t (fw_t (fw_t (fw_t (fw_t (fw_t (fw_t (fw_t (fw_t (fw_t (fw_t fw_h)))))))))))))))))))))) (fw_c (fw_t (fw_l (fw_l (fw_t (fw_t (fw_t (fw_t (fw_t (fw_t (fw_t (fw_t (fw_t (fw_t (fw_t (fw_t (fw_t (fw_t (fw_t (fw_t (fw_t (fw_t (fw_t (fw_t fw_h))))))))))))))))))))))) (fw_c (fw_t (fw_l (fw_l (fw_t (fw_t (fw_t (fw_t (fw_t (fw_t (fw_t (fw_t (fw_t (fw_t (fw_t (fw_t (fw_t (fw_t (fw_t (fw_t (fw_t (fw_t (fw_t (fw_t (fw_t fw_h)))))))))))))))))))))))) (fw_c (fw_t (fw_l (fw_l (fw_t (fw_t (fw_t (fw_t (fw_t (fw_t (fw_t (fw_t (fw_t (fw_t (fw_t (fw_t (fw_t (fw_t (fw_t (fw_t (fw_t (fw_t (fw_t (fw_t (fw_t (fw_t fw_h))))))))))))))))))))))))) (fw_c (fw_t (fw_l (fw_l (fw_t (fw_t (fw_t (fw_t (fw_t (fw_t (fw_t (fw_t (fw_t (fw_t (fw_t (fw_t (fw_t (fw_t (fw_t (fw_t (fw_t (fw_t (fw_t (fw_t (fw_t (fw_t (fw_t fw_h)))))))))))))))))))))))))) (fw_c (fw_t (fw_l (fw_r fw_h))) (fw_c (fw_t (fw_l (fw_r (fw_t fw_h)))) (fw_c (fw_t (fw_l (fw_r (fw_t (fw_t fw_h))))) (fw_c (fw_t (fw_l (fw_r (fw_t (fw_t (fw_t fw_h)))))) fw_n)))))))))))))))))))))))) (fun _ h => fw_t (fw_r h)))) (by decide +kernel)
set_option maxRecDepth 20000 in
theorem gX4_drop_X4_fit : GoodIn wsX4_drop (wsV RX4 22 RX4 yX4_fit wsX4_fit) := goodIn_app (goodIn_sub (fw_c (fw_t (fw_l (fw_l (fw_t fw_h)))) (fw_c (fw_t (fw_l (fw_l (fw_t (fw_t fw_h))))) (fw_c (fw_t (fw_l (fw_l (fw_t (fw_t (fw_t fw_h)))))) (fw_c (fw_t (fw_l (fw_l (fw_t (fw_t (fw_t (fw_t fw_h))))))) fw_n)))) (by decide +kernel)) ggX4_drop_X4_fit
theorem dX4_drop_0 : decode cX4_drop 0 = .ok (.aload_n 0, 1) := by decide +kernel
theorem dX4_drop_1 : decode cX4_drop 1 = .ok (.getfield 18, 3) := by decide +kernel
theorem dX4_drop_4 : decode cX4_drop 4 = .ok (.ifCond .le 17, 3) := by decide +kernel
theorem dX4_drop_7 : decode cX4_drop 7 = .ok (.aload_n 0, 1) := by decide +kernel
theorem dX4_drop_8 : decode cX4_drop 8 = .ok (.dup, 1) := by decide +kernel
theorem dX4_drop_9 : decode cX4_drop 9 = .ok (.getfield 18, 3) := by decide +kernel
theorem dX4_drop_12 : decode cX4_drop 12 = .ok (.iconst 1, 1) := by decide +kernel
theorem dX4_drop_13 : decode cX4_drop 13 = .ok (.isub, 1) := by decide +kernel
theorem dX4_drop_14 : decode cX4_drop 14 = .ok (.putfield 18, 3) := by decide +kernel
theorem dX4_drop_17 : decode cX4_drop 17 = .ok (.aload_n 0, 1) := by decide +kernel
theorem dX4_drop_18 : decode cX4_drop 18 = .ok (.invokevirtual 22, 3) := by decide +kernel
theorem dX4_drop_21 : decode cX4_drop 21 = .ok (.return_, 1) := by decide +kernel
theorem dX4_latestFrom_0 : decode cX4_latestFrom 0 = .ok (.aload_n 0, 1) := by decide +kernel
theorem dX4_latestFrom_1 : decode cX4_latestFrom 1 = .ok (.getfield 18, 3) := by decide +kernel
theorem dX4_latestFrom_4 : decode cX4_latestFrom 4 = .ok (.ifCond .le 17, 3) := by decide +kernel
theorem dX4_latestFrom_7 : decode cX4_latestFrom 7 = .ok (.aload_n 0, 1) := by decide +kernel
theorem dX4_latestFrom_8 : decode cX4_latestFrom 8 = .ok (.getfield 9, 3) := by decide +kernel
theorem dX4_latestFrom_11 : decode cX4_latestFrom 11 = .ok (.aload_n 0, 1) := by decide +kernel
theorem dX4_latestFrom_12 : decode cX4_latestFrom 12 = .ok (.getfield 18, 3) := by decide +kernel
theorem dX4_latestFrom_15 : decode cX4_latestFrom 15 = .ok (.iconst 1, 1) := by decide +kernel
theorem dX4_latestFrom_16 : decode cX4_latestFrom 16 = .ok (.isub, 1) := by decide +kernel
theorem dX4_latestFrom_17 : decode cX4_latestFrom 17 = .ok (.iaload, 1) := by decide +kernel
theorem dX4_latestFrom_18 : decode cX4_latestFrom 18 = .ok (.goto 4, 3) := by decide +kernel
theorem dX4_latestFrom_21 : decode cX4_latestFrom 21 = .ok (.iconst 0, 1) := by decide +kernel
theorem dX4_latestFrom_22 : decode cX4_latestFrom 22 = .ok (.ireturn, 1) := by decide +kernel
theorem dX4_latestTo_0 : decode cX4_latestTo 0 = .ok (.aload_n 0, 1) := by decide +kernel
theorem dX4_latestTo_1 : decode cX4_latestTo 1 = .ok (.getfield 18, 3) := by decide +kernel
theorem dX4_latestTo_4 : decode cX4_latestTo 4 = .ok (.ifCond .le 17, 3) := by decide +kernel
theorem dX4_latestTo_7 : decode cX4_latestTo 7 = .ok (.aload_n 0, 1) := by decide +kernel
theorem dX4_latestTo_8 : decode cX4_latestTo 8 = .ok (.getfield 15, 3) := by decide +kernel
theorem dX4_latestTo_11 : decode cX4_latestTo 11 = .ok (.aload_n 0, 1) := by decide +kernel
theorem dX4_latestTo_12 : decode cX4_latestTo 12 = .ok (.getfield 18, 3) := by decide +kernel
theorem dX4_latestTo_15 : decode cX4_latestTo 15 = .ok (.iconst 1, 1) := by decide +kernel
theorem dX4_latestTo_16 : decode cX4_latestTo 16 = .ok (.isub, 1) := by decide +kernel
theorem dX4_latestTo_17 : decode cX4_latestTo 17 = .ok (.iaload, 1) := by decide +kernel
theorem dX4_latestTo_18 : decode cX4_latestTo 18 = .ok (.goto 4, 3) := by decide +kernel
theorem dX4_latestTo_21 : decode cX4_latestTo 21 = .ok (.iconst 0, 1) := by decide +kernel
theorem dX4_latestTo_22 : decode cX4_latestTo 22 = .ok (.ireturn, 1) := by decide +kernel
theorem dX4_isThere_0 : decode cX4_isThere 0 = .ok (.aload_n 0, 1) := by decide +kernel
theorem dX4_isThere_1 : decode cX4_isThere 1 = .ok (.getfield 25, 3) := by decide +kernel
theorem dX4_isThere_4 : decode cX4_isThere 4 = .ok (.lconst 0, 1) := by decide +kernel
theorem dX4_isThere_5 : decode cX4_isThere 5 = .ok (.lcmp, 1) := by decide +kernel
theorem dX4_isThere_6 : decode cX4_isThere 6 = .ok (.ifCond .le 7, 3) := by decide +kernel
theorem dX4_isThere_9 : decode cX4_isThere 9 = .ok (.iconst 1, 1) := by decide +kernel
theorem dX4_isThere_10 : decode cX4_isThere 10 = .ok (.goto 4, 3) := by decide +kernel
theorem dX4_isThere_13 : decode cX4_isThere 13 = .ok (.iconst 0, 1) := by decide +kernel
theorem dX4_isThere_14 : decode cX4_isThere 14 = .ok (.ireturn, 1) := by decide +kernel
theorem dX4_upperAt_0 : decode cX4_upperAt 0 = .ok (.aload_n 0, 1) := by decide +kernel
theorem dX4_upperAt_1 : decode cX4_upperAt 1 = .ok (.getfield 29, 3) := by decide +kernel
theorem dX4_upperAt_4 : decode cX4_upperAt 4 = .ok (.aload_n 0, 1) := by decide +kernel
theorem dX4_upperAt_5 : decode cX4_upperAt 5 = .ok (.getfield 32, 3) := by decide +kernel
theorem dX4_upperAt_8 : decode cX4_upperAt 8 = .ok (.iload_n 1, 1) := by decide +kernel
theorem dX4_upperAt_9 : decode cX4_upperAt 9 = .ok (.i2l, 1) := by decide +kernel
theorem dX4_upperAt_10 : decode cX4_upperAt 10 = .ok (.lmul, 1) := by decide +kernel
theorem dX4_upperAt_11 : decode cX4_upperAt 11 = .ok (.ladd, 1) := by decide +kernel
theorem dX4_upperAt_12 : decode cX4_upperAt 12 = .ok (.lreturn, 1) := by decide +kernel
theorem dX4_lower_0 : decode cX4_lower 0 = .ok (.aload_n 0, 1) := by decide +kernel
theorem dX4_lower_1 : decode cX4_lower 1 = .ok (.getfield 25, 3) := by decide +kernel
theorem dX4_lower_4 : decode cX4_lower 4 = .ok (.lreturn, 1) := by decide +kernel
set_option maxRecDepth 20000 in
theorem ggX4_cutAt_X4_upperAt : GoodIn wsX4_cutAt wsX4_upperAt := goodIn_sub (fw_c (fw_t (fw_l (fw_t (fw_t (fw_t (fw_t (fw_t fw_h))))))) (fw_a (fw_c (fw_t (fw_l (fw_t (fw_t (fw_t (fw_t (fw_t (fw_t fw_h)))))))) (fw_c (fw_t (fw_l (fw_t (fw_t (fw_t (fw_t (fw_t (fw_t (fw_t fw_h))))))))) fw_n)) (fun _ h => fw_t (fw_r h)))) (by decide +kernel)
set_option maxRecDepth 20000 in
theorem gX4_cutAt_X4_upperAt : GoodIn wsX4_cutAt (wsV RX4 35 RX4 yX4_upperAt wsX4_upperAt) := goodIn_app (goodIn_sub (fw_c (fw_t (fw_l (fw_t fw_h))) (fw_c (fw_t (fw_l (fw_t (fw_t fw_h)))) (fw_c (fw_t (fw_l (fw_t (fw_t (fw_t fw_h))))) (fw_c (fw_t (fw_l (fw_t (fw_t (fw_t (fw_t fw_h)))))) fw_n)))) (by decide +kernel)) ggX4_cutAt_X4_upperAt
set_option maxRecDepth 20000 in
theorem ggX4_cutAt_J9_floorDiv_f86c9 : GoodIn wsX4_cutAt wsJ9_floorDiv_f86c9 := goodIn_r _ [12] (by decide +kernel) (by decide +kernel)
set_option maxRecDepth 20000 in
theorem gX4_cutAt_J9_floorDiv_f86c9 : GoodIn wsX4_cutAt (va_wsS RX4 39 yJ9_floorDiv_f86c9 wsJ9_floorDiv_f86c9) := goodIn_app (goodIn_sub (fw_c (fw_t (fw_l (fw_t (fw_t (fw_t (fw_t (fw_t (fw_t (fw_t (fw_t fw_h)))))))))) (fw_c (fw_t (fw_l (fw_t (fw_t (fw_t (fw_t (fw_t (fw_t (fw_t (fw_t (fw_t fw_h))))))))))) (fw_c (fw_t (fw_l (fw_t (fw_t (fw_t (fw_t (fw_t (fw_t (fw_t (fw_t (fw_t (fw_t fw_h)))))))))))) fw_n))) (by decide +kernel)) ggX4_cutAt_J9_floorDiv_f86c9
theorem dX4_cutAt_0 : decode cX4_cutAt 0 = .ok (.aload_n 0, 1) := by decide +kernel
theorem dX4_cutAt_1 : decode cX4_cutAt 1 = .ok (.getfield 25, 3) := by decide +kernel
theorem dX4_cutAt_4 : decode cX4_cutAt 4 = .ok (.lconst 0, 1) := by decide +kernel
theorem dX4_cutAt_5 : decode cX4_cutAt 5 = .ok (.lcmp, 1) := by decide +kernel
theorem dX4_cutAt_6 : decode cX4_cutAt 6 = .ok (.ifCond .le 18, 3) := by decide +kernel
theorem dX4_cutAt_9 : decode cX4_cutAt 9 = .ok (.aload_n 0, 1) := by decide +kernel
theorem dX4_cutAt_10 : decode cX4_cutAt 10 = .ok (.iload_n 1, 1) := by decide +kernel
theorem dX4_cutAt_11 : decode cX4_cutAt 11 = .ok (.invokevirtual 35, 3) := by decide +kernel
theorem dX4_cutAt_14 : decode cX4_cutAt 14 = .ok (.aload_n 0, 1) := by decide +kernel
theorem dX4_cutAt_15 : decode cX4_cutAt 15 = .ok (.getfield 25, 3) := by decide +kernel
theorem dX4_cutAt_18 : decode cX4_cutAt 18 = .ok (.invokestatic 39, 3) := by decide +kernel
theorem dX4_cutAt_21 : decode cX4_cutAt 21 = .ok (.goto 4, 3) := by decide +kernel
theorem dX4_cutAt_24 : decode cX4_cutAt 24 = .ok (.lconst 0, 1) := by decide +kernel
theorem dX4_cutAt_25 : decode cX4_cutAt 25 = .ok (.lreturn, 1) := by decide +kernel
theorem dX4_missUpper_0 : decode cX4_missUpper 0 = .ok (.aload_n 0, 1) := by decide +kernel
theorem dX4_missUpper_1 : decode cX4_missUpper 1 = .ok (.getfield 25, 3) := by decide +kernel
theorem dX4_missUpper_4 : decode cX4_missUpper 4 = .ok (.aload_n 0, 1) := by decide +kernel
theorem dX4_missUpper_5 : decode cX4_missUpper 5 = .ok (.getfield 45, 3) := by decide +kernel
theorem dX4_missUpper_8 : decode cX4_missUpper 8 = .ok (.lmul, 1) := by decide +kernel
theorem dX4_missUpper_9 : decode cX4_missUpper 9 = .ok (.aload_n 0, 1) := by decide +kernel
theorem dX4_missUpper_10 : decode cX4_missUpper 10 = .ok (.getfield 32, 3) := by decide +kernel
theorem dX4_missUpper_13 : decode cX4_missUpper 13 = .ok (.aload_n 0, 1) := by decide +kernel
theorem dX4_missUpper_14 : decode cX4_missUpper 14 = .ok (.getfield 32, 3) := by decide +kernel
theorem dX4_missUpper_17 : decode cX4_missUpper 17 = .ok (.lmul, 1) := by decide +kernel
theorem dX4_missUpper_18 : decode cX4_missUpper 18 = .ok (.lsub, 1) := by decide +kernel
theorem dX4_missUpper_19 : decode cX4_missUpper 19 = .ok (.lreturn, 1) := by decide +kernel
theorem dX4_missLower_0 : decode cX4_missLower 0 = .ok (.aload_n 0, 1) := by decide +kernel
theorem dX4_missLower_1 : decode cX4_missLower 1 = .ok (.getfield 25, 3) := by decide +kernel
theorem dX4_missLower_4 : decode cX4_missLower 4 = .ok (.aload_n 0, 1) := by decide +kernel
theorem dX4_missLower_5 : decode cX4_missLower 5 = .ok (.getfield 18, 3) := by decide +kernel
theorem dX4_missLower_8 : decode cX4_missLower 8 = .ok (.i2l, 1) := by decide +kernel
theorem dX4_missLower_9 : decode cX4_missLower 9 = .ok (.lmul, 1) := by decide +kernel
theorem dX4_missLower_10 : decode cX4_missLower 10 = .ok (.lreturn, 1) := by decide +kernel
theorem dX4_worst_0 : decode cX4_worst 0 = .ok (.aload_n 0, 1) := by decide +kernel
theorem dX4_worst_1 : decode cX4_worst 1 = .ok (.getfield 48, 3) := by decide +kernel
theorem dX4_worst_4 : decode cX4_worst 4 = .ok (.lreturn, 1) := by decide +kernel
set_option maxRecDepth 20000 in
theorem ggX4_fit_X4_measureWorst : GoodIn wsX4_fit wsX4_measureWorst := goodIn_sub (fw_c (fw_t (fw_l (fw_t (fw_t (fw_t (fw_t (fw_t (fw_t (fw_t (fw_t (fw_t (fw_t (fw_t fw_h))))))))))))) (fw_a (fw_c (fw_t (fw_l (fw_t (fw_t (fw_t (fw_t (fw_t (fw_t (fw_t (fw_t (fw_t (fw_t (fw_t (fw_t fw_h)))))))))))))) (fw_c (fw_t (fw_l (fw_t (fw_t (fw_t fw_h))))) (fw_c (fw_t (fw_l fw_h)) (fw_c (fw_t (fw_l (fw_t (fw_t fw_h)))) (fw_c (fw_t (fw_l (fw_t fw_h))) (fw_c (fw_t (fw_l (fw_t (fw_t (fw_t (fw_t (fw_t (fw_t (fw_t (fw_t (fw_t (fw_t (fw_t (fw_t (fw_t fw_h))))))))))))))) (fw_c (fw_t (fw_l (fw_t (fw_t (fw_t (fw_t (fw_t (fw_t (fw_t (fw_t (fw_t (fw_t (fw_t (fw_t (fw_t (fw_t fw_h)))))))))))))))) (fw_c (fw_t (fw_l (fw_t (fw_t (fw_t (fw_t (fw_t (fw_t (fw_t (fw_t (fw_t (fw_t (fw_t (fw_t (fw_t (fw_t (fw_t fw_h))))))))))))))))) (fw_c (fw_t (fw_l (fw_t (fw_t (fw_t (fw_t (fw_t (fw_t (fw_t (fw_t (fw_t (fw_t (fw_t (fw_t (fw_t (fw_t (fw_t (fw_t fw_h)))))))))))))))))) (fw_c (fw_t (fw_l (fw_t (fw_t (fw_t (fw_t (fw_t (fw_t (fw_t (fw_t (fw_t (fw_t (fw_t (fw_t (fw_t (fw_t (fw_t (fw_t (fw_t fw_h))))))))))))))))))) (fw_c (fw_t (fw_l (fw_t (fw_t (fw_t (fw_t (fw_t (fw_t (fw_t (fw_t (fw_t (fw_t (fw_t (fw_t (fw_t (fw_t (fw_t (fw_t (fw_t (fw_t fw_h)))))))))))))))))))) (fw_c (fw_t (fw_l (fw_t (fw_t (fw_t (fw_t (fw_t (fw_t (fw_t (fw_t (fw_t (fw_t (fw_t (fw_t (fw_t (fw_t (fw_t (fw_t (fw_t (fw_t (fw_t fw_h))))))))))))))))))))) (fw_c (fw_t (fw_l (fw_t (fw_t (fw_t (fw_t (fw_t (fw_t (fw_t (fw_t (fw_t (fw_t (fw_t (fw_t (fw_t (fw_t (fw_t (fw_t (fw_t (fw_t (fw_t (fw_t fw_h)))))))))))))))))))))) (fw_c (fw_t (fw_l (fw_t (fw_t (fw_t (fw_t (fw_t (fw_t (fw_t (fw_t (fw_t (fw_t (fw_t (fw_t (fw_t (fw_t (fw_t (fw_t (fw_t (fw_t (fw_t (fw_t (fw_t fw_h))))))))))))))))))))))) (fw_c (fw_t (fw_l (fw_t (fw_t (fw_t (fw_t (fw_t (fw_t (fw_t (fw_t (fw_t (fw_t (fw_t (fw_t (fw_t (fw_t (fw_t (fw_t (fw_t (fw_t (fw_t (fw_t (fw_t (fw_t fw_h)))))))))))))))))))))))) (fw_c (fw_t (fw_l (fw_t (fw_t (fw_t (fw_t (fw_t (fw_t (fw_t (fw_t (fw_t (fw_t fw_h)))))))))))) (fw_c (fw_t (fw_l (fw_t (fw_t (fw_t (fw_t (fw_t (fw_t (fw_t (fw_t (fw_t (fw_t (fw_t (fw_t (fw_t (fw_t (fw_t (fw_t (fw_t (fw_t (fw_t (fw_t (fw_t (fw_t (fw_t fw_h))))))))))))))))))))))))) (fw_c (fw_t (fw_l (fw_t (fw_t (fw_t (fw_t (fw_t (fw_t fw_h)))))))) (fw_c (fw_t (fw_l (fw_t (fw_t (fw_t (fw_t (fw_t fw_h))))))) fw_n))))))))))))))))))) (fun _ h => fw_t (fw_r h)))) (by decide +kernel)
set_option maxRecDepth 20000 in
theorem gX4_fit_X4_measureWorst : GoodIn wsX4_fit (wsV RX4 51 RX4 yX4_measureWorst wsX4_measureWorst) := goodIn_app (goodIn_sub (fw_c (fw_t (fw_l (fw_t (fw_t (fw_t (fw_t (fw_t (fw_t (fw_t fw_h))))))))) (fw_c (fw_t (fw_l (fw_t (fw_t (fw_t (fw_t (fw_t (fw_t (fw_t (fw_t fw_h)))))))))) (fw_c (fw_t (fw_l (fw_t (fw_t (fw_t (fw_t (fw_t (fw_t (fw_t (fw_t (fw_t fw_h))))))))))) (fw_c (fw_t (fw_l (fw_t (fw_t (fw_t (fw_t (fw_t (fw_t (fw_t (fw_t (fw_t (fw_t fw_h)))))))))))) fw_n)))) (by decide +kernel)) ggX4_fit_X4_measureWorst
theorem dX4_fit_0 : decode cX4_fit 0 = .ok (.lconst 0, 1) := by decide +kernel
theorem dX4_fit_1 : decode cX4_fit 1 = .ok (.lstore_n 1, 1) := by decide +kernel
theorem dX4_fit_2 : decode cX4_fit 2 = .ok (.lconst 0, 1) := by decide +kernel
theorem dX4_fit_3 : decode cX4_fit 3 = .ok (.lstore_n 3, 1) := by decide +kernel
theorem dX4_fit_4 : decode cX4_fit 4 = .ok (.lconst 0, 1) := by decide +kernel
theorem dX4_fit_5 : decode cX4_fit 5 = .ok (.lstore 5, 2) := by decide +kernel
theorem dX4_fit_7 : decode cX4_fit 7 = .ok (.lconst 0, 1) := by decide +kernel
theorem dX4_fit_8 : decode cX4_fit 8 = .ok (.lstore 7, 2) := by decide +kernel
theorem dX4_fit_10 : decode cX4_fit 10 = .ok (.lconst 0, 1) := by decide +kernel
theorem dX4_fit_11 : decode cX4_fit 11 = .ok (.lstore 9, 2) := by decide +kernel
theorem dX4_fit_13 : decode cX4_fit 13 = .ok (.iconst 0, 1) := by decide +kernel
theorem dX4_fit_14 : decode cX4_fit 14 = .ok (.istore 11, 2) := by decide +kernel
theorem dX4_fit_16 : decode cX4_fit 16 = .ok (.iload 11, 2) := by decide +kernel
theorem dX4_fit_18 : decode cX4_fit 18 = .ok (.aload_n 0, 1) := by decide +kernel
theorem dX4_fit_19 : decode cX4_fit 19 = .ok (.getfield 18, 3) := by decide +kernel
theorem dX4_fit_22 : decode cX4_fit 22 = .ok (.if_icmp .ge 97, 3) := by decide +kernel
theorem dX4_fit_25 : decode cX4_fit 25 = .ok (.lload_n 1, 1) := by decide +kernel
theorem dX4_fit_26 : decode cX4_fit 26 = .ok (.aload_n 0, 1) := by decide +kernel
theorem dX4_fit_27 : decode cX4_fit 27 = .ok (.getfield 9, 3) := by decide +kernel
theorem dX4_fit_30 : decode cX4_fit 30 = .ok (.iload 11, 2) := by decide +kernel
theorem dX4_fit_32 : decode cX4_fit 32 = .ok (.iaload, 1) := by decide +kernel
theorem dX4_fit_33 : decode cX4_fit 33 = .ok (.i2l, 1) := by decide +kernel
theorem dX4_fit_34 : decode cX4_fit 34 = .ok (.ladd, 1) := by decide +kernel
theorem dX4_fit_35 : decode cX4_fit 35 = .ok (.lstore_n 1, 1) := by decide +kernel
theorem dX4_fit_36 : decode cX4_fit 36 = .ok (.lload_n 3, 1) := by decide +kernel
theorem dX4_fit_37 : decode cX4_fit 37 = .ok (.aload_n 0, 1) := by decide +kernel
theorem dX4_fit_38 : decode cX4_fit 38 = .ok (.getfield 15, 3) := by decide +kernel
theorem dX4_fit_41 : decode cX4_fit 41 = .ok (.iload 11, 2) := by decide +kernel
theorem dX4_fit_43 : decode cX4_fit 43 = .ok (.iaload, 1) := by decide +kernel
theorem dX4_fit_44 : decode cX4_fit 44 = .ok (.i2l, 1) := by decide +kernel
theorem dX4_fit_45 : decode cX4_fit 45 = .ok (.ladd, 1) := by decide +kernel
theorem dX4_fit_46 : decode cX4_fit 46 = .ok (.lstore_n 3, 1) := by decide +kernel
theorem dX4_fit_47 : decode cX4_fit 47 = .ok (.lload 5, 2) := by decide +kernel
theorem dX4_fit_49 : decode cX4_fit 49 = .ok (.aload_n 0, 1) := by decide +kernel
theorem dX4_fit_50 : decode cX4_fit 50 = .ok (.getfield 9, 3) := by decide +kernel
theorem dX4_fit_53 : decode cX4_fit 53 = .ok (.iload 11, 2) := by decide +kernel
theorem dX4_fit_55 : decode cX4_fit 55 = .ok (.iaload, 1) := by decide +kernel
theorem dX4_fit_56 : decode cX4_fit 56 = .ok (.i2l, 1) := by decide +kernel
theorem dX4_fit_57 : decode cX4_fit 57 = .ok (.aload_n 0, 1) := by decide +kernel
theorem dX4_fit_58 : decode cX4_fit 58 = .ok (.getfield 9, 3) := by decide +kernel
theorem dX4_fit_61 : decode cX4_fit 61 = .ok (.iload 11, 2) := by decide +kernel
theorem dX4_fit_63 : decode cX4_fit 63 = .ok (.iaload, 1) := by decide +kernel
theorem dX4_fit_64 : decode cX4_fit 64 = .ok (.i2l, 1) := by decide +kernel
theorem dX4_fit_65 : decode cX4_fit 65 = .ok (.lmul, 1) := by decide +kernel
theorem dX4_fit_66 : decode cX4_fit 66 = .ok (.ladd, 1) := by decide +kernel
theorem dX4_fit_67 : decode cX4_fit 67 = .ok (.lstore 5, 2) := by decide +kernel
theorem dX4_fit_69 : decode cX4_fit 69 = .ok (.lload 7, 2) := by decide +kernel
theorem dX4_fit_71 : decode cX4_fit 71 = .ok (.aload_n 0, 1) := by decide +kernel
theorem dX4_fit_72 : decode cX4_fit 72 = .ok (.getfield 15, 3) := by decide +kernel
theorem dX4_fit_75 : decode cX4_fit 75 = .ok (.iload 11, 2) := by decide +kernel
theorem dX4_fit_77 : decode cX4_fit 77 = .ok (.iaload, 1) := by decide +kernel
theorem dX4_fit_78 : decode cX4_fit 78 = .ok (.i2l, 1) := by decide +kernel
theorem dX4_fit_79 : decode cX4_fit 79 = .ok (.aload_n 0, 1) := by decide +kernel
theorem dX4_fit_80 : decode cX4_fit 80 = .ok (.getfield 15, 3) := by decide +kernel
theorem dX4_fit_83 : decode cX4_fit 83 = .ok (.iload 11, 2) := by decide +kernel
theorem dX4_fit_85 : decode cX4_fit 85 = .ok (.iaload, 1) := by decide +kernel
theorem dX4_fit_86 : decode cX4_fit 86 = .ok (.i2l, 1) := by decide +kernel
theorem dX4_fit_87 : decode cX4_fit 87 = .ok (.lmul, 1) := by decide +kernel
theorem dX4_fit_88 : decode cX4_fit 88 = .ok (.ladd, 1) := by decide +kernel
theorem dX4_fit_89 : decode cX4_fit 89 = .ok (.lstore 7, 2) := by decide +kernel
theorem dX4_fit_91 : decode cX4_fit 91 = .ok (.lload 9, 2) := by decide +kernel
theorem dX4_fit_93 : decode cX4_fit 93 = .ok (.aload_n 0, 1) := by decide +kernel
theorem dX4_fit_94 : decode cX4_fit 94 = .ok (.getfield 9, 3) := by decide +kernel
theorem dX4_fit_97 : decode cX4_fit 97 = .ok (.iload 11, 2) := by decide +kernel
theorem dX4_fit_99 : decode cX4_fit 99 = .ok (.iaload, 1) := by decide +kernel
theorem dX4_fit_100 : decode cX4_fit 100 = .ok (.i2l, 1) := by decide +kernel
theorem dX4_fit_101 : decode cX4_fit 101 = .ok (.aload_n 0, 1) := by decide +kernel
theorem dX4_fit_102 : decode cX4_fit 102 = .ok (.getfield 15, 3) := by decide +kernel
theorem dX4_fit_105 : decode cX4_fit 105 = .ok (.iload 11, 2) := by decide +kernel
theorem dX4_fit_107 : decode cX4_fit 107 = .ok (.iaload, 1) := by decide +kernel
theorem dX4_fit_108 : decode cX4_fit 108 = .ok (.i2l, 1) := by decide +kernel
theorem dX4_fit_109 : decode cX4_fit 109 = .ok (.lmul, 1) := by decide +kernel
theorem dX4_fit_110 : decode cX4_fit 110 = .ok (.ladd, 1) := by decide +kernel
theorem dX4_fit_111 : decode cX4_fit 111 = .ok (.lstore 9, 2) := by decide +kernel
theorem dX4_fit_113 : decode cX4_fit 113 = .ok (.iinc 11 1, 3) := by decide +kernel
theorem dX4_fit_116 : decode cX4_fit 116 = .ok (.goto (-100), 3) := by decide +kernel
theorem dX4_fit_119 : decode cX4_fit 119 = .ok (.aload_n 0, 1) := by decide +kernel
theorem dX4_fit_120 : decode cX4_fit 120 = .ok (.aload_n 0, 1) := by decide +kernel
theorem dX4_fit_121 : decode cX4_fit 121 = .ok (.getfield 18, 3) := by decide +kernel
theorem dX4_fit_124 : decode cX4_fit 124 = .ok (.i2l, 1) := by decide +kernel
theorem dX4_fit_125 : decode cX4_fit 125 = .ok (.lload 5, 2) := by decide +kernel
theorem dX4_fit_127 : decode cX4_fit 127 = .ok (.lmul, 1) := by decide +kernel
theorem dX4_fit_128 : decode cX4_fit 128 = .ok (.lload_n 1, 1) := by decide +kernel
theorem dX4_fit_129 : decode cX4_fit 129 = .ok (.lload_n 1, 1) := by decide +kernel
theorem dX4_fit_130 : decode cX4_fit 130 = .ok (.lmul, 1) := by decide +kernel
theorem dX4_fit_131 : decode cX4_fit 131 = .ok (.lsub, 1) := by decide +kernel
theorem dX4_fit_132 : decode cX4_fit 132 = .ok (.putfield 25, 3) := by decide +kernel
theorem dX4_fit_135 : decode cX4_fit 135 = .ok (.aload_n 0, 1) := by decide +kernel
theorem dX4_fit_136 : decode cX4_fit 136 = .ok (.aload_n 0, 1) := by decide +kernel
theorem dX4_fit_137 : decode cX4_fit 137 = .ok (.getfield 18, 3) := by decide +kernel
theorem dX4_fit_140 : decode cX4_fit 140 = .ok (.i2l, 1) := by decide +kernel
theorem dX4_fit_141 : decode cX4_fit 141 = .ok (.lload 7, 2) := by decide +kernel
theorem dX4_fit_143 : decode cX4_fit 143 = .ok (.lmul, 1) := by decide +kernel
theorem dX4_fit_144 : decode cX4_fit 144 = .ok (.lload_n 3, 1) := by decide +kernel
theorem dX4_fit_145 : decode cX4_fit 145 = .ok (.lload_n 3, 1) := by decide +kernel
theorem dX4_fit_146 : decode cX4_fit 146 = .ok (.lmul, 1) := by decide +kernel
theorem dX4_fit_147 : decode cX4_fit 147 = .ok (.lsub, 1) := by decide +kernel
theorem dX4_fit_148 : decode cX4_fit 148 = .ok (.putfield 45, 3) := by decide +kernel
theorem dX4_fit_151 : decode cX4_fit 151 = .ok (.aload_n 0, 1) := by decide +kernel
theorem dX4_fit_152 : decode cX4_fit 152 = .ok (.aload_n 0, 1) := by decide +kernel
theorem dX4_fit_153 : decode cX4_fit 153 = .ok (.getfield 18, 3) := by decide +kernel
theorem dX4_fit_156 : decode cX4_fit 156 = .ok (.i2l, 1) := by decide +kernel
theorem dX4_fit_157 : decode cX4_fit 157 = .ok (.lload 9, 2) := by decide +kernel
theorem dX4_fit_159 : decode cX4_fit 159 = .ok (.lmul, 1) := by decide +kernel
theorem dX4_fit_160 : decode cX4_fit 160 = .ok (.lload_n 1, 1) := by decide +kernel
theorem dX4_fit_161 : decode cX4_fit 161 = .ok (.lload_n 3, 1) := by decide +kernel
theorem dX4_fit_162 : decode cX4_fit 162 = .ok (.lmul, 1) := by decide +kernel
theorem dX4_fit_163 : decode cX4_fit 163 = .ok (.lsub, 1) := by decide +kernel
theorem dX4_fit_164 : decode cX4_fit 164 = .ok (.putfield 32, 3) := by decide +kernel
theorem dX4_fit_167 : decode cX4_fit 167 = .ok (.aload_n 0, 1) := by decide +kernel
theorem dX4_fit_168 : decode cX4_fit 168 = .ok (.lload_n 3, 1) := by decide +kernel
theorem dX4_fit_169 : decode cX4_fit 169 = .ok (.lload 5, 2) := by decide +kernel
theorem dX4_fit_171 : decode cX4_fit 171 = .ok (.lmul, 1) := by decide +kernel
theorem dX4_fit_172 : decode cX4_fit 172 = .ok (.lload_n 1, 1) := by decide +kernel
theorem dX4_fit_173 : decode cX4_fit 173 = .ok (.lload 9, 2) := by decide +kernel
theorem dX4_fit_175 : decode cX4_fit 175 = .ok (.lmul, 1) := by decide +kernel
theorem dX4_fit_176 : decode cX4_fit 176 = .ok (.lsub, 1) := by decide +kernel
theorem dX4_fit_177 : decode cX4_fit 177 = .ok (.putfield 29, 3) := by decide +kernel
theorem dX4_fit_180 : decode cX4_fit 180 = .ok (.aload_n 0, 1) := by decide +kernel
theorem dX4_fit_181 : decode cX4_fit 181 = .ok (.invokevirtual 51, 3) := by decide +kernel
theorem dX4_fit_184 : decode cX4_fit 184 = .ok (.return_, 1) := by decide +kernel
set_option maxRecDepth 20000 in
theorem ggX4_measureWorst_X4_upperAt : GoodIn wsX4_measureWorst wsX4_upperAt := goodIn_sub (fw_c (fw_t (fw_l (fw_t (fw_t (fw_t (fw_t (fw_t (fw_t (fw_t (fw_t (fw_t (fw_t (fw_t (fw_t (fw_t (fw_t (fw_t (fw_t fw_h)))))))))))))))))) (fw_a (fw_c (fw_t (fw_l (fw_t (fw_t (fw_t (fw_t (fw_t (fw_t (fw_t (fw_t (fw_t (fw_t (fw_t (fw_t (fw_t (fw_t (fw_t (fw_t (fw_t fw_h))))))))))))))))))) (fw_c (fw_t (fw_l (fw_t (fw_t (fw_t (fw_t (fw_t (fw_t (fw_t (fw_t (fw_t (fw_t (fw_t (fw_t (fw_t (fw_t (fw_t (fw_t (fw_t (fw_t fw_h)))))))))))))))))))) fw_n)) (fun _ h => fw_t (fw_r h)))) (by decide +kernel)
set_option maxRecDepth 20000 in
theorem gX4_measureWorst_X4_upperAt : GoodIn wsX4_measureWorst (wsV RX4 35 RX4 yX4_upperAt wsX4_upperAt) := goodIn_app (goodIn_sub (fw_c (fw_t (fw_l (fw_t (fw_t (fw_t (fw_t (fw_t (fw_t (fw_t (fw_t (fw_t (fw_t (fw_t (fw_t fw_h)))))))))))))) (fw_c (fw_t (fw_l (fw_t (fw_t (fw_t (fw_t (fw_t (fw_t (fw_t (fw_t (fw_t (fw_t (fw_t (fw_t (fw_t fw_h))))))))))))))) (fw_c (fw_t (fw_l (fw_t (fw_t (fw_t (fw_t (fw_t (fw_t (fw_t (fw_t (fw_t (fw_t (fw_t (fw_t (fw_t (fw_t fw_h)))))))))))))))) (fw_c (fw_t (fw_l (fw_t (fw_t (fw_t (fw_t (fw_t (fw_t (fw_t (fw_t (fw_t (fw_t (fw_t (fw_t (fw_t (fw_t (fw_t fw_h))))))))))))))))) fw_n)))) (by decide +kernel)) ggX4_measureWorst_X4_upperAt
theorem dX4_measureWorst_0 : decode cX4_measureWorst 0 = .ok (.aload_n 0, 1) := by decide +kernel
theorem dX4_measureWorst_1 : decode cX4_measureWorst 1 = .ok (.lconst 0, 1) := by decide +kernel
theorem dX4_measureWorst_2 : decode cX4_measureWorst 2 = .ok (.putfield 48, 3) := by decide +kernel
theorem dX4_measureWorst_5 : decode cX4_measureWorst 5 = .ok (.aload_n 0, 1) := by decide +kernel
theorem dX4_measureWorst_6 : decode cX4_measureWorst 6 = .ok (.getfield 25, 3) := by decide +kernel
theorem dX4_measureWorst_9 : decode cX4_measureWorst 9 = .ok (.lconst 0, 1) := by decide +kernel
theorem dX4_measureWorst_10 : decode cX4_measureWorst 10 = .ok (.lcmp, 1) := by decide +kernel
theorem dX4_measureWorst_11 : decode cX4_measureWorst 11 = .ok (.ifCond .gt 4, 3) := by decide +kernel
theorem dX4_measureWorst_14 : decode cX4_measureWorst 14 = .ok (.return_, 1) := by decide +kernel
theorem dX4_measureWorst_15 : decode cX4_measureWorst 15 = .ok (.iconst 0, 1) := by decide +kernel
theorem dX4_measureWorst_16 : decode cX4_measureWorst 16 = .ok (.istore_n 1, 1) := by decide +kernel
theorem dX4_measureWorst_17 : decode cX4_measureWorst 17 = .ok (.iload_n 1, 1) := by decide +kernel
theorem dX4_measureWorst_18 : decode cX4_measureWorst 18 = .ok (.aload_n 0, 1) := by decide +kernel
theorem dX4_measureWorst_19 : decode cX4_measureWorst 19 = .ok (.getfield 18, 3) := by decide +kernel
theorem dX4_measureWorst_22 : decode cX4_measureWorst 22 = .ok (.if_icmp .ge 60, 3) := by decide +kernel
theorem dX4_measureWorst_25 : decode cX4_measureWorst 25 = .ok (.aload_n 0, 1) := by decide +kernel
theorem dX4_measureWorst_26 : decode cX4_measureWorst 26 = .ok (.getfield 15, 3) := by decide +kernel
theorem dX4_measureWorst_29 : decode cX4_measureWorst 29 = .ok (.iload_n 1, 1) := by decide +kernel
theorem dX4_measureWorst_30 : decode cX4_measureWorst 30 = .ok (.iaload, 1) := by decide +kernel
theorem dX4_measureWorst_31 : decode cX4_measureWorst 31 = .ok (.i2l, 1) := by decide +kernel
theorem dX4_measureWorst_32 : decode cX4_measureWorst 32 = .ok (.aload_n 0, 1) := by decide +kernel
theorem dX4_measureWorst_33 : decode cX4_measureWorst 33 = .ok (.getfield 25, 3) := by decide +kernel
theorem dX4_measureWorst_36 : decode cX4_measureWorst 36 = .ok (.lmul, 1) := by decide +kernel
theorem dX4_measureWorst_37 : decode cX4_measureWorst 37 = .ok (.aload_n 0, 1) := by decide +kernel
theorem dX4_measureWorst_38 : decode cX4_measureWorst 38 = .ok (.aload_n 0, 1) := by decide +kernel
theorem dX4_measureWorst_39 : decode cX4_measureWorst 39 = .ok (.getfield 9, 3) := by decide +kernel
theorem dX4_measureWorst_42 : decode cX4_measureWorst 42 = .ok (.iload_n 1, 1) := by decide +kernel
theorem dX4_measureWorst_43 : decode cX4_measureWorst 43 = .ok (.iaload, 1) := by decide +kernel
theorem dX4_measureWorst_44 : decode cX4_measureWorst 44 = .ok (.invokevirtual 35, 3) := by decide +kernel
theorem dX4_measureWorst_47 : decode cX4_measureWorst 47 = .ok (.lsub, 1) := by decide +kernel
theorem dX4_measureWorst_48 : decode cX4_measureWorst 48 = .ok (.invokestatic 54, 3) := by decide +kernel
theorem dX4_measureWorst_51 : decode cX4_measureWorst 51 = .ok (.lstore_n 2, 1) := by decide +kernel
theorem dX4_measureWorst_52 : decode cX4_measureWorst 52 = .ok (.aload_n 0, 1) := by decide +kernel
theorem dX4_measureWorst_53 : decode cX4_measureWorst 53 = .ok (.aload_n 0, 1) := by decide +kernel
theorem dX4_measureWorst_54 : decode cX4_measureWorst 54 = .ok (.getfield 48, 3) := by decide +kernel
theorem dX4_measureWorst_57 : decode cX4_measureWorst 57 = .ok (.lload_n 2, 1) := by decide +kernel
theorem dX4_measureWorst_58 : decode cX4_measureWorst 58 = .ok (.aload_n 0, 1) := by decide +kernel
theorem dX4_measureWorst_59 : decode cX4_measureWorst 59 = .ok (.getfield 25, 3) := by decide +kernel
theorem dX4_measureWorst_62 : decode cX4_measureWorst 62 = .ok (.ladd, 1) := by decide +kernel
theorem dX4_measureWorst_63 : decode cX4_measureWorst 63 = .ok (.lconst 1, 1) := by decide +kernel
theorem dX4_measureWorst_64 : decode cX4_measureWorst 64 = .ok (.lsub, 1) := by decide +kernel
theorem dX4_measureWorst_65 : decode cX4_measureWorst 65 = .ok (.aload_n 0, 1) := by decide +kernel
theorem dX4_measureWorst_66 : decode cX4_measureWorst 66 = .ok (.getfield 25, 3) := by decide +kernel
theorem dX4_measureWorst_69 : decode cX4_measureWorst 69 = .ok (.ldiv, 1) := by decide +kernel
theorem dX4_measureWorst_70 : decode cX4_measureWorst 70 = .ok (.invokestatic 58, 3) := by decide +kernel
theorem dX4_measureWorst_73 : decode cX4_measureWorst 73 = .ok (.putfield 48, 3) := by decide +kernel
theorem dX4_measureWorst_76 : decode cX4_measureWorst 76 = .ok (.iinc 1 1, 3) := by decide +kernel
theorem dX4_measureWorst_79 : decode cX4_measureWorst 79 = .ok (.goto (-62), 3) := by decide +kernel
theorem dX4_measureWorst_82 : decode cX4_measureWorst 82 = .ok (.return_, 1) := by decide +kernel
theorem dX5_init_0 : decode cX5_init 0 = .ok (.aload_n 0, 1) := by decide +kernel
theorem dX5_init_1 : decode cX5_init 1 = .ok (.invokespecial 1, 3) := by decide +kernel
theorem dX5_init_4 : decode cX5_init 4 = .ok (.aload_n 0, 1) := by decide +kernel
theorem dX5_init_5 : decode cX5_init 5 = .ok (.aload_n 1, 1) := by decide +kernel
theorem dX5_init_6 : decode cX5_init 6 = .ok (.putfield 7, 3) := by decide +kernel
theorem dX5_init_9 : decode cX5_init 9 = .ok (.aload_n 0, 1) := by decide +kernel
theorem dX5_init_10 : decode cX5_init 10 = .ok (.iload_n 2, 1) := by decide +kernel
theorem dX5_init_11 : decode cX5_init 11 = .ok (.putfield 13, 3) := by decide +kernel
theorem dX5_init_14 : decode cX5_init 14 = .ok (.aload_n 0, 1) := by decide +kernel
theorem dX5_init_15 : decode cX5_init 15 = .ok (.iload_n 3, 1) := by decide +kernel
theorem dX5_init_16 : decode cX5_init 16 = .ok (.putfield 17, 3) := by decide +kernel
theorem dX5_init_19 : decode cX5_init 19 = .ok (.aload_n 0, 1) := by decide +kernel
theorem dX5_init_20 : decode cX5_init 20 = .ok (.iload 4, 2) := by decide +kernel
theorem dX5_init_22 : decode cX5_init 22 = .ok (.putfield 20, 3) := by decide +kernel
theorem dX5_init_25 : decode cX5_init 25 = .ok (.aload_n 0, 1) := by decide +kernel
theorem dX5_init_26 : decode cX5_init 26 = .ok (.iload 5, 2) := by decide +kernel
theorem dX5_init_28 : decode cX5_init 28 = .ok (.putfield 23, 3) := by decide +kernel
theorem dX5_init_31 : decode cX5_init 31 = .ok (.aload_n 0, 1) := by decide +kernel
theorem dX5_init_32 : decode cX5_init 32 = .ok (.iload 6, 2) := by decide +kernel
theorem dX5_init_34 : decode cX5_init 34 = .ok (.putfield 26, 3) := by decide +kernel
theorem dX5_init_37 : decode cX5_init 37 = .ok (.return_, 1) := by decide +kernel
set_option maxRecDepth 20000 in
theorem ggX5_hasSpot_X7_way : GoodIn wsX5_hasSpot wsX7_way := goodIn_sub (fw_c (fw_t (fw_l (fw_l (fw_l (fw_t (fw_t (fw_t (fw_t (fw_t fw_h))))))))) (fw_a (fw_c (fw_t (fw_l (fw_l (fw_l (fw_t (fw_t (fw_t (fw_t (fw_t (fw_t fw_h)))))))))) (fw_c (fw_t (fw_l (fw_l (fw_l (fw_t (fw_t (fw_t (fw_t (fw_t (fw_t (fw_t fw_h))))))))))) fw_n)) (fun _ h => fw_t (fw_l (fw_r h))))) (by decide +kernel)
set_option maxRecDepth 20000 in
theorem gX5_hasSpot_X7_way : GoodIn wsX5_hasSpot (wsV RX5 29 RX7 yX7_way wsX7_way) := goodIn_app (goodIn_sub (fw_c (fw_t (fw_l (fw_l (fw_l (fw_t fw_h))))) (fw_c (fw_t (fw_l (fw_l (fw_l (fw_t (fw_t fw_h)))))) (fw_c (fw_t (fw_l (fw_l (fw_l (fw_t (fw_t (fw_t fw_h))))))) (fw_c (fw_t (fw_l (fw_l (fw_l (fw_t (fw_t (fw_t (fw_t fw_h)))))))) fw_n)))) (by decide +kernel)) ggX5_hasSpot_X7_way
set_option maxRecDepth 20000 in
theorem ggX5_hasSpot_X4_isThere : GoodIn wsX5_hasSpot wsX4_isThere := goodIn_sub (fw_c (fw_t (fw_l (fw_l (fw_l (fw_t (fw_t (fw_t (fw_t (fw_t (fw_t (fw_t (fw_t (fw_t (fw_t (fw_t (fw_t fw_h)))))))))))))))) (fw_a (fw_c (fw_t (fw_l (fw_l (fw_l (fw_t (fw_t (fw_t (fw_t (fw_t (fw_t (fw_t (fw_t (fw_t (fw_t (fw_t (fw_t (fw_t fw_h))))))))))))))))) fw_n) (fun _ h => fw_t (fw_r h)))) (by decide +kernel)
set_option maxRecDepth 20000 in
theorem gX5_hasSpot_X4_isThere : GoodIn wsX5_hasSpot (wsV RX5 35 RX4 yX4_isThere wsX4_isThere) := goodIn_app (goodIn_sub (fw_c (fw_t (fw_l (fw_l (fw_l (fw_t (fw_t (fw_t (fw_t (fw_t (fw_t (fw_t (fw_t fw_h)))))))))))) (fw_c (fw_t (fw_l (fw_l (fw_l (fw_t (fw_t (fw_t (fw_t (fw_t (fw_t (fw_t (fw_t (fw_t fw_h))))))))))))) (fw_c (fw_t (fw_l (fw_l (fw_l (fw_t (fw_t (fw_t (fw_t (fw_t (fw_t (fw_t (fw_t (fw_t (fw_t fw_h)))))))))))))) (fw_c (fw_t (fw_l (fw_l (fw_l (fw_t (fw_t (fw_t (fw_t (fw_t (fw_t (fw_t (fw_t (fw_t (fw_t (fw_t fw_h))))))))))))))) fw_n)))) (by decide +kernel)) ggX5_hasSpot_X4_isThere
theorem dX5_hasSpot_0 : decode cX5_hasSpot 0 = .ok (.aload_n 0, 1) := by decide +kernel
theorem dX5_hasSpot_1 : decode cX5_hasSpot 1 = .ok (.getfield 7, 3) := by decide +kernel
theorem dX5_hasSpot_4 : decode cX5_hasSpot 4 = .ok (.iload_n 1, 1) := by decide +kernel
theorem dX5_hasSpot_5 : decode cX5_hasSpot 5 = .ok (.invokevirtual 29, 3) := by decide +kernel
theorem dX5_hasSpot_8 : decode cX5_hasSpot 8 = .ok (.invokevirtual 35, 3) := by decide +kernel
