theorem dX12_init_0 : decode cX12_init 0 = .ok (.aload_n 0, 1) := by decide +kernel
theorem dX12_init_1 : decode cX12_init 1 = .ok (.invokespecial 3, 3) := by decide +kernel
theorem dX12_init_4 : decode cX12_init 4 = .ok (.aload_n 0, 1) := by decide +kernel
theorem dX12_init_5 : decode cX12_init 5 = .ok (.sipush 598, 3) := by decide +kernel
theorem dX12_init_8 : decode cX12_init 8 = .ok (.newarray .int, 2) := by decide +kernel
theorem dX12_init_10 : decode cX12_init 10 = .ok (.putfield 9, 3) := by decide +kernel
theorem dX12_init_13 : decode cX12_init 13 = .ok (.aload_n 0, 1) := by decide +kernel
theorem dX12_init_14 : decode cX12_init 14 = .ok (.sipush 11960, 3) := by decide +kernel
theorem dX12_init_17 : decode cX12_init 17 = .ok (.newarray .int, 2) := by decide +kernel
theorem dX12_init_19 : decode cX12_init 19 = .ok (.putfield 13, 3) := by decide +kernel
theorem dX12_init_22 : decode cX12_init 22 = .ok (.aload_n 0, 1) := by decide +kernel
theorem dX12_init_23 : decode cX12_init 23 = .ok (.iconst 4, 1) := by decide +kernel
theorem dX12_init_24 : decode cX12_init 24 = .ok (.newarray .int, 2) := by decide +kernel
theorem dX12_init_26 : decode cX12_init 26 = .ok (.putfield 16, 3) := by decide +kernel
theorem dX12_init_29 : decode cX12_init 29 = .ok (.aload_n 0, 1) := by decide +kernel
theorem dX12_init_30 : decode cX12_init 30 = .ok (.iconst 4, 1) := by decide +kernel
theorem dX12_init_31 : decode cX12_init 31 = .ok (.newarray .int, 2) := by decide +kernel
theorem dX12_init_33 : decode cX12_init 33 = .ok (.putfield 19, 3) := by decide +kernel
theorem dX12_init_36 : decode cX12_init 36 = .ok (.aload_n 0, 1) := by decide +kernel
theorem dX12_init_37 : decode cX12_init 37 = .ok (.bipush 64, 2) := by decide +kernel
theorem dX12_init_39 : decode cX12_init 39 = .ok (.newarray .int, 2) := by decide +kernel
theorem dX12_init_41 : decode cX12_init 41 = .ok (.putfield 22, 3) := by decide +kernel
theorem dX12_init_44 : decode cX12_init 44 = .ok (.aload_n 0, 1) := by decide +kernel
theorem dX12_init_45 : decode cX12_init 45 = .ok (.bipush 20, 2) := by decide +kernel
theorem dX12_init_47 : decode cX12_init 47 = .ok (.newarray .long, 2) := by decide +kernel
theorem dX12_init_49 : decode cX12_init 49 = .ok (.putfield 25, 3) := by decide +kernel
theorem dX12_init_52 : decode cX12_init 52 = .ok (.aload_n 0, 1) := by decide +kernel
theorem dX12_init_53 : decode cX12_init 53 = .ok (.bipush 20, 2) := by decide +kernel
theorem dX12_init_55 : decode cX12_init 55 = .ok (.newarray .long, 2) := by decide +kernel
theorem dX12_init_57 : decode cX12_init 57 = .ok (.putfield 29, 3) := by decide +kernel
theorem dX12_init_60 : decode cX12_init 60 = .ok (.aload_n 0, 1) := by decide +kernel
theorem dX12_init_61 : decode cX12_init 61 = .ok (.bipush 20, 2) := by decide +kernel
theorem dX12_init_63 : decode cX12_init 63 = .ok (.newarray .long, 2) := by decide +kernel
theorem dX12_init_65 : decode cX12_init 65 = .ok (.putfield 32, 3) := by decide +kernel
theorem dX12_init_68 : decode cX12_init 68 = .ok (.aload_n 0, 1) := by decide +kernel
theorem dX12_init_69 : decode cX12_init 69 = .ok (.bipush 20, 2) := by decide +kernel
theorem dX12_init_71 : decode cX12_init 71 = .ok (.newarray .int, 2) := by decide +kernel
theorem dX12_init_73 : decode cX12_init 73 = .ok (.putfield 35, 3) := by decide +kernel
theorem dX12_init_76 : decode cX12_init 76 = .ok (.aload_n 0, 1) := by decide +kernel
theorem dX12_init_77 : decode cX12_init 77 = .ok (.bipush 8, 2) := by decide +kernel
theorem dX12_init_79 : decode cX12_init 79 = .ok (.newarray .int, 2) := by decide +kernel
theorem dX12_init_81 : decode cX12_init 81 = .ok (.putfield 38, 3) := by decide +kernel
theorem dX12_init_84 : decode cX12_init 84 = .ok (.aload_n 0, 1) := by decide +kernel
theorem dX12_init_85 : decode cX12_init 85 = .ok (.bipush 16, 2) := by decide +kernel
theorem dX12_init_87 : decode cX12_init 87 = .ok (.newarray .int, 2) := by decide +kernel
theorem dX12_init_89 : decode cX12_init 89 = .ok (.putfield 41, 3) := by decide +kernel
theorem dX12_init_92 : decode cX12_init 92 = .ok (.iconst 0, 1) := by decide +kernel
theorem dX12_init_93 : decode cX12_init 93 = .ok (.istore_n 1, 1) := by decide +kernel
theorem dX12_init_94 : decode cX12_init 94 = .ok (.iload_n 1, 1) := by decide +kernel
theorem dX12_init_95 : decode cX12_init 95 = .ok (.bipush 64, 2) := by decide +kernel
theorem dX12_init_97 : decode cX12_init 97 = .ok (.if_icmp .ge 37, 3) := by decide +kernel
theorem dX12_init_100 : decode cX12_init 100 = .ok (.aload_n 0, 1) := by decide +kernel
theorem dX12_init_101 : decode cX12_init 101 = .ok (.getfield 9, 3) := by decide +kernel
theorem dX12_init_104 : decode cX12_init 104 = .ok (.sipush 470, 3) := by decide +kernel
theorem dX12_init_107 : decode cX12_init 107 = .ok (.iconst 2, 1) := by decide +kernel
theorem dX12_init_108 : decode cX12_init 108 = .ok (.iload_n 1, 1) := by decide +kernel
theorem dX12_init_109 : decode cX12_init 109 = .ok (.imul, 1) := by decide +kernel
theorem dX12_init_110 : decode cX12_init 110 = .ok (.iadd, 1) := by decide +kernel
theorem dX12_init_111 : decode cX12_init 111 = .ok (.iconst 1, 1) := by decide +kernel
theorem dX12_init_112 : decode cX12_init 112 = .ok (.iastore, 1) := by decide +kernel
theorem dX12_init_113 : decode cX12_init 113 = .ok (.aload_n 0, 1) := by decide +kernel
theorem dX12_init_114 : decode cX12_init 114 = .ok (.getfield 9, 3) := by decide +kernel
theorem dX12_init_117 : decode cX12_init 117 = .ok (.sipush 470, 3) := by decide +kernel
theorem dX12_init_120 : decode cX12_init 120 = .ok (.iconst 2, 1) := by decide +kernel
theorem dX12_init_121 : decode cX12_init 121 = .ok (.iload_n 1, 1) := by decide +kernel
theorem dX12_init_122 : decode cX12_init 122 = .ok (.imul, 1) := by decide +kernel
theorem dX12_init_123 : decode cX12_init 123 = .ok (.iadd, 1) := by decide +kernel
theorem dX12_init_124 : decode cX12_init 124 = .ok (.iconst 1, 1) := by decide +kernel
theorem dX12_init_125 : decode cX12_init 125 = .ok (.iadd, 1) := by decide +kernel
theorem dX12_init_126 : decode cX12_init 126 = .ok (.iconst 2, 1) := by decide +kernel
theorem dX12_init_127 : decode cX12_init 127 = .ok (.iastore, 1) := by decide +kernel
theorem dX12_init_128 : decode cX12_init 128 = .ok (.iinc 1 1, 3) := by decide +kernel
theorem dX12_init_131 : decode cX12_init 131 = .ok (.goto (-37), 3) := by decide +kernel
theorem dX12_init_134 : decode cX12_init 134 = .ok (.return_, 1) := by decide +kernel
theorem dX12_in_0 : decode cX12_in 0 = .ok (.iload_n 0, 1) := by decide +kernel
theorem dX12_in_1 : decode cX12_in 1 = .ok (.iload_n 1, 1) := by decide +kernel
theorem dX12_in_2 : decode cX12_in 2 = .ok (.if_icmp .lt 12, 3) := by decide +kernel
theorem dX12_in_5 : decode cX12_in 5 = .ok (.iload_n 0, 1) := by decide +kernel
theorem dX12_in_6 : decode cX12_in 6 = .ok (.iload_n 2, 1) := by decide +kernel
theorem dX12_in_7 : decode cX12_in 7 = .ok (.if_icmp .gt 7, 3) := by decide +kernel
theorem dX12_in_10 : decode cX12_in 10 = .ok (.iconst 1, 1) := by decide +kernel
theorem dX12_in_11 : decode cX12_in 11 = .ok (.goto 4, 3) := by decide +kernel
theorem dX12_in_14 : decode cX12_in 14 = .ok (.iconst 0, 1) := by decide +kernel
theorem dX12_in_15 : decode cX12_in 15 = .ok (.ireturn, 1) := by decide +kernel
theorem dX12_finds_0 : decode cX12_finds 0 = .ok (.aload_n 0, 1) := by decide +kernel
theorem dX12_finds_1 : decode cX12_finds 1 = .ok (.dup, 1) := by decide +kernel
theorem dX12_finds_2 : decode cX12_finds 2 = .ok (.getfield 44, 3) := by decide +kernel
theorem dX12_finds_5 : decode cX12_finds 5 = .ok (.iconst 1, 1) := by decide +kernel
theorem dX12_finds_6 : decode cX12_finds 6 = .ok (.iadd, 1) := by decide +kernel
theorem dX12_finds_7 : decode cX12_finds 7 = .ok (.putfield 44, 3) := by decide +kernel
theorem dX12_finds_10 : decode cX12_finds 10 = .ok (.lload_n 1, 1) := by decide +kernel
theorem dX12_finds_11 : decode cX12_finds 11 = .ok (.lreturn, 1) := by decide +kernel
theorem dX12_keep_0 : decode cX12_keep 0 = .ok (.iconst 0, 1) := by decide +kernel
theorem dX12_keep_1 : decode cX12_keep 1 = .ok (.istore_n 1, 1) := by decide +kernel
theorem dX12_keep_2 : decode cX12_keep 2 = .ok (.iload_n 1, 1) := by decide +kernel
theorem dX12_keep_3 : decode cX12_keep 3 = .ok (.sipush 598, 3) := by decide +kernel
theorem dX12_keep_6 : decode cX12_keep 6 = .ok (.if_icmp .ge 30, 3) := by decide +kernel
theorem dX12_keep_9 : decode cX12_keep 9 = .ok (.aload_n 0, 1) := by decide +kernel
theorem dX12_keep_10 : decode cX12_keep 10 = .ok (.getfield 13, 3) := by decide +kernel
theorem dX12_keep_13 : decode cX12_keep 13 = .ok (.sipush 598, 3) := by decide +kernel
theorem dX12_keep_16 : decode cX12_keep 16 = .ok (.aload_n 0, 1) := by decide +kernel
theorem dX12_keep_17 : decode cX12_keep 17 = .ok (.getfield 48, 3) := by decide +kernel
theorem dX12_keep_20 : decode cX12_keep 20 = .ok (.imul, 1) := by decide +kernel
theorem dX12_keep_21 : decode cX12_keep 21 = .ok (.iload_n 1, 1) := by decide +kernel
theorem dX12_keep_22 : decode cX12_keep 22 = .ok (.iadd, 1) := by decide +kernel
theorem dX12_keep_23 : decode cX12_keep 23 = .ok (.aload_n 0, 1) := by decide +kernel
theorem dX12_keep_24 : decode cX12_keep 24 = .ok (.getfield 9, 3) := by decide +kernel
theorem dX12_keep_27 : decode cX12_keep 27 = .ok (.iload_n 1, 1) := by decide +kernel
theorem dX12_keep_28 : decode cX12_keep 28 = .ok (.iaload, 1) := by decide +kernel
theorem dX12_keep_29 : decode cX12_keep 29 = .ok (.iastore, 1) := by decide +kernel
theorem dX12_keep_30 : decode cX12_keep 30 = .ok (.iinc 1 1, 3) := by decide +kernel
theorem dX12_keep_33 : decode cX12_keep 33 = .ok (.goto (-31), 3) := by decide +kernel
theorem dX12_keep_36 : decode cX12_keep 36 = .ok (.aload_n 0, 1) := by decide +kernel
theorem dX12_keep_37 : decode cX12_keep 37 = .ok (.aload_n 0, 1) := by decide +kernel
theorem dX12_keep_38 : decode cX12_keep 38 = .ok (.getfield 48, 3) := by decide +kernel
theorem dX12_keep_41 : decode cX12_keep 41 = .ok (.iconst 1, 1) := by decide +kernel
theorem dX12_keep_42 : decode cX12_keep 42 = .ok (.iadd, 1) := by decide +kernel
theorem dX12_keep_43 : decode cX12_keep 43 = .ok (.bipush 20, 2) := by decide +kernel
theorem dX12_keep_45 : decode cX12_keep 45 = .ok (.irem, 1) := by decide +kernel
theorem dX12_keep_46 : decode cX12_keep 46 = .ok (.putfield 48, 3) := by decide +kernel
theorem dX12_keep_49 : decode cX12_keep 49 = .ok (.aload_n 0, 1) := by decide +kernel
theorem dX12_keep_50 : decode cX12_keep 50 = .ok (.aload_n 0, 1) := by decide +kernel
theorem dX12_keep_51 : decode cX12_keep 51 = .ok (.getfield 51, 3) := by decide +kernel
theorem dX12_keep_54 : decode cX12_keep 54 = .ok (.bipush 20, 2) := by decide +kernel
theorem dX12_keep_56 : decode cX12_keep 56 = .ok (.if_icmp .ge 12, 3) := by decide +kernel
theorem dX12_keep_59 : decode cX12_keep 59 = .ok (.aload_n 0, 1) := by decide +kernel
theorem dX12_keep_60 : decode cX12_keep 60 = .ok (.getfield 51, 3) := by decide +kernel
theorem dX12_keep_63 : decode cX12_keep 63 = .ok (.iconst 1, 1) := by decide +kernel
theorem dX12_keep_64 : decode cX12_keep 64 = .ok (.iadd, 1) := by decide +kernel
theorem dX12_keep_65 : decode cX12_keep 65 = .ok (.goto 5, 3) := by decide +kernel
theorem dX12_keep_68 : decode cX12_keep 68 = .ok (.bipush 20, 2) := by decide +kernel
theorem dX12_keep_70 : decode cX12_keep 70 = .ok (.putfield 51, 3) := by decide +kernel
theorem dX12_keep_73 : decode cX12_keep 73 = .ok (.return_, 1) := by decide +kernel
set_option maxRecDepth 20000 in
theorem ggX12_undo_X12_finds : GoodIn wsX12_undo wsX12_finds := goodIn_sub (fw_c (fw_t (fw_l (fw_t (fw_t (fw_t (fw_t (fw_t (fw_t (fw_t (fw_t (fw_t fw_h))))))))))) (fw_a (fw_c (fw_t (fw_l (fw_t (fw_t (fw_t (fw_t (fw_t (fw_t (fw_t (fw_t (fw_t (fw_t fw_h)))))))))))) fw_n) (fun _ h => fw_t (fw_r h)))) (by decide +kernel)
set_option maxRecDepth 20000 in
theorem gX12_undo_X12_finds : GoodIn wsX12_undo (wsV RX12 56 RX12 yX12_finds wsX12_finds) := goodIn_app (goodIn_sub (fw_c (fw_t (fw_l (fw_t (fw_t (fw_t (fw_t (fw_t fw_h))))))) (fw_c (fw_t (fw_l (fw_t (fw_t (fw_t (fw_t (fw_t (fw_t fw_h)))))))) (fw_c (fw_t (fw_l (fw_t (fw_t (fw_t (fw_t (fw_t (fw_t (fw_t fw_h))))))))) (fw_c (fw_t (fw_l (fw_t (fw_t (fw_t (fw_t (fw_t (fw_t (fw_t (fw_t fw_h)))))))))) fw_n)))) (by decide +kernel)) ggX12_undo_X12_finds
theorem dX12_undo_0 : decode cX12_undo 0 = .ok (.aload_n 0, 1) := by decide +kernel
theorem dX12_undo_1 : decode cX12_undo 1 = .ok (.getfield 51, 3) := by decide +kernel
theorem dX12_undo_4 : decode cX12_undo 4 = .ok (.ifCond .ne 11, 3) := by decide +kernel
theorem dX12_undo_7 : decode cX12_undo 7 = .ok (.aload_n 0, 1) := by decide +kernel
theorem dX12_undo_8 : decode cX12_undo 8 = .ok (.ldc2_w 54, 3) := by decide +kernel
theorem dX12_undo_11 : decode cX12_undo 11 = .ok (.invokevirtual 56, 3) := by decide +kernel
theorem dX12_undo_14 : decode cX12_undo 14 = .ok (.lreturn, 1) := by decide +kernel
theorem dX12_undo_15 : decode cX12_undo 15 = .ok (.aload_n 0, 1) := by decide +kernel
theorem dX12_undo_16 : decode cX12_undo 16 = .ok (.aload_n 0, 1) := by decide +kernel
theorem dX12_undo_17 : decode cX12_undo 17 = .ok (.getfield 48, 3) := by decide +kernel
theorem dX12_undo_20 : decode cX12_undo 20 = .ok (.bipush 20, 2) := by decide +kernel
theorem dX12_undo_22 : decode cX12_undo 22 = .ok (.iadd, 1) := by decide +kernel
theorem dX12_undo_23 : decode cX12_undo 23 = .ok (.iconst 1, 1) := by decide +kernel
theorem dX12_undo_24 : decode cX12_undo 24 = .ok (.isub, 1) := by decide +kernel
theorem dX12_undo_25 : decode cX12_undo 25 = .ok (.bipush 20, 2) := by decide +kernel
theorem dX12_undo_27 : decode cX12_undo 27 = .ok (.irem, 1) := by decide +kernel
theorem dX12_undo_28 : decode cX12_undo 28 = .ok (.putfield 48, 3) := by decide +kernel
theorem dX12_undo_31 : decode cX12_undo 31 = .ok (.aload_n 0, 1) := by decide +kernel
theorem dX12_undo_32 : decode cX12_undo 32 = .ok (.dup, 1) := by decide +kernel
theorem dX12_undo_33 : decode cX12_undo 33 = .ok (.getfield 51, 3) := by decide +kernel
theorem dX12_undo_36 : decode cX12_undo 36 = .ok (.iconst 1, 1) := by decide +kernel
theorem dX12_undo_37 : decode cX12_undo 37 = .ok (.isub, 1) := by decide +kernel
theorem dX12_undo_38 : decode cX12_undo 38 = .ok (.putfield 51, 3) := by decide +kernel
theorem dX12_undo_41 : decode cX12_undo 41 = .ok (.iconst 0, 1) := by decide +kernel
theorem dX12_undo_42 : decode cX12_undo 42 = .ok (.istore_n 1, 1) := by decide +kernel
theorem dX12_undo_43 : decode cX12_undo 43 = .ok (.iload_n 1, 1) := by decide +kernel
theorem dX12_undo_44 : decode cX12_undo 44 = .ok (.sipush 598, 3) := by decide +kernel
theorem dX12_undo_47 : decode cX12_undo 47 = .ok (.if_icmp .ge 30, 3) := by decide +kernel
theorem dX12_undo_50 : decode cX12_undo 50 = .ok (.aload_n 0, 1) := by decide +kernel
theorem dX12_undo_51 : decode cX12_undo 51 = .ok (.getfield 9, 3) := by decide +kernel
theorem dX12_undo_54 : decode cX12_undo 54 = .ok (.iload_n 1, 1) := by decide +kernel
theorem dX12_undo_55 : decode cX12_undo 55 = .ok (.aload_n 0, 1) := by decide +kernel
theorem dX12_undo_56 : decode cX12_undo 56 = .ok (.getfield 13, 3) := by decide +kernel
theorem dX12_undo_59 : decode cX12_undo 59 = .ok (.sipush 598, 3) := by decide +kernel
theorem dX12_undo_62 : decode cX12_undo 62 = .ok (.aload_n 0, 1) := by decide +kernel
theorem dX12_undo_63 : decode cX12_undo 63 = .ok (.getfield 48, 3) := by decide +kernel
theorem dX12_undo_66 : decode cX12_undo 66 = .ok (.imul, 1) := by decide +kernel
theorem dX12_undo_67 : decode cX12_undo 67 = .ok (.iload_n 1, 1) := by decide +kernel
theorem dX12_undo_68 : decode cX12_undo 68 = .ok (.iadd, 1) := by decide +kernel
theorem dX12_undo_69 : decode cX12_undo 69 = .ok (.iaload, 1) := by decide +kernel
theorem dX12_undo_70 : decode cX12_undo 70 = .ok (.iastore, 1) := by decide +kernel
theorem dX12_undo_71 : decode cX12_undo 71 = .ok (.iinc 1 1, 3) := by decide +kernel
theorem dX12_undo_74 : decode cX12_undo 74 = .ok (.goto (-31), 3) := by decide +kernel
theorem dX12_undo_77 : decode cX12_undo 77 = .ok (.aload_n 0, 1) := by decide +kernel
theorem dX12_undo_78 : decode cX12_undo 78 = .ok (.getfield 51, 3) := by decide +kernel
theorem dX12_undo_81 : decode cX12_undo 81 = .ok (.i2l, 1) := by decide +kernel
theorem dX12_undo_82 : decode cX12_undo 82 = .ok (.lreturn, 1) := by decide +kernel
set_option maxRecDepth 20000 in
theorem ggX12_isPicture_X12_in : GoodIn wsX12_isPicture wsX12_in := goodIn_sub (fw_c (fw_t (fw_l (fw_t (fw_t (fw_t (fw_t fw_h)))))) (fw_n)) (by decide +kernel)
set_option maxRecDepth 20000 in
theorem gX12_isPicture_X12_in : GoodIn wsX12_isPicture (va_wsS RX12 60 yX12_in wsX12_in) := goodIn_app (goodIn_sub (fw_c (fw_t (fw_l (fw_t fw_h))) (fw_c (fw_t (fw_l (fw_t (fw_t fw_h)))) (fw_c (fw_t (fw_l (fw_t (fw_t (fw_t fw_h))))) fw_n))) (by decide +kernel)) ggX12_isPicture_X12_in
theorem dX12_isPicture_0 : decode cX12_isPicture 0 = .ok (.iload_n 1, 1) := by decide +kernel
theorem dX12_isPicture_1 : decode cX12_isPicture 1 = .ok (.iconst 0, 1) := by decide +kernel
theorem dX12_isPicture_2 : decode cX12_isPicture 2 = .ok (.aload_n 0, 1) := by decide +kernel
theorem dX12_isPicture_3 : decode cX12_isPicture 3 = .ok (.getfield 9, 3) := by decide +kernel
theorem dX12_isPicture_6 : decode cX12_isPicture 6 = .ok (.iconst 0, 1) := by decide +kernel
theorem dX12_isPicture_7 : decode cX12_isPicture 7 = .ok (.iaload, 1) := by decide +kernel
theorem dX12_isPicture_8 : decode cX12_isPicture 8 = .ok (.iconst 1, 1) := by decide +kernel
theorem dX12_isPicture_9 : decode cX12_isPicture 9 = .ok (.isub, 1) := by decide +kernel
theorem dX12_isPicture_10 : decode cX12_isPicture 10 = .ok (.invokestatic 60, 3) := by decide +kernel
theorem dX12_isPicture_13 : decode cX12_isPicture 13 = .ok (.ireturn, 1) := by decide +kernel
set_option maxRecDepth 20000 in
theorem ggX12_isNumber_X12_in : GoodIn wsX12_isNumber wsX12_in := goodIn_sub (fw_c (fw_t (fw_t (fw_t (fw_t fw_h)))) (fw_n)) (by decide +kernel)
set_option maxRecDepth 20000 in
theorem gX12_isNumber_X12_in : GoodIn wsX12_isNumber (va_wsS RX12 60 yX12_in wsX12_in) := goodIn_app (goodIn_sub (fw_c (fw_t fw_h) (fw_c (fw_t (fw_t fw_h)) (fw_c (fw_t (fw_t (fw_t fw_h))) fw_n))) (by decide +kernel)) ggX12_isNumber_X12_in
theorem dX12_isNumber_0 : decode cX12_isNumber 0 = .ok (.iload_n 0, 1) := by decide +kernel
theorem dX12_isNumber_1 : decode cX12_isNumber 1 = .ok (.iconst 0, 1) := by decide +kernel
theorem dX12_isNumber_2 : decode cX12_isNumber 2 = .ok (.sipush 999, 3) := by decide +kernel
theorem dX12_isNumber_5 : decode cX12_isNumber 5 = .ok (.invokestatic 60, 3) := by decide +kernel
theorem dX12_isNumber_8 : decode cX12_isNumber 8 = .ok (.ireturn, 1) := by decide +kernel
set_option maxRecDepth 20000 in
theorem ggX12_picture_X12_finds : GoodIn wsX12_picture wsX12_finds := goodIn_sub (fw_c (fw_t (fw_l (fw_t (fw_t (fw_t (fw_t (fw_t (fw_t fw_h)))))))) (fw_a (fw_c (fw_t (fw_l (fw_t (fw_t (fw_t (fw_t (fw_t (fw_t (fw_t fw_h))))))))) fw_n) (fun _ h => fw_t (fw_r h)))) (by decide +kernel)
set_option maxRecDepth 20000 in
theorem gX12_picture_X12_finds : GoodIn wsX12_picture (wsV RX12 56 RX12 yX12_finds wsX12_finds) := goodIn_app (goodIn_sub (fw_c (fw_t (fw_l (fw_t (fw_t fw_h)))) (fw_c (fw_t (fw_l (fw_t (fw_t (fw_t fw_h))))) (fw_c (fw_t (fw_l (fw_t (fw_t (fw_t (fw_t fw_h)))))) (fw_c (fw_t (fw_l (fw_t (fw_t (fw_t (fw_t (fw_t fw_h))))))) fw_n)))) (by decide +kernel)) ggX12_picture_X12_finds
set_option maxRecDepth 20000 in
theorem ggX12_picture_X12_keep : GoodIn wsX12_picture wsX12_keep := goodIn_sub (fw_c (fw_t (fw_l (fw_t (fw_t (fw_t (fw_t (fw_t (fw_t (fw_t (fw_t (fw_t (fw_t (fw_t fw_h))))))))))))) (fw_a (fw_c (fw_t (fw_l (fw_t (fw_t (fw_t (fw_t (fw_t (fw_t (fw_t (fw_t (fw_t (fw_t (fw_t (fw_t fw_h)))))))))))))) (fw_c (fw_t (fw_l (fw_t (fw_t (fw_t (fw_t (fw_t (fw_t (fw_t (fw_t (fw_t (fw_t (fw_t (fw_t (fw_t fw_h))))))))))))))) (fw_c (fw_t (fw_l fw_h)) (fw_c (fw_t (fw_l (fw_t (fw_t (fw_t (fw_t (fw_t (fw_t (fw_t (fw_t (fw_t (fw_t (fw_t (fw_t (fw_t (fw_t fw_h)))))))))))))))) fw_n)))) (fun _ h => fw_t (fw_r h)))) (by decide +kernel)
set_option maxRecDepth 20000 in
theorem gX12_picture_X12_keep : GoodIn wsX12_picture (wsV RX12 66 RX12 yX12_keep wsX12_keep) := goodIn_app (goodIn_sub (fw_c (fw_t (fw_l (fw_t (fw_t (fw_t (fw_t (fw_t (fw_t (fw_t (fw_t fw_h)))))))))) (fw_c (fw_t (fw_l (fw_t (fw_t (fw_t (fw_t (fw_t (fw_t (fw_t (fw_t (fw_t fw_h))))))))))) (fw_c (fw_t (fw_l (fw_t (fw_t (fw_t (fw_t (fw_t (fw_t (fw_t (fw_t (fw_t (fw_t fw_h)))))))))))) (fw_c (fw_t (fw_l (fw_t (fw_t (fw_t (fw_t (fw_t fw_h))))))) fw_n)))) (by decide +kernel)) ggX12_picture_X12_keep
theorem dX12_picture_0 : decode cX12_picture 0 = .ok (.aload_n 0, 1) := by decide +kernel
theorem dX12_picture_1 : decode cX12_picture 1 = .ok (.getfield 9, 3) := by decide +kernel
theorem dX12_picture_4 : decode cX12_picture 4 = .ok (.iconst 0, 1) := by decide +kernel
theorem dX12_picture_5 : decode cX12_picture 5 = .ok (.iaload, 1) := by decide +kernel
theorem dX12_picture_6 : decode cX12_picture 6 = .ok (.bipush 6, 2) := by decide +kernel
theorem dX12_picture_8 : decode cX12_picture 8 = .ok (.if_icmp .ne 11, 3) := by decide +kernel
theorem dX12_picture_11 : decode cX12_picture 11 = .ok (.aload_n 0, 1) := by decide +kernel
theorem dX12_picture_12 : decode cX12_picture 12 = .ok (.ldc2_w 64, 3) := by decide +kernel
theorem dX12_picture_15 : decode cX12_picture 15 = .ok (.invokevirtual 56, 3) := by decide +kernel
theorem dX12_picture_18 : decode cX12_picture 18 = .ok (.lreturn, 1) := by decide +kernel
theorem dX12_picture_19 : decode cX12_picture 19 = .ok (.aload_n 0, 1) := by decide +kernel
theorem dX12_picture_20 : decode cX12_picture 20 = .ok (.invokevirtual 66, 3) := by decide +kernel
theorem dX12_picture_23 : decode cX12_picture 23 = .ok (.aload_n 0, 1) := by decide +kernel
theorem dX12_picture_24 : decode cX12_picture 24 = .ok (.getfield 9, 3) := by decide +kernel
theorem dX12_picture_27 : decode cX12_picture 27 = .ok (.iconst 4, 1) := by decide +kernel
theorem dX12_picture_28 : decode cX12_picture 28 = .ok (.aload_n 0, 1) := by decide +kernel
theorem dX12_picture_29 : decode cX12_picture 29 = .ok (.getfield 9, 3) := by decide +kernel
theorem dX12_picture_32 : decode cX12_picture 32 = .ok (.iconst 0, 1) := by decide +kernel
theorem dX12_picture_33 : decode cX12_picture 33 = .ok (.iaload, 1) := by decide +kernel
theorem dX12_picture_34 : decode cX12_picture 34 = .ok (.iadd, 1) := by decide +kernel
theorem dX12_picture_35 : decode cX12_picture 35 = .ok (.iconst 0, 1) := by decide +kernel
theorem dX12_picture_36 : decode cX12_picture 36 = .ok (.iastore, 1) := by decide +kernel
theorem dX12_picture_37 : decode cX12_picture 37 = .ok (.aload_n 0, 1) := by decide +kernel
theorem dX12_picture_38 : decode cX12_picture 38 = .ok (.getfield 9, 3) := by decide +kernel
theorem dX12_picture_41 : decode cX12_picture 41 = .ok (.iconst 0, 1) := by decide +kernel
theorem dX12_picture_42 : decode cX12_picture 42 = .ok (.dup2, 1) := by decide +kernel
theorem dX12_picture_43 : decode cX12_picture 43 = .ok (.iaload, 1) := by decide +kernel
theorem dX12_picture_44 : decode cX12_picture 44 = .ok (.iconst 1, 1) := by decide +kernel
theorem dX12_picture_45 : decode cX12_picture 45 = .ok (.iadd, 1) := by decide +kernel
theorem dX12_picture_46 : decode cX12_picture 46 = .ok (.iastore, 1) := by decide +kernel
theorem dX12_picture_47 : decode cX12_picture 47 = .ok (.aload_n 0, 1) := by decide +kernel
theorem dX12_picture_48 : decode cX12_picture 48 = .ok (.getfield 9, 3) := by decide +kernel
theorem dX12_picture_51 : decode cX12_picture 51 = .ok (.iconst 0, 1) := by decide +kernel
theorem dX12_picture_52 : decode cX12_picture 52 = .ok (.iaload, 1) := by decide +kernel
theorem dX12_picture_53 : decode cX12_picture 53 = .ok (.iconst 1, 1) := by decide +kernel
theorem dX12_picture_54 : decode cX12_picture 54 = .ok (.isub, 1) := by decide +kernel
theorem dX12_picture_55 : decode cX12_picture 55 = .ok (.i2l, 1) := by decide +kernel
theorem dX12_picture_56 : decode cX12_picture 56 = .ok (.lreturn, 1) := by decide +kernel
set_option maxRecDepth 20000 in
theorem ggX12_place_X12_isPicture : GoodIn wsX12_place wsX12_isPicture := goodIn_sub (fw_c (fw_t (fw_l (fw_l (fw_t (fw_t (fw_t (fw_t (fw_t (fw_t (fw_t fw_h)))))))))) (fw_a (fw_c (fw_t (fw_l (fw_l (fw_t fw_h)))) (fw_c (fw_t (fw_l (fw_l (fw_t (fw_t (fw_t (fw_t (fw_t (fw_t (fw_t (fw_t fw_h))))))))))) (fw_c (fw_t (fw_l (fw_l (fw_t (fw_t (fw_t (fw_t (fw_t (fw_t (fw_t (fw_t (fw_t fw_h)))))))))))) (fw_c (fw_t (fw_l (fw_l (fw_t (fw_t (fw_t (fw_t (fw_t (fw_t fw_h))))))))) (fw_c (fw_t (fw_l (fw_l (fw_t (fw_t (fw_t (fw_t (fw_t (fw_t (fw_t (fw_t (fw_t (fw_t fw_h))))))))))))) fw_n))))) (fun _ h => fw_t (fw_r h)))) (by decide +kernel)
set_option maxRecDepth 20000 in
theorem gX12_place_X12_isPicture : GoodIn wsX12_place (wsV RX12 69 RX12 yX12_isPicture wsX12_isPicture) := goodIn_app (goodIn_sub (fw_c (fw_t (fw_l (fw_l (fw_t (fw_t (fw_t fw_h)))))) (fw_c (fw_t (fw_l (fw_l (fw_t (fw_t (fw_t (fw_t fw_h))))))) (fw_c (fw_t (fw_l (fw_l (fw_t (fw_t (fw_t (fw_t (fw_t fw_h)))))))) (fw_c (fw_t (fw_l (fw_l (fw_t (fw_t (fw_t (fw_t (fw_t (fw_t fw_h))))))))) fw_n)))) (by decide +kernel)) ggX12_place_X12_isPicture
set_option maxRecDepth 20000 in
theorem ggX12_place_X12_isNumber : GoodIn wsX12_place wsX12_isNumber := goodIn_sub (fw_c (fw_t (fw_l (fw_l (fw_t (fw_t (fw_t (fw_t (fw_t (fw_t (fw_t (fw_t (fw_t (fw_t (fw_t (fw_t (fw_t fw_h)))))))))))))))) (fw_c (fw_t (fw_l (fw_l (fw_t (fw_t (fw_t (fw_t (fw_t (fw_t (fw_t (fw_t fw_h))))))))))) (fw_c (fw_t (fw_l (fw_l (fw_t (fw_t (fw_t (fw_t (fw_t (fw_t (fw_t (fw_t (fw_t fw_h)))))))))))) (fw_c (fw_t (fw_l (fw_l (fw_t (fw_t (fw_t (fw_t (fw_t (fw_t fw_h))))))))) (fw_c (fw_t (fw_l (fw_l (fw_t (fw_t (fw_t (fw_t (fw_t (fw_t (fw_t (fw_t (fw_t (fw_t fw_h))))))))))))) fw_n))))) (by decide +kernel)
set_option maxRecDepth 20000 in
theorem gX12_place_X12_isNumber : GoodIn wsX12_place (va_wsS RX12 73 yX12_isNumber wsX12_isNumber) := goodIn_app (goodIn_sub (fw_c (fw_t (fw_l (fw_l (fw_t (fw_t (fw_t (fw_t (fw_t (fw_t (fw_t (fw_t (fw_t (fw_t (fw_t fw_h)))))))))))))) (fw_c (fw_t (fw_l (fw_l (fw_t (fw_t (fw_t (fw_t (fw_t (fw_t (fw_t (fw_t (fw_t (fw_t (fw_t (fw_t fw_h))))))))))))))) (fw_c (fw_t (fw_l (fw_l (fw_t (fw_t (fw_t (fw_t (fw_t (fw_t fw_h))))))))) fw_n))) (by decide +kernel)) ggX12_place_X12_isNumber
set_option maxRecDepth 20000 in
theorem ggX12_place_X12_finds : GoodIn wsX12_place wsX12_finds := goodIn_sub (fw_c (fw_t (fw_l (fw_l (fw_t (fw_t (fw_t (fw_t (fw_t (fw_t (fw_t (fw_t (fw_t (fw_t (fw_t (fw_t (fw_t (fw_t (fw_t (fw_t (fw_t fw_h)))))))))))))))))))) (fw_a (fw_c (fw_t (fw_l (fw_l (fw_t (fw_t (fw_t (fw_t (fw_t (fw_t (fw_t (fw_t (fw_t (fw_t (fw_t (fw_t (fw_t (fw_t (fw_t (fw_t (fw_t (fw_t fw_h))))))))))))))))))))) fw_n) (fun _ h => fw_t (fw_r h)))) (by decide +kernel)
set_option maxRecDepth 20000 in
theorem gX12_place_X12_finds : GoodIn wsX12_place (wsV RX12 56 RX12 yX12_finds wsX12_finds) := goodIn_app (goodIn_sub (fw_c (fw_t (fw_l (fw_l (fw_t (fw_t (fw_t (fw_t (fw_t (fw_t (fw_t (fw_t (fw_t (fw_t (fw_t (fw_t (fw_t (fw_t fw_h))))))))))))))))) (fw_c (fw_t (fw_l (fw_l (fw_t (fw_t (fw_t (fw_t (fw_t (fw_t (fw_t (fw_t (fw_t (fw_t (fw_t (fw_t (fw_t (fw_t (fw_t fw_h)))))))))))))))))) (fw_c (fw_t (fw_l (fw_l (fw_t (fw_t (fw_t (fw_t (fw_t (fw_t (fw_t (fw_t (fw_t (fw_t (fw_t (fw_t (fw_t (fw_t (fw_t (fw_t fw_h))))))))))))))))))) (fw_c (fw_t (fw_l (fw_l (fw_t (fw_t (fw_t (fw_t (fw_t (fw_t fw_h))))))))) fw_n)))) (by decide +kernel)) ggX12_place_X12_finds
set_option maxRecDepth 20000 in
theorem ggX12_place_X12_keep : GoodIn wsX12_place wsX12_keep := goodIn_sub (fw_c (fw_t (fw_l (fw_l (fw_t (fw_t (fw_t (fw_t (fw_t (fw_t (fw_t (fw_t (fw_t (fw_t (fw_t (fw_t (fw_t (fw_t (fw_t (fw_t (fw_t (fw_t (fw_t (fw_t (fw_t (fw_t fw_h))))))))))))))))))))))))) (fw_a (fw_c (fw_t (fw_l (fw_l (fw_t (fw_t (fw_t (fw_t (fw_t (fw_t (fw_t (fw_t (fw_t (fw_t (fw_t (fw_t (fw_t (fw_t (fw_t (fw_t (fw_t (fw_t (fw_t (fw_t (fw_t (fw_t (fw_t fw_h)))))))))))))))))))))))))) (fw_c (fw_t (fw_l (fw_r fw_h))) (fw_c (fw_t (fw_l (fw_l (fw_t fw_h)))) (fw_c (fw_t (fw_l (fw_r (fw_t fw_h)))) fw_n)))) (fun _ h => fw_t (fw_r h)))) (by decide +kernel)
set_option maxRecDepth 20000 in
theorem gX12_place_X12_keep : GoodIn wsX12_place (wsV RX12 66 RX12 yX12_keep wsX12_keep) := goodIn_app (goodIn_sub (fw_c (fw_t (fw_l (fw_l (fw_t (fw_t (fw_t (fw_t (fw_t (fw_t (fw_t (fw_t (fw_t (fw_t (fw_t (fw_t (fw_t (fw_t (fw_t (fw_t (fw_t (fw_t (fw_t fw_h)))))))))))))))))))))) (fw_c (fw_t (fw_l (fw_l (fw_t (fw_t (fw_t (fw_t (fw_t (fw_t (fw_t (fw_t (fw_t (fw_t (fw_t (fw_t (fw_t (fw_t (fw_t (fw_t (fw_t (fw_t (fw_t (fw_t fw_h))))))))))))))))))))))) (fw_c (fw_t (fw_l (fw_l (fw_t (fw_t (fw_t (fw_t (fw_t (fw_t (fw_t (fw_t (fw_t (fw_t (fw_t (fw_t (fw_t (fw_t (fw_t (fw_t (fw_t (fw_t (fw_t (fw_t (fw_t fw_h)))))))))))))))))))))))) (fw_c (fw_t (fw_l (fw_l (fw_t (fw_t (fw_t (fw_t (fw_t (fw_t fw_h))))))))) fw_n)))) (by decide +kernel)) ggX12_place_X12_keep
theorem dX12_place_0 : decode cX12_place 0 = .ok (.aload_n 0, 1) := by decide +kernel
theorem dX12_place_1 : decode cX12_place 1 = .ok (.iload_n 1, 1) := by decide +kernel
theorem dX12_place_2 : decode cX12_place 2 = .ok (.invokevirtual 69, 3) := by decide +kernel
theorem dX12_place_5 : decode cX12_place 5 = .ok (.ifCond .eq 33, 3) := by decide +kernel
theorem dX12_place_8 : decode cX12_place 8 = .ok (.iload_n 2, 1) := by decide +kernel
theorem dX12_place_9 : decode cX12_place 9 = .ok (.invokestatic 73, 3) := by decide +kernel
theorem dX12_place_12 : decode cX12_place 12 = .ok (.ifCond .eq 26, 3) := by decide +kernel
theorem dX12_place_15 : decode cX12_place 15 = .ok (.iload_n 3, 1) := by decide +kernel
theorem dX12_place_16 : decode cX12_place 16 = .ok (.invokestatic 73, 3) := by decide +kernel
theorem dX12_place_19 : decode cX12_place 19 = .ok (.ifCond .eq 19, 3) := by decide +kernel
theorem dX12_place_22 : decode cX12_place 22 = .ok (.iload 4, 2) := by decide +kernel
theorem dX12_place_24 : decode cX12_place 24 = .ok (.invokestatic 73, 3) := by decide +kernel
theorem dX12_place_27 : decode cX12_place 27 = .ok (.ifCond .eq 11, 3) := by decide +kernel
theorem dX12_place_30 : decode cX12_place 30 = .ok (.iload 5, 2) := by decide +kernel
theorem dX12_place_32 : decode cX12_place 32 = .ok (.invokestatic 73, 3) := by decide +kernel
theorem dX12_place_35 : decode cX12_place 35 = .ok (.ifCond .ne 11, 3) := by decide +kernel
theorem dX12_place_38 : decode cX12_place 38 = .ok (.aload_n 0, 1) := by decide +kernel
theorem dX12_place_39 : decode cX12_place 39 = .ok (.ldc2_w 76, 3) := by decide +kernel
theorem dX12_place_42 : decode cX12_place 42 = .ok (.invokevirtual 56, 3) := by decide +kernel
theorem dX12_place_45 : decode cX12_place 45 = .ok (.lreturn, 1) := by decide +kernel
theorem dX12_place_46 : decode cX12_place 46 = .ok (.aload_n 0, 1) := by decide +kernel
theorem dX12_place_47 : decode cX12_place 47 = .ok (.getfield 9, 3) := by decide +kernel
theorem dX12_place_50 : decode cX12_place 50 = .ok (.iconst 4, 1) := by decide +kernel
theorem dX12_place_51 : decode cX12_place 51 = .ok (.iload_n 1, 1) := by decide +kernel
theorem dX12_place_52 : decode cX12_place 52 = .ok (.iadd, 1) := by decide +kernel
theorem dX12_place_53 : decode cX12_place 53 = .ok (.iaload, 1) := by decide +kernel
theorem dX12_place_54 : decode cX12_place 54 = .ok (.istore 6, 2) := by decide +kernel
theorem dX12_place_56 : decode cX12_place 56 = .ok (.iload 6, 2) := by decide +kernel
theorem dX12_place_58 : decode cX12_place 58 = .ok (.bipush 8, 2) := by decide +kernel
theorem dX12_place_60 : decode cX12_place 60 = .ok (.if_icmp .ne 11, 3) := by decide +kernel
theorem dX12_place_63 : decode cX12_place 63 = .ok (.aload_n 0, 1) := by decide +kernel
theorem dX12_place_64 : decode cX12_place 64 = .ok (.ldc2_w 64, 3) := by decide +kernel
theorem dX12_place_67 : decode cX12_place 67 = .ok (.invokevirtual 56, 3) := by decide +kernel
theorem dX12_place_70 : decode cX12_place 70 = .ok (.lreturn, 1) := by decide +kernel
theorem dX12_place_71 : decode cX12_place 71 = .ok (.aload_n 0, 1) := by decide +kernel
theorem dX12_place_72 : decode cX12_place 72 = .ok (.invokevirtual 66, 3) := by decide +kernel
theorem dX12_place_75 : decode cX12_place 75 = .ok (.bipush 10, 2) := by decide +kernel
theorem dX12_place_77 : decode cX12_place 77 = .ok (.bipush 32, 2) := by decide +kernel
theorem dX12_place_79 : decode cX12_place 79 = .ok (.iload_n 1, 1) := by decide +kernel
theorem dX12_place_80 : decode cX12_place 80 = .ok (.imul, 1) := by decide +kernel
theorem dX12_place_81 : decode cX12_place 81 = .ok (.iadd, 1) := by decide +kernel
theorem dX12_place_82 : decode cX12_place 82 = .ok (.iconst 4, 1) := by decide +kernel
theorem dX12_place_83 : decode cX12_place 83 = .ok (.iload 6, 2) := by decide +kernel
theorem dX12_place_85 : decode cX12_place 85 = .ok (.imul, 1) := by decide +kernel
theorem dX12_place_86 : decode cX12_place 86 = .ok (.iadd, 1) := by decide +kernel
theorem dX12_place_87 : decode cX12_place 87 = .ok (.istore 7, 2) := by decide +kernel
theorem dX12_place_89 : decode cX12_place 89 = .ok (.aload_n 0, 1) := by decide +kernel
theorem dX12_place_90 : decode cX12_place 90 = .ok (.getfield 9, 3) := by decide +kernel
theorem dX12_place_93 : decode cX12_place 93 = .ok (.iload 7, 2) := by decide +kernel
theorem dX12_place_95 : decode cX12_place 95 = .ok (.iload_n 2, 1) := by decide +kernel
theorem dX12_place_96 : decode cX12_place 96 = .ok (.iastore, 1) := by decide +kernel
theorem dX12_place_97 : decode cX12_place 97 = .ok (.aload_n 0, 1) := by decide +kernel
theorem dX12_place_98 : decode cX12_place 98 = .ok (.getfield 9, 3) := by decide +kernel
theorem dX12_place_101 : decode cX12_place 101 = .ok (.iload 7, 2) := by decide +kernel
theorem dX12_place_103 : decode cX12_place 103 = .ok (.iconst 1, 1) := by decide +kernel
theorem dX12_place_104 : decode cX12_place 104 = .ok (.iadd, 1) := by decide +kernel
theorem dX12_place_105 : decode cX12_place 105 = .ok (.iload_n 3, 1) := by decide +kernel
theorem dX12_place_106 : decode cX12_place 106 = .ok (.iastore, 1) := by decide +kernel
theorem dX12_place_107 : decode cX12_place 107 = .ok (.aload_n 0, 1) := by decide +kernel
theorem dX12_place_108 : decode cX12_place 108 = .ok (.getfield 9, 3) := by decide +kernel
theorem dX12_place_111 : decode cX12_place 111 = .ok (.iload 7, 2) := by decide +kernel
theorem dX12_place_113 : decode cX12_place 113 = .ok (.iconst 2, 1) := by decide +kernel
theorem dX12_place_114 : decode cX12_place 114 = .ok (.iadd, 1) := by decide +kernel
theorem dX12_place_115 : decode cX12_place 115 = .ok (.iload 4, 2) := by decide +kernel
theorem dX12_place_117 : decode cX12_place 117 = .ok (.iastore, 1) := by decide +kernel
theorem dX12_place_118 : decode cX12_place 118 = .ok (.aload_n 0, 1) := by decide +kernel
theorem dX12_place_119 : decode cX12_place 119 = .ok (.getfield 9, 3) := by decide +kernel
theorem dX12_place_122 : decode cX12_place 122 = .ok (.iload 7, 2) := by decide +kernel
theorem dX12_place_124 : decode cX12_place 124 = .ok (.iconst 3, 1) := by decide +kernel
theorem dX12_place_125 : decode cX12_place 125 = .ok (.iadd, 1) := by decide +kernel
theorem dX12_place_126 : decode cX12_place 126 = .ok (.iload 5, 2) := by decide +kernel
theorem dX12_place_128 : decode cX12_place 128 = .ok (.iastore, 1) := by decide +kernel
theorem dX12_place_129 : decode cX12_place 129 = .ok (.aload_n 0, 1) := by decide +kernel
theorem dX12_place_130 : decode cX12_place 130 = .ok (.getfield 9, 3) := by decide +kernel
theorem dX12_place_133 : decode cX12_place 133 = .ok (.iconst 4, 1) := by decide +kernel
theorem dX12_place_134 : decode cX12_place 134 = .ok (.iload_n 1, 1) := by decide +kernel
theorem dX12_place_135 : decode cX12_place 135 = .ok (.iadd, 1) := by decide +kernel
theorem dX12_place_136 : decode cX12_place 136 = .ok (.dup2, 1) := by decide +kernel
theorem dX12_place_137 : decode cX12_place 137 = .ok (.iaload, 1) := by decide +kernel
theorem dX12_place_138 : decode cX12_place 138 = .ok (.iconst 1, 1) := by decide +kernel
theorem dX12_place_139 : decode cX12_place 139 = .ok (.iadd, 1) := by decide +kernel
theorem dX12_place_140 : decode cX12_place 140 = .ok (.iastore, 1) := by decide +kernel
theorem dX12_place_141 : decode cX12_place 141 = .ok (.iload 6, 2) := by decide +kernel
theorem dX12_place_143 : decode cX12_place 143 = .ok (.iconst 1, 1) := by decide +kernel
theorem dX12_place_144 : decode cX12_place 144 = .ok (.iadd, 1) := by decide +kernel
theorem dX12_place_145 : decode cX12_place 145 = .ok (.i2l, 1) := by decide +kernel
theorem dX12_place_146 : decode cX12_place 146 = .ok (.lreturn, 1) := by decide +kernel
set_option maxRecDepth 20000 in
theorem ggX12_unplace_X12_isPicture : GoodIn wsX12_unplace wsX12_isPicture := goodIn_sub (fw_c (fw_t (fw_l (fw_t (fw_t (fw_t (fw_t (fw_t (fw_t (fw_t fw_h))))))))) (fw_a (fw_c (fw_t (fw_l (fw_t fw_h))) (fw_c (fw_t (fw_l (fw_t (fw_t (fw_t (fw_t (fw_t (fw_t (fw_t (fw_t fw_h)))))))))) (fw_c (fw_t (fw_l (fw_t (fw_t (fw_t (fw_t (fw_t (fw_t (fw_t (fw_t (fw_t fw_h))))))))))) (fw_c (fw_t (fw_l (fw_t (fw_t (fw_t (fw_t (fw_t (fw_t fw_h)))))))) (fw_c (fw_t (fw_l (fw_t (fw_t (fw_t (fw_t (fw_t (fw_t (fw_t (fw_t (fw_t (fw_t fw_h)))))))))))) fw_n))))) (fun _ h => fw_t (fw_r h)))) (by decide +kernel)
set_option maxRecDepth 20000 in
theorem gX12_unplace_X12_isPicture : GoodIn wsX12_unplace (wsV RX12 69 RX12 yX12_isPicture wsX12_isPicture) := goodIn_app (goodIn_sub (fw_c (fw_t (fw_l (fw_t (fw_t (fw_t fw_h))))) (fw_c (fw_t (fw_l (fw_t (fw_t (fw_t (fw_t fw_h)))))) (fw_c (fw_t (fw_l (fw_t (fw_t (fw_t (fw_t (fw_t fw_h))))))) (fw_c (fw_t (fw_l (fw_t (fw_t (fw_t (fw_t (fw_t (fw_t fw_h)))))))) fw_n)))) (by decide +kernel)) ggX12_unplace_X12_isPicture
set_option maxRecDepth 20000 in
theorem ggX12_unplace_X12_finds : GoodIn wsX12_unplace wsX12_finds := goodIn_sub (fw_c (fw_t (fw_l (fw_t (fw_t (fw_t (fw_t (fw_t (fw_t (fw_t (fw_t (fw_t (fw_t (fw_t (fw_t (fw_t (fw_t fw_h)))))))))))))))) (fw_a (fw_c (fw_t (fw_l (fw_t (fw_t (fw_t (fw_t (fw_t (fw_t (fw_t (fw_t (fw_t (fw_t (fw_t (fw_t (fw_t (fw_t (fw_t fw_h))))))))))))))))) fw_n) (fun _ h => fw_t (fw_r h)))) (by decide +kernel)
set_option maxRecDepth 20000 in
theorem gX12_unplace_X12_finds : GoodIn wsX12_unplace (wsV RX12 56 RX12 yX12_finds wsX12_finds) := goodIn_app (goodIn_sub (fw_c (fw_t (fw_l (fw_t (fw_t (fw_t (fw_t (fw_t (fw_t (fw_t (fw_t (fw_t (fw_t (fw_t fw_h))))))))))))) (fw_c (fw_t (fw_l (fw_t (fw_t (fw_t (fw_t (fw_t (fw_t (fw_t (fw_t (fw_t (fw_t (fw_t (fw_t fw_h)))))))))))))) (fw_c (fw_t (fw_l (fw_t (fw_t (fw_t (fw_t (fw_t (fw_t (fw_t (fw_t (fw_t (fw_t (fw_t (fw_t (fw_t fw_h))))))))))))))) (fw_c (fw_t (fw_l (fw_t (fw_t (fw_t (fw_t (fw_t (fw_t fw_h)))))))) fw_n)))) (by decide +kernel)) ggX12_unplace_X12_finds
set_option maxRecDepth 20000 in
theorem ggX12_unplace_X12_keep : GoodIn wsX12_unplace wsX12_keep := goodIn_sub (fw_c (fw_t (fw_l (fw_t (fw_t (fw_t (fw_t (fw_t (fw_t (fw_t (fw_t (fw_t (fw_t (fw_t (fw_t (fw_t (fw_t (fw_t (fw_t (fw_t (fw_t (fw_t fw_h))))))))))))))))))))) (fw_a (fw_c (fw_t (fw_l (fw_t (fw_t (fw_t (fw_t (fw_t (fw_t (fw_t (fw_t (fw_t (fw_t (fw_t (fw_t (fw_t (fw_t (fw_t (fw_t (fw_t (fw_t (fw_t (fw_t fw_h)))))))))))))))))))))) (fw_c (fw_t (fw_l (fw_t (fw_t (fw_t (fw_t (fw_t (fw_t (fw_t (fw_t (fw_t (fw_t (fw_t (fw_t (fw_t (fw_t (fw_t (fw_t (fw_t (fw_t (fw_t (fw_t (fw_t fw_h))))))))))))))))))))))) (fw_c (fw_t (fw_l (fw_t fw_h))) (fw_c (fw_t (fw_l (fw_t (fw_t (fw_t (fw_t (fw_t (fw_t (fw_t (fw_t (fw_t (fw_t (fw_t (fw_t (fw_t (fw_t (fw_t (fw_t (fw_t (fw_t (fw_t (fw_t (fw_t (fw_t fw_h)))))))))))))))))))))))) fw_n)))) (fun _ h => fw_t (fw_r h)))) (by decide +kernel)
set_option maxRecDepth 20000 in
theorem gX12_unplace_X12_keep : GoodIn wsX12_unplace (wsV RX12 66 RX12 yX12_keep wsX12_keep) := goodIn_app (goodIn_sub (fw_c (fw_t (fw_l (fw_t (fw_t (fw_t (fw_t (fw_t (fw_t (fw_t (fw_t (fw_t (fw_t (fw_t (fw_t (fw_t (fw_t (fw_t (fw_t fw_h)))))))))))))))))) (fw_c (fw_t (fw_l (fw_t (fw_t (fw_t (fw_t (fw_t (fw_t (fw_t (fw_t (fw_t (fw_t (fw_t (fw_t (fw_t (fw_t (fw_t (fw_t (fw_t fw_h))))))))))))))))))) (fw_c (fw_t (fw_l (fw_t (fw_t (fw_t (fw_t (fw_t (fw_t (fw_t (fw_t (fw_t (fw_t (fw_t (fw_t (fw_t (fw_t (fw_t (fw_t (fw_t (fw_t fw_h)))))))))))))))))))) (fw_c (fw_t (fw_l (fw_t (fw_t (fw_t (fw_t (fw_t (fw_t fw_h)))))))) fw_n)))) (by decide +kernel)) ggX12_unplace_X12_keep
theorem dX12_unplace_0 : decode cX12_unplace 0 = .ok (.aload_n 0, 1) := by decide +kernel
theorem dX12_unplace_1 : decode cX12_unplace 1 = .ok (.iload_n 1, 1) := by decide +kernel
theorem dX12_unplace_2 : decode cX12_unplace 2 = .ok (.invokevirtual 69, 3) := by decide +kernel
theorem dX12_unplace_5 : decode cX12_unplace 5 = .ok (.ifCond .ne 11, 3) := by decide +kernel
theorem dX12_unplace_8 : decode cX12_unplace 8 = .ok (.aload_n 0, 1) := by decide +kernel
theorem dX12_unplace_9 : decode cX12_unplace 9 = .ok (.ldc2_w 76, 3) := by decide +kernel
theorem dX12_unplace_12 : decode cX12_unplace 12 = .ok (.invokevirtual 56, 3) := by decide +kernel
theorem dX12_unplace_15 : decode cX12_unplace 15 = .ok (.lreturn, 1) := by decide +kernel
theorem dX12_unplace_16 : decode cX12_unplace 16 = .ok (.aload_n 0, 1) := by decide +kernel
theorem dX12_unplace_17 : decode cX12_unplace 17 = .ok (.getfield 9, 3) := by decide +kernel
theorem dX12_unplace_20 : decode cX12_unplace 20 = .ok (.iconst 4, 1) := by decide +kernel
theorem dX12_unplace_21 : decode cX12_unplace 21 = .ok (.iload_n 1, 1) := by decide +kernel
theorem dX12_unplace_22 : decode cX12_unplace 22 = .ok (.iadd, 1) := by decide +kernel
theorem dX12_unplace_23 : decode cX12_unplace 23 = .ok (.iaload, 1) := by decide +kernel
theorem dX12_unplace_24 : decode cX12_unplace 24 = .ok (.ifCond .ne 11, 3) := by decide +kernel
theorem dX12_unplace_27 : decode cX12_unplace 27 = .ok (.aload_n 0, 1) := by decide +kernel
theorem dX12_unplace_28 : decode cX12_unplace 28 = .ok (.ldc2_w 54, 3) := by decide +kernel
theorem dX12_unplace_31 : decode cX12_unplace 31 = .ok (.invokevirtual 56, 3) := by decide +kernel
theorem dX12_unplace_34 : decode cX12_unplace 34 = .ok (.lreturn, 1) := by decide +kernel
theorem dX12_unplace_35 : decode cX12_unplace 35 = .ok (.aload_n 0, 1) := by decide +kernel
theorem dX12_unplace_36 : decode cX12_unplace 36 = .ok (.invokevirtual 66, 3) := by decide +kernel
theorem dX12_unplace_39 : decode cX12_unplace 39 = .ok (.aload_n 0, 1) := by decide +kernel
theorem dX12_unplace_40 : decode cX12_unplace 40 = .ok (.getfield 9, 3) := by decide +kernel
theorem dX12_unplace_43 : decode cX12_unplace 43 = .ok (.iconst 4, 1) := by decide +kernel
theorem dX12_unplace_44 : decode cX12_unplace 44 = .ok (.iload_n 1, 1) := by decide +kernel
theorem dX12_unplace_45 : decode cX12_unplace 45 = .ok (.iadd, 1) := by decide +kernel
theorem dX12_unplace_46 : decode cX12_unplace 46 = .ok (.dup2, 1) := by decide +kernel
theorem dX12_unplace_47 : decode cX12_unplace 47 = .ok (.iaload, 1) := by decide +kernel
theorem dX12_unplace_48 : decode cX12_unplace 48 = .ok (.iconst 1, 1) := by decide +kernel
theorem dX12_unplace_49 : decode cX12_unplace 49 = .ok (.isub, 1) := by decide +kernel
theorem dX12_unplace_50 : decode cX12_unplace 50 = .ok (.iastore, 1) := by decide +kernel
theorem dX12_unplace_51 : decode cX12_unplace 51 = .ok (.aload_n 0, 1) := by decide +kernel
theorem dX12_unplace_52 : decode cX12_unplace 52 = .ok (.getfield 9, 3) := by decide +kernel
theorem dX12_unplace_55 : decode cX12_unplace 55 = .ok (.iconst 4, 1) := by decide +kernel
theorem dX12_unplace_56 : decode cX12_unplace 56 = .ok (.iload_n 1, 1) := by decide +kernel
theorem dX12_unplace_57 : decode cX12_unplace 57 = .ok (.iadd, 1) := by decide +kernel
theorem dX12_unplace_58 : decode cX12_unplace 58 = .ok (.iaload, 1) := by decide +kernel
theorem dX12_unplace_59 : decode cX12_unplace 59 = .ok (.i2l, 1) := by decide +kernel
theorem dX12_unplace_60 : decode cX12_unplace 60 = .ok (.lreturn, 1) := by decide +kernel
theorem dX12_leads_0 : decode cX12_leads 0 = .ok (.aload_n 0, 1) := by decide +kernel
theorem dX12_leads_1 : decode cX12_leads 1 = .ok (.aload_n 0, 1) := by decide +kernel
theorem dX12_leads_2 : decode cX12_leads 2 = .ok (.getfield 9, 3) := by decide +kernel
theorem dX12_leads_5 : decode cX12_leads 5 = .ok (.iconst 4, 1) := by decide +kernel
theorem dX12_leads_6 : decode cX12_leads 6 = .ok (.iload_n 1, 1) := by decide +kernel
theorem dX12_leads_7 : decode cX12_leads 7 = .ok (.iadd, 1) := by decide +kernel
theorem dX12_leads_8 : decode cX12_leads 8 = .ok (.iaload, 1) := by decide +kernel
theorem dX12_leads_9 : decode cX12_leads 9 = .ok (.i2l, 1) := by decide +kernel
theorem dX12_leads_10 : decode cX12_leads 10 = .ok (.putfield 78, 3) := by decide +kernel
theorem dX12_leads_13 : decode cX12_leads 13 = .ok (.aload_n 0, 1) := by decide +kernel
theorem dX12_leads_14 : decode cX12_leads 14 = .ok (.lconst 0, 1) := by decide +kernel
theorem dX12_leads_15 : decode cX12_leads 15 = .ok (.putfield 82, 3) := by decide +kernel
theorem dX12_leads_18 : decode cX12_leads 18 = .ok (.aload_n 0, 1) := by decide +kernel
theorem dX12_leads_19 : decode cX12_leads 19 = .ok (.lconst 0, 1) := by decide +kernel
theorem dX12_leads_20 : decode cX12_leads 20 = .ok (.putfield 85, 3) := by decide +kernel
theorem dX12_leads_23 : decode cX12_leads 23 = .ok (.aload_n 0, 1) := by decide +kernel
theorem dX12_leads_24 : decode cX12_leads 24 = .ok (.lconst 0, 1) := by decide +kernel
theorem dX12_leads_25 : decode cX12_leads 25 = .ok (.putfield 88, 3) := by decide +kernel
theorem dX12_leads_28 : decode cX12_leads 28 = .ok (.aload_n 0, 1) := by decide +kernel
theorem dX12_leads_29 : decode cX12_leads 29 = .ok (.lconst 0, 1) := by decide +kernel
theorem dX12_leads_30 : decode cX12_leads 30 = .ok (.putfield 91, 3) := by decide +kernel
theorem dX12_leads_33 : decode cX12_leads 33 = .ok (.aload_n 0, 1) := by decide +kernel
theorem dX12_leads_34 : decode cX12_leads 34 = .ok (.lconst 0, 1) := by decide +kernel
theorem dX12_leads_35 : decode cX12_leads 35 = .ok (.putfield 94, 3) := by decide +kernel
theorem dX12_leads_38 : decode cX12_leads 38 = .ok (.iconst 0, 1) := by decide +kernel
theorem dX12_leads_39 : decode cX12_leads 39 = .ok (.istore_n 3, 1) := by decide +kernel
theorem dX12_leads_40 : decode cX12_leads 40 = .ok (.iload_n 3, 1) := by decide +kernel
theorem dX12_leads_41 : decode cX12_leads 41 = .ok (.i2l, 1) := by decide +kernel
theorem dX12_leads_42 : decode cX12_leads 42 = .ok (.aload_n 0, 1) := by decide +kernel
theorem dX12_leads_43 : decode cX12_leads 43 = .ok (.getfield 78, 3) := by decide +kernel
theorem dX12_leads_46 : decode cX12_leads 46 = .ok (.lcmp, 1) := by decide +kernel
theorem dX12_leads_47 : decode cX12_leads 47 = .ok (.ifCond .ge 117, 3) := by decide +kernel
theorem dX12_leads_50 : decode cX12_leads 50 = .ok (.aload_n 0, 1) := by decide +kernel
theorem dX12_leads_51 : decode cX12_leads 51 = .ok (.getfield 9, 3) := by decide +kernel
theorem dX12_leads_54 : decode cX12_leads 54 = .ok (.bipush 10, 2) := by decide +kernel
theorem dX12_leads_56 : decode cX12_leads 56 = .ok (.bipush 32, 2) := by decide +kernel
theorem dX12_leads_58 : decode cX12_leads 58 = .ok (.iload_n 1, 1) := by decide +kernel
theorem dX12_leads_59 : decode cX12_leads 59 = .ok (.imul, 1) := by decide +kernel
theorem dX12_leads_60 : decode cX12_leads 60 = .ok (.iadd, 1) := by decide +kernel
theorem dX12_leads_61 : decode cX12_leads 61 = .ok (.iconst 4, 1) := by decide +kernel
theorem dX12_leads_62 : decode cX12_leads 62 = .ok (.iload_n 3, 1) := by decide +kernel
theorem dX12_leads_63 : decode cX12_leads 63 = .ok (.imul, 1) := by decide +kernel
theorem dX12_leads_64 : decode cX12_leads 64 = .ok (.iadd, 1) := by decide +kernel
theorem dX12_leads_65 : decode cX12_leads 65 = .ok (.iload_n 2, 1) := by decide +kernel
theorem dX12_leads_66 : decode cX12_leads 66 = .ok (.iadd, 1) := by decide +kernel
theorem dX12_leads_67 : decode cX12_leads 67 = .ok (.iaload, 1) := by decide +kernel
theorem dX12_leads_68 : decode cX12_leads 68 = .ok (.i2l, 1) := by decide +kernel
theorem dX12_leads_69 : decode cX12_leads 69 = .ok (.lstore 4, 2) := by decide +kernel
theorem dX12_leads_71 : decode cX12_leads 71 = .ok (.aload_n 0, 1) := by decide +kernel
theorem dX12_leads_72 : decode cX12_leads 72 = .ok (.getfield 9, 3) := by decide +kernel
theorem dX12_leads_75 : decode cX12_leads 75 = .ok (.bipush 10, 2) := by decide +kernel
theorem dX12_leads_77 : decode cX12_leads 77 = .ok (.bipush 32, 2) := by decide +kernel
theorem dX12_leads_79 : decode cX12_leads 79 = .ok (.iload_n 1, 1) := by decide +kernel
theorem dX12_leads_80 : decode cX12_leads 80 = .ok (.imul, 1) := by decide +kernel
theorem dX12_leads_81 : decode cX12_leads 81 = .ok (.iadd, 1) := by decide +kernel
theorem dX12_leads_82 : decode cX12_leads 82 = .ok (.iconst 4, 1) := by decide +kernel
theorem dX12_leads_83 : decode cX12_leads 83 = .ok (.iload_n 3, 1) := by decide +kernel
theorem dX12_leads_84 : decode cX12_leads 84 = .ok (.imul, 1) := by decide +kernel
theorem dX12_leads_85 : decode cX12_leads 85 = .ok (.iadd, 1) := by decide +kernel
theorem dX12_leads_86 : decode cX12_leads 86 = .ok (.iconst 2, 1) := by decide +kernel
theorem dX12_leads_87 : decode cX12_leads 87 = .ok (.iadd, 1) := by decide +kernel
theorem dX12_leads_88 : decode cX12_leads 88 = .ok (.iload_n 2, 1) := by decide +kernel
theorem dX12_leads_89 : decode cX12_leads 89 = .ok (.iadd, 1) := by decide +kernel
theorem dX12_leads_90 : decode cX12_leads 90 = .ok (.iaload, 1) := by decide +kernel
theorem dX12_leads_91 : decode cX12_leads 91 = .ok (.i2l, 1) := by decide +kernel
theorem dX12_leads_92 : decode cX12_leads 92 = .ok (.lstore 6, 2) := by decide +kernel
theorem dX12_leads_94 : decode cX12_leads 94 = .ok (.aload_n 0, 1) := by decide +kernel
theorem dX12_leads_95 : decode cX12_leads 95 = .ok (.dup, 1) := by decide +kernel
theorem dX12_leads_96 : decode cX12_leads 96 = .ok (.getfield 82, 3) := by decide +kernel
theorem dX12_leads_99 : decode cX12_leads 99 = .ok (.lload 4, 2) := by decide +kernel
theorem dX12_leads_101 : decode cX12_leads 101 = .ok (.ladd, 1) := by decide +kernel
theorem dX12_leads_102 : decode cX12_leads 102 = .ok (.putfield 82, 3) := by decide +kernel
theorem dX12_leads_105 : decode cX12_leads 105 = .ok (.aload_n 0, 1) := by decide +kernel
theorem dX12_leads_106 : decode cX12_leads 106 = .ok (.dup, 1) := by decide +kernel
theorem dX12_leads_107 : decode cX12_leads 107 = .ok (.getfield 85, 3) := by decide +kernel
theorem dX12_leads_110 : decode cX12_leads 110 = .ok (.lload 6, 2) := by decide +kernel
theorem dX12_leads_112 : decode cX12_leads 112 = .ok (.ladd, 1) := by decide +kernel
theorem dX12_leads_113 : decode cX12_leads 113 = .ok (.putfield 85, 3) := by decide +kernel
theorem dX12_leads_116 : decode cX12_leads 116 = .ok (.aload_n 0, 1) := by decide +kernel
theorem dX12_leads_117 : decode cX12_leads 117 = .ok (.dup, 1) := by decide +kernel
theorem dX12_leads_118 : decode cX12_leads 118 = .ok (.getfield 88, 3) := by decide +kernel
theorem dX12_leads_121 : decode cX12_leads 121 = .ok (.lload 4, 2) := by decide +kernel
theorem dX12_leads_123 : decode cX12_leads 123 = .ok (.lload 4, 2) := by decide +kernel
theorem dX12_leads_125 : decode cX12_leads 125 = .ok (.lmul, 1) := by decide +kernel
theorem dX12_leads_126 : decode cX12_leads 126 = .ok (.ladd, 1) := by decide +kernel
theorem dX12_leads_127 : decode cX12_leads 127 = .ok (.putfield 88, 3) := by decide +kernel
theorem dX12_leads_130 : decode cX12_leads 130 = .ok (.aload_n 0, 1) := by decide +kernel
theorem dX12_leads_131 : decode cX12_leads 131 = .ok (.dup, 1) := by decide +kernel
theorem dX12_leads_132 : decode cX12_leads 132 = .ok (.getfield 91, 3) := by decide +kernel
theorem dX12_leads_135 : decode cX12_leads 135 = .ok (.lload 4, 2) := by decide +kernel
theorem dX12_leads_137 : decode cX12_leads 137 = .ok (.lload 6, 2) := by decide +kernel
theorem dX12_leads_139 : decode cX12_leads 139 = .ok (.lmul, 1) := by decide +kernel
theorem dX12_leads_140 : decode cX12_leads 140 = .ok (.ladd, 1) := by decide +kernel
theorem dX12_leads_141 : decode cX12_leads 141 = .ok (.putfield 91, 3) := by decide +kernel
theorem dX12_leads_144 : decode cX12_leads 144 = .ok (.aload_n 0, 1) := by decide +kernel
theorem dX12_leads_145 : decode cX12_leads 145 = .ok (.dup, 1) := by decide +kernel
theorem dX12_leads_146 : decode cX12_leads 146 = .ok (.getfield 94, 3) := by decide +kernel
theorem dX12_leads_149 : decode cX12_leads 149 = .ok (.lload 6, 2) := by decide +kernel
theorem dX12_leads_151 : decode cX12_leads 151 = .ok (.lload 6, 2) := by decide +kernel
theorem dX12_leads_153 : decode cX12_leads 153 = .ok (.lmul, 1) := by decide +kernel
theorem dX12_leads_154 : decode cX12_leads 154 = .ok (.ladd, 1) := by decide +kernel
theorem dX12_leads_155 : decode cX12_leads 155 = .ok (.putfield 94, 3) := by decide +kernel
theorem dX12_leads_158 : decode cX12_leads 158 = .ok (.iinc 3 1, 3) := by decide +kernel
theorem dX12_leads_161 : decode cX12_leads 161 = .ok (.goto (-121), 3) := by decide +kernel
theorem dX12_leads_164 : decode cX12_leads 164 = .ok (.aload_n 0, 1) := by decide +kernel
theorem dX12_leads_165 : decode cX12_leads 165 = .ok (.aload_n 0, 1) := by decide +kernel
theorem dX12_leads_166 : decode cX12_leads 166 = .ok (.getfield 78, 3) := by decide +kernel
theorem dX12_leads_169 : decode cX12_leads 169 = .ok (.aload_n 0, 1) := by decide +kernel
theorem dX12_leads_170 : decode cX12_leads 170 = .ok (.getfield 88, 3) := by decide +kernel
theorem dX12_leads_173 : decode cX12_leads 173 = .ok (.lmul, 1) := by decide +kernel
theorem dX12_leads_174 : decode cX12_leads 174 = .ok (.aload_n 0, 1) := by decide +kernel
theorem dX12_leads_175 : decode cX12_leads 175 = .ok (.getfield 82, 3) := by decide +kernel
theorem dX12_leads_178 : decode cX12_leads 178 = .ok (.aload_n 0, 1) := by decide +kernel
theorem dX12_leads_179 : decode cX12_leads 179 = .ok (.getfield 82, 3) := by decide +kernel
theorem dX12_leads_182 : decode cX12_leads 182 = .ok (.lmul, 1) := by decide +kernel
theorem dX12_leads_183 : decode cX12_leads 183 = .ok (.lsub, 1) := by decide +kernel
theorem dX12_leads_184 : decode cX12_leads 184 = .ok (.putfield 97, 3) := by decide +kernel
theorem dX12_leads_187 : decode cX12_leads 187 = .ok (.aload_n 0, 1) := by decide +kernel
theorem dX12_leads_188 : decode cX12_leads 188 = .ok (.getfield 97, 3) := by decide +kernel
theorem dX12_leads_191 : decode cX12_leads 191 = .ok (.lconst 0, 1) := by decide +kernel
theorem dX12_leads_192 : decode cX12_leads 192 = .ok (.lcmp, 1) := by decide +kernel
theorem dX12_leads_193 : decode cX12_leads 193 = .ok (.ifCond .le 7, 3) := by decide +kernel
theorem dX12_leads_196 : decode cX12_leads 196 = .ok (.iconst 1, 1) := by decide +kernel
theorem dX12_leads_197 : decode cX12_leads 197 = .ok (.goto 4, 3) := by decide +kernel
theorem dX12_leads_200 : decode cX12_leads 200 = .ok (.iconst 0, 1) := by decide +kernel
theorem dX12_leads_201 : decode cX12_leads 201 = .ok (.ireturn, 1) := by decide +kernel
theorem dX12_aboveAt_0 : decode cX12_aboveAt 0 = .ok (.aload_n 0, 1) := by decide +kernel
theorem dX12_aboveAt_1 : decode cX12_aboveAt 1 = .ok (.getfield 85, 3) := by decide +kernel
theorem dX12_aboveAt_4 : decode cX12_aboveAt 4 = .ok (.aload_n 0, 1) := by decide +kernel
theorem dX12_aboveAt_5 : decode cX12_aboveAt 5 = .ok (.getfield 97, 3) := by decide +kernel
theorem dX12_aboveAt_8 : decode cX12_aboveAt 8 = .ok (.lmul, 1) := by decide +kernel
theorem dX12_aboveAt_9 : decode cX12_aboveAt 9 = .ok (.aload_n 0, 1) := by decide +kernel
theorem dX12_aboveAt_10 : decode cX12_aboveAt 10 = .ok (.getfield 78, 3) := by decide +kernel
theorem dX12_aboveAt_13 : decode cX12_aboveAt 13 = .ok (.aload_n 0, 1) := by decide +kernel
theorem dX12_aboveAt_14 : decode cX12_aboveAt 14 = .ok (.getfield 91, 3) := by decide +kernel
theorem dX12_aboveAt_17 : decode cX12_aboveAt 17 = .ok (.lmul, 1) := by decide +kernel
theorem dX12_aboveAt_18 : decode cX12_aboveAt 18 = .ok (.aload_n 0, 1) := by decide +kernel
theorem dX12_aboveAt_19 : decode cX12_aboveAt 19 = .ok (.getfield 82, 3) := by decide +kernel
theorem dX12_aboveAt_22 : decode cX12_aboveAt 22 = .ok (.aload_n 0, 1) := by decide +kernel
theorem dX12_aboveAt_23 : decode cX12_aboveAt 23 = .ok (.getfield 85, 3) := by decide +kernel
theorem dX12_aboveAt_26 : decode cX12_aboveAt 26 = .ok (.lmul, 1) := by decide +kernel
theorem dX12_aboveAt_27 : decode cX12_aboveAt 27 = .ok (.lsub, 1) := by decide +kernel
theorem dX12_aboveAt_28 : decode cX12_aboveAt 28 = .ok (.aload_n 0, 1) := by decide +kernel
theorem dX12_aboveAt_29 : decode cX12_aboveAt 29 = .ok (.getfield 78, 3) := by decide +kernel
theorem dX12_aboveAt_32 : decode cX12_aboveAt 32 = .ok (.lload_n 1, 1) := by decide +kernel
theorem dX12_aboveAt_33 : decode cX12_aboveAt 33 = .ok (.lmul, 1) := by decide +kernel
theorem dX12_aboveAt_34 : decode cX12_aboveAt 34 = .ok (.aload_n 0, 1) := by decide +kernel
theorem dX12_aboveAt_35 : decode cX12_aboveAt 35 = .ok (.getfield 82, 3) := by decide +kernel
theorem dX12_aboveAt_38 : decode cX12_aboveAt 38 = .ok (.lsub, 1) := by decide +kernel
theorem dX12_aboveAt_39 : decode cX12_aboveAt 39 = .ok (.lmul, 1) := by decide +kernel
theorem dX12_aboveAt_40 : decode cX12_aboveAt 40 = .ok (.ladd, 1) := by decide +kernel
theorem dX12_aboveAt_41 : decode cX12_aboveAt 41 = .ok (.lreturn, 1) := by decide +kernel
theorem dX12_common_0 : decode cX12_common 0 = .ok (.lload_n 0, 1) := by decide +kernel
theorem dX12_common_1 : decode cX12_common 1 = .ok (.lconst 0, 1) := by decide +kernel
theorem dX12_common_2 : decode cX12_common 2 = .ok (.lcmp, 1) := by decide +kernel
theorem dX12_common_3 : decode cX12_common 3 = .ok (.ifCond .ge 8, 3) := by decide +kernel
theorem dX12_common_6 : decode cX12_common 6 = .ok (.lload_n 0, 1) := by decide +kernel
theorem dX12_common_7 : decode cX12_common 7 = .ok (.lneg, 1) := by decide +kernel
theorem dX12_common_8 : decode cX12_common 8 = .ok (.goto 4, 3) := by decide +kernel
theorem dX12_common_11 : decode cX12_common 11 = .ok (.lload_n 0, 1) := by decide +kernel
theorem dX12_common_12 : decode cX12_common 12 = .ok (.lstore 4, 2) := by decide +kernel
theorem dX12_common_14 : decode cX12_common 14 = .ok (.lload_n 2, 1) := by decide +kernel
theorem dX12_common_15 : decode cX12_common 15 = .ok (.lstore 6, 2) := by decide +kernel
theorem dX12_common_17 : decode cX12_common 17 = .ok (.lload 6, 2) := by decide +kernel
theorem dX12_common_19 : decode cX12_common 19 = .ok (.lconst 0, 1) := by decide +kernel
theorem dX12_common_20 : decode cX12_common 20 = .ok (.lcmp, 1) := by decide +kernel
theorem dX12_common_21 : decode cX12_common 21 = .ok (.ifCond .eq 21, 3) := by decide +kernel
theorem dX12_common_24 : decode cX12_common 24 = .ok (.lload 4, 2) := by decide +kernel
theorem dX12_common_26 : decode cX12_common 26 = .ok (.lload 6, 2) := by decide +kernel
theorem dX12_common_28 : decode cX12_common 28 = .ok (.lrem, 1) := by decide +kernel
theorem dX12_common_29 : decode cX12_common 29 = .ok (.lstore 8, 2) := by decide +kernel
theorem dX12_common_31 : decode cX12_common 31 = .ok (.lload 6, 2) := by decide +kernel
theorem dX12_common_33 : decode cX12_common 33 = .ok (.lstore 4, 2) := by decide +kernel
theorem dX12_common_35 : decode cX12_common 35 = .ok (.lload 8, 2) := by decide +kernel
theorem dX12_common_37 : decode cX12_common 37 = .ok (.lstore 6, 2) := by decide +kernel
theorem dX12_common_39 : decode cX12_common 39 = .ok (.goto (-22), 3) := by decide +kernel
theorem dX12_common_42 : decode cX12_common 42 = .ok (.lload 4, 2) := by decide +kernel
theorem dX12_common_44 : decode cX12_common 44 = .ok (.lreturn, 1) := by decide +kernel
set_option maxRecDepth 20000 in
theorem ggX12_part_X12_common : GoodIn wsX12_part wsX12_common := goodIn_sub (fw_c (fw_t (fw_t (fw_t (fw_t fw_h)))) (fw_n)) (by decide +kernel)
set_option maxRecDepth 20000 in
theorem gX12_part_X12_common : GoodIn wsX12_part (va_wsS RX12 100 yX12_common wsX12_common) := goodIn_app (goodIn_sub (fw_c (fw_t fw_h) (fw_c (fw_t (fw_t fw_h)) (fw_c (fw_t (fw_t (fw_t fw_h))) fw_n))) (by decide +kernel)) ggX12_part_X12_common
theorem dX12_part_0 : decode cX12_part 0 = .ok (.lload_n 0, 1) := by decide +kernel
theorem dX12_part_1 : decode cX12_part 1 = .ok (.lload_n 2, 1) := by decide +kernel
theorem dX12_part_2 : decode cX12_part 2 = .ok (.invokestatic 100, 3) := by decide +kernel
theorem dX12_part_5 : decode cX12_part 5 = .ok (.lstore 5, 2) := by decide +kernel
theorem dX12_part_7 : decode cX12_part 7 = .ok (.iload 4, 2) := by decide +kernel
theorem dX12_part_9 : decode cX12_part 9 = .ok (.ifCond .eq 7, 3) := by decide +kernel
theorem dX12_part_12 : decode cX12_part 12 = .ok (.lload_n 2, 1) := by decide +kernel
theorem dX12_part_13 : decode cX12_part 13 = .ok (.goto 4, 3) := by decide +kernel
theorem dX12_part_16 : decode cX12_part 16 = .ok (.lload_n 0, 1) := by decide +kernel
theorem dX12_part_17 : decode cX12_part 17 = .ok (.lload 5, 2) := by decide +kernel
theorem dX12_part_19 : decode cX12_part 19 = .ok (.ldiv, 1) := by decide +kernel
theorem dX12_part_20 : decode cX12_part 20 = .ok (.lreturn, 1) := by decide +kernel
set_option maxRecDepth 20000 in
theorem ggX12_led_X12_isPicture : GoodIn wsX12_led wsX12_isPicture := goodIn_sub (fw_c (fw_t (fw_l (fw_l (fw_t (fw_t (fw_t (fw_t (fw_t (fw_t (fw_t (fw_t fw_h))))))))))) (fw_a (fw_c (fw_t (fw_l (fw_l (fw_t (fw_t (fw_t (fw_t (fw_t (fw_t (fw_t (fw_t (fw_t fw_h)))))))))))) (fw_c (fw_t (fw_l (fw_l (fw_t (fw_t (fw_t (fw_t (fw_t (fw_t (fw_t (fw_t (fw_t (fw_t fw_h))))))))))))) (fw_c (fw_t (fw_l (fw_l (fw_t (fw_t (fw_t (fw_t (fw_t (fw_t (fw_t (fw_t (fw_t (fw_t (fw_t fw_h)))))))))))))) (fw_c (fw_t (fw_l (fw_l (fw_t (fw_t (fw_t (fw_t (fw_t (fw_t (fw_t fw_h)))))))))) (fw_c (fw_t (fw_l (fw_l (fw_t (fw_t (fw_t (fw_t (fw_t (fw_t (fw_t (fw_t (fw_t (fw_t (fw_t (fw_t fw_h))))))))))))))) fw_n))))) (fun _ h => fw_t (fw_r h)))) (by decide +kernel)
set_option maxRecDepth 20000 in
theorem gX12_led_X12_isPicture : GoodIn wsX12_led (wsV RX12 69 RX12 yX12_isPicture wsX12_isPicture) := goodIn_app (goodIn_sub (fw_c (fw_t (fw_l (fw_l (fw_t (fw_t (fw_t (fw_t fw_h))))))) (fw_c (fw_t (fw_l (fw_l (fw_t (fw_t (fw_t (fw_t (fw_t fw_h)))))))) (fw_c (fw_t (fw_l (fw_l (fw_t (fw_t (fw_t (fw_t (fw_t (fw_t fw_h))))))))) (fw_c (fw_t (fw_l (fw_l (fw_t (fw_t (fw_t (fw_t (fw_t (fw_t (fw_t fw_h)))))))))) fw_n)))) (by decide +kernel)) ggX12_led_X12_isPicture
set_option maxRecDepth 20000 in
theorem ggX12_led_X12_isNumber : GoodIn wsX12_led wsX12_isNumber := goodIn_sub (fw_c (fw_t (fw_l (fw_l (fw_t (fw_t (fw_t (fw_t (fw_t (fw_t (fw_t (fw_t (fw_t (fw_t (fw_t (fw_t (fw_t (fw_t (fw_t fw_h)))))))))))))))))) (fw_c (fw_t (fw_l (fw_l (fw_t (fw_t (fw_t (fw_t (fw_t (fw_t (fw_t (fw_t (fw_t (fw_t fw_h))))))))))))) (fw_c (fw_t (fw_l (fw_l (fw_t (fw_t (fw_t (fw_t (fw_t (fw_t (fw_t (fw_t (fw_t (fw_t (fw_t fw_h)))))))))))))) (fw_c (fw_t (fw_l (fw_l (fw_t (fw_t (fw_t (fw_t (fw_t (fw_t (fw_t fw_h)))))))))) (fw_c (fw_t (fw_l (fw_l (fw_t (fw_t (fw_t (fw_t (fw_t (fw_t (fw_t (fw_t (fw_t (fw_t (fw_t (fw_t fw_h))))))))))))))) fw_n))))) (by decide +kernel)
set_option maxRecDepth 20000 in
theorem gX12_led_X12_isNumber : GoodIn wsX12_led (va_wsS RX12 73 yX12_isNumber wsX12_isNumber) := goodIn_app (goodIn_sub (fw_c (fw_t (fw_l (fw_l (fw_t (fw_t (fw_t (fw_t (fw_t (fw_t (fw_t (fw_t (fw_t (fw_t (fw_t (fw_t (fw_t fw_h)))))))))))))))) (fw_c (fw_t (fw_l (fw_l (fw_t (fw_t (fw_t (fw_t (fw_t (fw_t (fw_t (fw_t (fw_t (fw_t (fw_t (fw_t (fw_t (fw_t fw_h))))))))))))))))) (fw_c (fw_t (fw_l (fw_l (fw_t (fw_t (fw_t (fw_t (fw_t (fw_t (fw_t fw_h)))))))))) fw_n))) (by decide +kernel)) ggX12_led_X12_isNumber
set_option maxRecDepth 20000 in
theorem ggX12_led_X12_finds : GoodIn wsX12_led wsX12_finds := goodIn_sub (fw_c (fw_t (fw_l (fw_l (fw_t (fw_t (fw_t (fw_t (fw_t (fw_t (fw_t (fw_t (fw_t (fw_t (fw_t (fw_t (fw_t (fw_t (fw_t (fw_t (fw_t (fw_t (fw_t fw_h)))))))))))))))))))))) (fw_a (fw_c (fw_t (fw_l (fw_l (fw_t (fw_t (fw_t (fw_t (fw_t (fw_t (fw_t (fw_t (fw_t (fw_t (fw_t (fw_t (fw_t (fw_t (fw_t (fw_t (fw_t (fw_t (fw_t (fw_t fw_h))))))))))))))))))))))) fw_n) (fun _ h => fw_t (fw_r h)))) (by decide +kernel)
set_option maxRecDepth 20000 in
theorem gX12_led_X12_finds : GoodIn wsX12_led (wsV RX12 56 RX12 yX12_finds wsX12_finds) := goodIn_app (goodIn_sub (fw_c (fw_t (fw_l (fw_l (fw_t (fw_t (fw_t (fw_t (fw_t (fw_t (fw_t (fw_t (fw_t (fw_t (fw_t (fw_t (fw_t (fw_t (fw_t (fw_t fw_h))))))))))))))))))) (fw_c (fw_t (fw_l (fw_l (fw_t (fw_t (fw_t (fw_t (fw_t (fw_t (fw_t (fw_t (fw_t (fw_t (fw_t (fw_t (fw_t (fw_t (fw_t (fw_t (fw_t fw_h)))))))))))))))))))) (fw_c (fw_t (fw_l (fw_l (fw_t (fw_t (fw_t (fw_t (fw_t (fw_t (fw_t (fw_t (fw_t (fw_t (fw_t (fw_t (fw_t (fw_t (fw_t (fw_t (fw_t (fw_t fw_h))))))))))))))))))))) (fw_c (fw_t (fw_l (fw_l (fw_t (fw_t (fw_t (fw_t (fw_t (fw_t (fw_t fw_h)))))))))) fw_n)))) (by decide +kernel)) ggX12_led_X12_finds
set_option maxRecDepth 20000 in
theorem ggX12_led_X12_leads : GoodIn wsX12_led wsX12_leads := goodIn_sub (fw_c (fw_t (fw_l (fw_r fw_h))) (fw_a (fw_c (fw_t (fw_l (fw_l (fw_t (fw_t (fw_t (fw_t (fw_t (fw_t (fw_t (fw_t (fw_t fw_h)))))))))))) (fw_c (fw_t (fw_l (fw_l (fw_t (fw_t fw_h))))) (fw_c (fw_t (fw_l (fw_r (fw_t fw_h)))) (fw_c (fw_t (fw_l (fw_r (fw_t (fw_t fw_h))))) (fw_c (fw_t (fw_l (fw_r (fw_t (fw_t (fw_t fw_h)))))) (fw_c (fw_t (fw_l (fw_r (fw_t (fw_t (fw_t (fw_t fw_h))))))) (fw_c (fw_t (fw_l (fw_r (fw_t (fw_t (fw_t (fw_t (fw_t fw_h)))))))) (fw_c (fw_t (fw_l (fw_l (fw_t (fw_t (fw_t fw_h)))))) fw_n)))))))) (fun _ h => fw_t (fw_r h)))) (by decide +kernel)
set_option maxRecDepth 20000 in
theorem gX12_led_X12_leads : GoodIn wsX12_led (wsV RX12 104 RX12 yX12_leads wsX12_leads) := goodIn_app (goodIn_sub (fw_c (fw_t (fw_l (fw_l (fw_t (fw_t (fw_t (fw_t (fw_t (fw_t (fw_t (fw_t (fw_t (fw_t (fw_t (fw_t (fw_t (fw_t (fw_t (fw_t (fw_t (fw_t (fw_t (fw_t (fw_t fw_h)))))))))))))))))))))))) (fw_c (fw_t (fw_l (fw_l (fw_t (fw_t (fw_t (fw_t (fw_t (fw_t (fw_t (fw_t (fw_t (fw_t (fw_t (fw_t (fw_t (fw_t (fw_t (fw_t (fw_t (fw_t (fw_t (fw_t (fw_t (fw_t fw_h))))))))))))))))))))))))) (fw_c (fw_t (fw_l (fw_l (fw_t (fw_t (fw_t (fw_t (fw_t (fw_t (fw_t (fw_t (fw_t (fw_t (fw_t (fw_t (fw_t (fw_t (fw_t (fw_t (fw_t (fw_t (fw_t (fw_t (fw_t (fw_t (fw_t fw_h)))))))))))))))))))))))))) (fw_c (fw_t (fw_l (fw_l (fw_t (fw_t (fw_t (fw_t (fw_t (fw_t (fw_t fw_h)))))))))) fw_n)))) (by decide +kernel)) ggX12_led_X12_leads
set_option maxRecDepth 20000 in
theorem ggX12_led_X12_aboveAt : GoodIn wsX12_led wsX12_aboveAt := goodIn_sub (fw_c (fw_t (fw_l (fw_r (fw_t (fw_t (fw_t (fw_t (fw_t (fw_t (fw_t (fw_t (fw_t fw_h)))))))))))) (fw_a (fw_c (fw_t (fw_l (fw_r (fw_t (fw_t fw_h))))) (fw_c (fw_t (fw_l (fw_l (fw_t (fw_t (fw_t fw_h)))))) (fw_c (fw_t (fw_l (fw_l (fw_t (fw_t fw_h))))) (fw_c (fw_t (fw_l (fw_r (fw_t (fw_t (fw_t (fw_t fw_h))))))) (fw_c (fw_t (fw_l (fw_r (fw_t fw_h)))) fw_n))))) (fun _ h => fw_t (fw_r h)))) (by decide +kernel)
set_option maxRecDepth 20000 in
theorem gX12_led_X12_aboveAt : GoodIn wsX12_led (wsV RX12 108 RX12 yX12_aboveAt wsX12_aboveAt) := goodIn_app (goodIn_sub (fw_c (fw_t (fw_l (fw_r (fw_t (fw_t (fw_t (fw_t (fw_t (fw_t fw_h))))))))) (fw_c (fw_t (fw_l (fw_r (fw_t (fw_t (fw_t (fw_t (fw_t (fw_t (fw_t fw_h)))))))))) (fw_c (fw_t (fw_l (fw_r (fw_t (fw_t (fw_t (fw_t (fw_t (fw_t (fw_t (fw_t fw_h))))))))))) (fw_c (fw_t (fw_l (fw_l (fw_t (fw_t (fw_t (fw_t (fw_t (fw_t (fw_t fw_h)))))))))) fw_n)))) (by decide +kernel)) ggX12_led_X12_aboveAt
set_option maxRecDepth 20000 in
theorem ggX12_led_X12_part : GoodIn wsX12_led wsX12_part := goodIn_sub (fw_c (fw_t (fw_l (fw_r (fw_t (fw_t (fw_t (fw_t (fw_t (fw_t (fw_t (fw_t (fw_t (fw_t (fw_t (fw_t fw_h))))))))))))))) (fw_c (fw_t (fw_l (fw_r (fw_t (fw_t (fw_t (fw_t (fw_t (fw_t (fw_t (fw_t (fw_t (fw_t (fw_t (fw_t (fw_t fw_h)))))))))))))))) (fw_c (fw_t (fw_l (fw_r (fw_t (fw_t (fw_t (fw_t (fw_t (fw_t (fw_t (fw_t (fw_t (fw_t (fw_t (fw_t (fw_t (fw_t fw_h))))))))))))))))) (fw_c (fw_t (fw_l (fw_l (fw_t (fw_t (fw_t (fw_t (fw_t (fw_t (fw_t fw_h)))))))))) (fw_c (fw_t (fw_l (fw_r (fw_t (fw_t (fw_t (fw_t (fw_t (fw_t (fw_t (fw_t (fw_t (fw_t (fw_t (fw_t (fw_t (fw_t (fw_t fw_h)))))))))))))))))) fw_n))))) (by decide +kernel)
set_option maxRecDepth 20000 in
theorem gX12_led_X12_part : GoodIn wsX12_led (va_wsS RX12 111 yX12_part wsX12_part) := goodIn_app (goodIn_sub (fw_c (fw_t (fw_l (fw_r (fw_t (fw_t (fw_t (fw_t (fw_t (fw_t (fw_t (fw_t (fw_t (fw_t fw_h))))))))))))) (fw_c (fw_t (fw_l (fw_r (fw_t (fw_t (fw_t (fw_t (fw_t (fw_t (fw_t (fw_t (fw_t (fw_t (fw_t fw_h)))))))))))))) (fw_c (fw_t (fw_l (fw_l (fw_t (fw_t (fw_t (fw_t (fw_t (fw_t (fw_t fw_h)))))))))) fw_n))) (by decide +kernel)) ggX12_led_X12_part
theorem dX12_led_0 : decode cX12_led 0 = .ok (.aload_n 0, 1) := by decide +kernel
theorem dX12_led_1 : decode cX12_led 1 = .ok (.iload_n 1, 1) := by decide +kernel
theorem dX12_led_2 : decode cX12_led 2 = .ok (.invokevirtual 69, 3) := by decide +kernel
theorem dX12_led_5 : decode cX12_led 5 = .ok (.ifCond .eq 10, 3) := by decide +kernel
theorem dX12_led_8 : decode cX12_led 8 = .ok (.iload_n 3, 1) := by decide +kernel
theorem dX12_led_9 : decode cX12_led 9 = .ok (.invokestatic 73, 3) := by decide +kernel
theorem dX12_led_12 : decode cX12_led 12 = .ok (.ifCond .ne 11, 3) := by decide +kernel
theorem dX12_led_15 : decode cX12_led 15 = .ok (.aload_n 0, 1) := by decide +kernel
theorem dX12_led_16 : decode cX12_led 16 = .ok (.ldc2_w 76, 3) := by decide +kernel
theorem dX12_led_19 : decode cX12_led 19 = .ok (.invokevirtual 56, 3) := by decide +kernel
theorem dX12_led_22 : decode cX12_led 22 = .ok (.lreturn, 1) := by decide +kernel
theorem dX12_led_23 : decode cX12_led 23 = .ok (.aload_n 0, 1) := by decide +kernel
theorem dX12_led_24 : decode cX12_led 24 = .ok (.iload_n 1, 1) := by decide +kernel
theorem dX12_led_25 : decode cX12_led 25 = .ok (.iload_n 2, 1) := by decide +kernel
theorem dX12_led_26 : decode cX12_led 26 = .ok (.ifCond .eq 7, 3) := by decide +kernel
theorem dX12_led_29 : decode cX12_led 29 = .ok (.iconst 1, 1) := by decide +kernel
theorem dX12_led_30 : decode cX12_led 30 = .ok (.goto 4, 3) := by decide +kernel
theorem dX12_led_33 : decode cX12_led 33 = .ok (.iconst 0, 1) := by decide +kernel
theorem dX12_led_34 : decode cX12_led 34 = .ok (.invokevirtual 104, 3) := by decide +kernel
theorem dX12_led_37 : decode cX12_led 37 = .ok (.ifCond .ne 11, 3) := by decide +kernel
theorem dX12_led_40 : decode cX12_led 40 = .ok (.aload_n 0, 1) := by decide +kernel
theorem dX12_led_41 : decode cX12_led 41 = .ok (.ldc2_w 54, 3) := by decide +kernel
theorem dX12_led_44 : decode cX12_led 44 = .ok (.invokevirtual 56, 3) := by decide +kernel
theorem dX12_led_47 : decode cX12_led 47 = .ok (.lreturn, 1) := by decide +kernel
theorem dX12_led_48 : decode cX12_led 48 = .ok (.aload_n 0, 1) := by decide +kernel
theorem dX12_led_49 : decode cX12_led 49 = .ok (.iload_n 3, 1) := by decide +kernel
theorem dX12_led_50 : decode cX12_led 50 = .ok (.i2l, 1) := by decide +kernel
theorem dX12_led_51 : decode cX12_led 51 = .ok (.invokevirtual 108, 3) := by decide +kernel
theorem dX12_led_54 : decode cX12_led 54 = .ok (.aload_n 0, 1) := by decide +kernel
theorem dX12_led_55 : decode cX12_led 55 = .ok (.getfield 78, 3) := by decide +kernel
theorem dX12_led_58 : decode cX12_led 58 = .ok (.aload_n 0, 1) := by decide +kernel
theorem dX12_led_59 : decode cX12_led 59 = .ok (.getfield 97, 3) := by decide +kernel
theorem dX12_led_62 : decode cX12_led 62 = .ok (.lmul, 1) := by decide +kernel
theorem dX12_led_63 : decode cX12_led 63 = .ok (.iload 4, 2) := by decide +kernel
theorem dX12_led_65 : decode cX12_led 65 = .ok (.invokestatic 111, 3) := by decide +kernel
theorem dX12_led_68 : decode cX12_led 68 = .ok (.lreturn, 1) := by decide +kernel
set_option maxRecDepth 20000 in
theorem ggX12_miss_X12_isPicture : GoodIn wsX12_miss wsX12_isPicture := goodIn_sub (fw_c (fw_t (fw_l (fw_l (fw_t (fw_t (fw_t (fw_t (fw_t (fw_t (fw_t (fw_t (fw_t (fw_t (fw_t (fw_t fw_h))))))))))))))) (fw_a (fw_c (fw_t (fw_l (fw_l (fw_t (fw_t (fw_t (fw_t (fw_t (fw_t (fw_t (fw_t (fw_t (fw_t (fw_t (fw_t (fw_t fw_h)))))))))))))))) (fw_c (fw_t (fw_l (fw_l (fw_t (fw_t (fw_t (fw_t (fw_t (fw_t (fw_t (fw_t (fw_t (fw_t (fw_t (fw_t (fw_t (fw_t fw_h))))))))))))))))) (fw_c (fw_t (fw_l (fw_l (fw_t (fw_t (fw_t (fw_t (fw_t (fw_t (fw_t (fw_t (fw_t (fw_t (fw_t (fw_t (fw_t (fw_t (fw_t fw_h)))))))))))))))))) (fw_c (fw_t (fw_l (fw_l (fw_t (fw_t (fw_t (fw_t (fw_t (fw_t (fw_t (fw_t (fw_t (fw_t (fw_t fw_h)))))))))))))) (fw_c (fw_t (fw_l (fw_l (fw_t (fw_t (fw_t (fw_t (fw_t (fw_t (fw_t (fw_t (fw_t (fw_t (fw_t (fw_t (fw_t (fw_t (fw_t (fw_t fw_h))))))))))))))))))) fw_n))))) (fun _ h => fw_t (fw_r h)))) (by decide +kernel)
set_option maxRecDepth 20000 in
theorem gX12_miss_X12_isPicture : GoodIn wsX12_miss (wsV RX12 69 RX12 yX12_isPicture wsX12_isPicture) := goodIn_app (goodIn_sub (fw_c (fw_t (fw_l (fw_l (fw_t (fw_t (fw_t (fw_t (fw_t (fw_t (fw_t (fw_t fw_h))))))))))) (fw_c (fw_t (fw_l (fw_l (fw_t (fw_t (fw_t (fw_t (fw_t (fw_t (fw_t (fw_t (fw_t fw_h)))))))))))) (fw_c (fw_t (fw_l (fw_l (fw_t (fw_t (fw_t (fw_t (fw_t (fw_t (fw_t (fw_t (fw_t (fw_t fw_h))))))))))))) (fw_c (fw_t (fw_l (fw_l (fw_t (fw_t (fw_t (fw_t (fw_t (fw_t (fw_t (fw_t (fw_t (fw_t (fw_t fw_h)))))))))))))) fw_n)))) (by decide +kernel)) ggX12_miss_X12_isPicture
set_option maxRecDepth 20000 in
theorem ggX12_miss_X12_finds : GoodIn wsX12_miss wsX12_finds := goodIn_sub (fw_c (fw_t (fw_l (fw_l (fw_t (fw_t (fw_t (fw_t (fw_t (fw_t (fw_t (fw_t (fw_t (fw_t (fw_t (fw_t (fw_t (fw_t (fw_t (fw_t (fw_t (fw_t (fw_t (fw_t fw_h))))))))))))))))))))))) (fw_a (fw_c (fw_t (fw_l (fw_l (fw_t (fw_t (fw_t (fw_t (fw_t (fw_t (fw_t (fw_t (fw_t (fw_t (fw_t (fw_t (fw_t (fw_t (fw_t (fw_t (fw_t (fw_t (fw_t (fw_t (fw_t fw_h)))))))))))))))))))))))) fw_n) (fun _ h => fw_t (fw_r h)))) (by decide +kernel)
set_option maxRecDepth 20000 in
theorem gX12_miss_X12_finds : GoodIn wsX12_miss (wsV RX12 56 RX12 yX12_finds wsX12_finds) := goodIn_app (goodIn_sub (fw_c (fw_t (fw_l (fw_l (fw_t (fw_t (fw_t (fw_t (fw_t (fw_t (fw_t (fw_t (fw_t (fw_t (fw_t (fw_t (fw_t (fw_t (fw_t (fw_t (fw_t fw_h)))))))))))))))))))) (fw_c (fw_t (fw_l (fw_l (fw_t (fw_t (fw_t (fw_t (fw_t (fw_t (fw_t (fw_t (fw_t (fw_t (fw_t (fw_t (fw_t (fw_t (fw_t (fw_t (fw_t (fw_t fw_h))))))))))))))))))))) (fw_c (fw_t (fw_l (fw_l (fw_t (fw_t (fw_t (fw_t (fw_t (fw_t (fw_t (fw_t (fw_t (fw_t (fw_t (fw_t (fw_t (fw_t (fw_t (fw_t (fw_t (fw_t (fw_t fw_h)))))))))))))))))))))) (fw_c (fw_t (fw_l (fw_l (fw_t (fw_t (fw_t (fw_t (fw_t (fw_t (fw_t (fw_t (fw_t (fw_t (fw_t fw_h)))))))))))))) fw_n)))) (by decide +kernel)) ggX12_miss_X12_finds
set_option maxRecDepth 20000 in
theorem ggX12_miss_X12_leads : GoodIn wsX12_miss wsX12_leads := goodIn_sub (fw_c (fw_t (fw_l (fw_r (fw_t fw_h)))) (fw_a (fw_c (fw_t (fw_l (fw_l (fw_t (fw_t (fw_t (fw_t (fw_t (fw_t (fw_t (fw_t (fw_t (fw_t (fw_t (fw_t (fw_t fw_h)))))))))))))))) (fw_c (fw_t (fw_l (fw_l (fw_t (fw_t fw_h))))) (fw_c (fw_t (fw_l (fw_l (fw_t (fw_t (fw_t (fw_t fw_h))))))) (fw_c (fw_t (fw_l (fw_l (fw_t (fw_t (fw_t (fw_t (fw_t fw_h)))))))) (fw_c (fw_t (fw_l (fw_r (fw_t (fw_t fw_h))))) (fw_c (fw_t (fw_l (fw_l (fw_t (fw_t (fw_t fw_h)))))) (fw_c (fw_t (fw_l (fw_l (fw_t (fw_t (fw_t (fw_t (fw_t (fw_t fw_h))))))))) (fw_c (fw_t (fw_l (fw_l (fw_t (fw_t (fw_t (fw_t (fw_t (fw_t (fw_t fw_h)))))))))) fw_n)))))))) (fun _ h => fw_t (fw_r h)))) (by decide +kernel)
set_option maxRecDepth 20000 in
theorem gX12_miss_X12_leads : GoodIn wsX12_miss (wsV RX12 104 RX12 yX12_leads wsX12_leads) := goodIn_app (goodIn_sub (fw_c (fw_t (fw_l (fw_l (fw_t (fw_t (fw_t (fw_t (fw_t (fw_t (fw_t (fw_t (fw_t (fw_t (fw_t (fw_t (fw_t (fw_t (fw_t (fw_t (fw_t (fw_t (fw_t (fw_t (fw_t (fw_t fw_h))))))))))))))))))))))))) (fw_c (fw_t (fw_l (fw_l (fw_t (fw_t (fw_t (fw_t (fw_t (fw_t (fw_t (fw_t (fw_t (fw_t (fw_t (fw_t (fw_t (fw_t (fw_t (fw_t (fw_t (fw_t (fw_t (fw_t (fw_t (fw_t (fw_t fw_h)))))))))))))))))))))))))) (fw_c (fw_t (fw_l (fw_r fw_h))) (fw_c (fw_t (fw_l (fw_l (fw_t (fw_t (fw_t (fw_t (fw_t (fw_t (fw_t (fw_t (fw_t (fw_t (fw_t fw_h)))))))))))))) fw_n)))) (by decide +kernel)) ggX12_miss_X12_leads
set_option maxRecDepth 20000 in
theorem ggX12_miss_X12_part : GoodIn wsX12_miss wsX12_part := goodIn_sub (fw_c (fw_t (fw_l (fw_r (fw_t (fw_t (fw_t (fw_t (fw_t fw_h)))))))) (fw_c (fw_t (fw_l (fw_r (fw_t (fw_t (fw_t (fw_t (fw_t (fw_t fw_h))))))))) (fw_c (fw_t (fw_l (fw_r (fw_t (fw_t (fw_t (fw_t (fw_t (fw_t (fw_t fw_h)))))))))) (fw_c (fw_t (fw_l (fw_l (fw_t (fw_t (fw_t (fw_t (fw_t (fw_t (fw_t (fw_t (fw_t (fw_t (fw_t fw_h)))))))))))))) (fw_c (fw_t (fw_l (fw_r (fw_t (fw_t (fw_t (fw_t (fw_t (fw_t (fw_t (fw_t fw_h))))))))))) fw_n))))) (by decide +kernel)
set_option maxRecDepth 20000 in
theorem gX12_miss_X12_part : GoodIn wsX12_miss (va_wsS RX12 111 yX12_part wsX12_part) := goodIn_app (goodIn_sub (fw_c (fw_t (fw_l (fw_r (fw_t (fw_t (fw_t fw_h)))))) (fw_c (fw_t (fw_l (fw_r (fw_t (fw_t (fw_t (fw_t fw_h))))))) (fw_c (fw_t (fw_l (fw_l (fw_t (fw_t (fw_t (fw_t (fw_t (fw_t (fw_t (fw_t (fw_t (fw_t (fw_t fw_h)))))))))))))) fw_n))) (by decide +kernel)) ggX12_miss_X12_part
theorem dX12_miss_0 : decode cX12_miss 0 = .ok (.aload_n 0, 1) := by decide +kernel
theorem dX12_miss_1 : decode cX12_miss 1 = .ok (.iload_n 1, 1) := by decide +kernel
theorem dX12_miss_2 : decode cX12_miss 2 = .ok (.invokevirtual 69, 3) := by decide +kernel
theorem dX12_miss_5 : decode cX12_miss 5 = .ok (.ifCond .ne 11, 3) := by decide +kernel
theorem dX12_miss_8 : decode cX12_miss 8 = .ok (.aload_n 0, 1) := by decide +kernel
theorem dX12_miss_9 : decode cX12_miss 9 = .ok (.ldc2_w 76, 3) := by decide +kernel
theorem dX12_miss_12 : decode cX12_miss 12 = .ok (.invokevirtual 56, 3) := by decide +kernel
theorem dX12_miss_15 : decode cX12_miss 15 = .ok (.lreturn, 1) := by decide +kernel
theorem dX12_miss_16 : decode cX12_miss 16 = .ok (.aload_n 0, 1) := by decide +kernel
theorem dX12_miss_17 : decode cX12_miss 17 = .ok (.iload_n 1, 1) := by decide +kernel
theorem dX12_miss_18 : decode cX12_miss 18 = .ok (.iload_n 2, 1) := by decide +kernel
theorem dX12_miss_19 : decode cX12_miss 19 = .ok (.ifCond .eq 7, 3) := by decide +kernel
theorem dX12_miss_22 : decode cX12_miss 22 = .ok (.iconst 1, 1) := by decide +kernel
theorem dX12_miss_23 : decode cX12_miss 23 = .ok (.goto 4, 3) := by decide +kernel
theorem dX12_miss_26 : decode cX12_miss 26 = .ok (.iconst 0, 1) := by decide +kernel
theorem dX12_miss_27 : decode cX12_miss 27 = .ok (.invokevirtual 104, 3) := by decide +kernel
theorem dX12_miss_30 : decode cX12_miss 30 = .ok (.ifCond .ne 11, 3) := by decide +kernel
theorem dX12_miss_33 : decode cX12_miss 33 = .ok (.aload_n 0, 1) := by decide +kernel
theorem dX12_miss_34 : decode cX12_miss 34 = .ok (.ldc2_w 54, 3) := by decide +kernel
theorem dX12_miss_37 : decode cX12_miss 37 = .ok (.invokevirtual 56, 3) := by decide +kernel
theorem dX12_miss_40 : decode cX12_miss 40 = .ok (.lreturn, 1) := by decide +kernel
theorem dX12_miss_41 : decode cX12_miss 41 = .ok (.aload_n 0, 1) := by decide +kernel
theorem dX12_miss_42 : decode cX12_miss 42 = .ok (.getfield 78, 3) := by decide +kernel
theorem dX12_miss_45 : decode cX12_miss 45 = .ok (.aload_n 0, 1) := by decide +kernel
theorem dX12_miss_46 : decode cX12_miss 46 = .ok (.getfield 91, 3) := by decide +kernel
theorem dX12_miss_49 : decode cX12_miss 49 = .ok (.lmul, 1) := by decide +kernel
theorem dX12_miss_50 : decode cX12_miss 50 = .ok (.aload_n 0, 1) := by decide +kernel
theorem dX12_miss_51 : decode cX12_miss 51 = .ok (.getfield 82, 3) := by decide +kernel
theorem dX12_miss_54 : decode cX12_miss 54 = .ok (.aload_n 0, 1) := by decide +kernel
theorem dX12_miss_55 : decode cX12_miss 55 = .ok (.getfield 85, 3) := by decide +kernel
theorem dX12_miss_58 : decode cX12_miss 58 = .ok (.lmul, 1) := by decide +kernel
theorem dX12_miss_59 : decode cX12_miss 59 = .ok (.lsub, 1) := by decide +kernel
theorem dX12_miss_60 : decode cX12_miss 60 = .ok (.lstore 4, 2) := by decide +kernel
theorem dX12_miss_62 : decode cX12_miss 62 = .ok (.aload_n 0, 1) := by decide +kernel
theorem dX12_miss_63 : decode cX12_miss 63 = .ok (.getfield 78, 3) := by decide +kernel
theorem dX12_miss_66 : decode cX12_miss 66 = .ok (.aload_n 0, 1) := by decide +kernel
theorem dX12_miss_67 : decode cX12_miss 67 = .ok (.getfield 94, 3) := by decide +kernel
theorem dX12_miss_70 : decode cX12_miss 70 = .ok (.lmul, 1) := by decide +kernel
theorem dX12_miss_71 : decode cX12_miss 71 = .ok (.aload_n 0, 1) := by decide +kernel
theorem dX12_miss_72 : decode cX12_miss 72 = .ok (.getfield 85, 3) := by decide +kernel
theorem dX12_miss_75 : decode cX12_miss 75 = .ok (.aload_n 0, 1) := by decide +kernel
theorem dX12_miss_76 : decode cX12_miss 76 = .ok (.getfield 85, 3) := by decide +kernel
theorem dX12_miss_79 : decode cX12_miss 79 = .ok (.lmul, 1) := by decide +kernel
theorem dX12_miss_80 : decode cX12_miss 80 = .ok (.lsub, 1) := by decide +kernel
theorem dX12_miss_81 : decode cX12_miss 81 = .ok (.aload_n 0, 1) := by decide +kernel
theorem dX12_miss_82 : decode cX12_miss 82 = .ok (.getfield 97, 3) := by decide +kernel
theorem dX12_miss_85 : decode cX12_miss 85 = .ok (.lmul, 1) := by decide +kernel
theorem dX12_miss_86 : decode cX12_miss 86 = .ok (.lload 4, 2) := by decide +kernel
theorem dX12_miss_88 : decode cX12_miss 88 = .ok (.lload 4, 2) := by decide +kernel
theorem dX12_miss_90 : decode cX12_miss 90 = .ok (.lmul, 1) := by decide +kernel
theorem dX12_miss_91 : decode cX12_miss 91 = .ok (.lsub, 1) := by decide +kernel
theorem dX12_miss_92 : decode cX12_miss 92 = .ok (.aload_n 0, 1) := by decide +kernel
theorem dX12_miss_93 : decode cX12_miss 93 = .ok (.getfield 78, 3) := by decide +kernel
theorem dX12_miss_96 : decode cX12_miss 96 = .ok (.aload_n 0, 1) := by decide +kernel
theorem dX12_miss_97 : decode cX12_miss 97 = .ok (.getfield 97, 3) := by decide +kernel
theorem dX12_miss_100 : decode cX12_miss 100 = .ok (.lmul, 1) := by decide +kernel
theorem dX12_miss_101 : decode cX12_miss 101 = .ok (.iload_n 3, 1) := by decide +kernel
theorem dX12_miss_102 : decode cX12_miss 102 = .ok (.invokestatic 111, 3) := by decide +kernel
theorem dX12_miss_105 : decode cX12_miss 105 = .ok (.lreturn, 1) := by decide +kernel
set_option maxRecDepth 20000 in
theorem ggX12_doubtOf_X12_leads : GoodIn wsX12_doubtOf wsX12_leads := goodIn_sub (fw_c (fw_t (fw_l (fw_t (fw_t (fw_t (fw_t (fw_t (fw_t (fw_t (fw_t fw_h)))))))))) (fw_a (fw_c (fw_t (fw_l (fw_t (fw_t (fw_t fw_h))))) (fw_c (fw_t (fw_l (fw_t fw_h))) (fw_c (fw_t (fw_l (fw_t (fw_t (fw_t (fw_t (fw_t (fw_t (fw_t (fw_t (fw_t fw_h))))))))))) (fw_c (fw_t (fw_l (fw_t (fw_t (fw_t (fw_t (fw_t (fw_t (fw_t (fw_t (fw_t (fw_t fw_h)))))))))))) (fw_c (fw_t (fw_l (fw_t (fw_t (fw_t (fw_t (fw_t (fw_t (fw_t (fw_t (fw_t (fw_t (fw_t fw_h))))))))))))) (fw_c (fw_t (fw_l (fw_t (fw_t (fw_t (fw_t (fw_t (fw_t (fw_t (fw_t (fw_t (fw_t (fw_t (fw_t fw_h)))))))))))))) (fw_c (fw_t (fw_l (fw_t (fw_t (fw_t (fw_t (fw_t (fw_t (fw_t (fw_t (fw_t (fw_t (fw_t (fw_t (fw_t fw_h))))))))))))))) (fw_c (fw_t (fw_l (fw_t (fw_t fw_h)))) fw_n)))))))) (fun _ h => fw_t (fw_r h)))) (by decide +kernel)
set_option maxRecDepth 20000 in
theorem gX12_doubtOf_X12_leads : GoodIn wsX12_doubtOf (wsV RX12 104 RX12 yX12_leads wsX12_leads) := goodIn_app (goodIn_sub (fw_c (fw_t (fw_l (fw_t (fw_t (fw_t (fw_t fw_h)))))) (fw_c (fw_t (fw_l (fw_t (fw_t (fw_t (fw_t (fw_t fw_h))))))) (fw_c (fw_t (fw_l (fw_t (fw_t (fw_t (fw_t (fw_t (fw_t fw_h)))))))) (fw_c (fw_t (fw_l (fw_t (fw_t (fw_t (fw_t (fw_t (fw_t (fw_t fw_h))))))))) fw_n)))) (by decide +kernel)) ggX12_doubtOf_X12_leads
set_option maxRecDepth 20000 in
theorem ggX12_doubtOf_X12_aboveAt : GoodIn wsX12_doubtOf wsX12_aboveAt := goodIn_sub (fw_c (fw_t (fw_l (fw_t (fw_t (fw_t (fw_t (fw_t (fw_t (fw_t (fw_t (fw_t (fw_t (fw_t (fw_t (fw_t (fw_t (fw_t (fw_t (fw_t fw_h))))))))))))))))))) (fw_a (fw_c (fw_t (fw_l (fw_t (fw_t (fw_t (fw_t (fw_t (fw_t (fw_t (fw_t (fw_t (fw_t fw_h)))))))))))) (fw_c (fw_t (fw_l (fw_t (fw_t fw_h)))) (fw_c (fw_t (fw_l (fw_t fw_h))) (fw_c (fw_t (fw_l (fw_t (fw_t (fw_t (fw_t (fw_t (fw_t (fw_t (fw_t (fw_t (fw_t (fw_t (fw_t fw_h)))))))))))))) (fw_c (fw_t (fw_l (fw_t (fw_t (fw_t (fw_t (fw_t (fw_t (fw_t (fw_t (fw_t fw_h))))))))))) fw_n))))) (fun _ h => fw_t (fw_r h)))) (by decide +kernel)
set_option maxRecDepth 20000 in
theorem gX12_doubtOf_X12_aboveAt : GoodIn wsX12_doubtOf (wsV RX12 108 RX12 yX12_aboveAt wsX12_aboveAt) := goodIn_app (goodIn_sub (fw_c (fw_t (fw_l (fw_t (fw_t (fw_t (fw_t (fw_t (fw_t (fw_t (fw_t (fw_t (fw_t (fw_t (fw_t (fw_t (fw_t fw_h)))))))))))))))) (fw_c (fw_t (fw_l (fw_t (fw_t (fw_t (fw_t (fw_t (fw_t (fw_t (fw_t (fw_t (fw_t (fw_t (fw_t (fw_t (fw_t (fw_t fw_h))))))))))))))))) (fw_c (fw_t (fw_l (fw_t (fw_t (fw_t (fw_t (fw_t (fw_t (fw_t (fw_t (fw_t (fw_t (fw_t (fw_t (fw_t (fw_t (fw_t (fw_t fw_h)))))))))))))))))) (fw_c (fw_t (fw_l (fw_t (fw_t (fw_t (fw_t (fw_t (fw_t (fw_t fw_h))))))))) fw_n)))) (by decide +kernel)) ggX12_doubtOf_X12_aboveAt
theorem dX12_doubtOf_0 : decode cX12_doubtOf 0 = .ok (.lconst 0, 1) := by decide +kernel
theorem dX12_doubtOf_1 : decode cX12_doubtOf 1 = .ok (.lstore_n 2, 1) := by decide +kernel
theorem dX12_doubtOf_2 : decode cX12_doubtOf 2 = .ok (.iconst 0, 1) := by decide +kernel
theorem dX12_doubtOf_3 : decode cX12_doubtOf 3 = .ok (.istore 4, 2) := by decide +kernel
theorem dX12_doubtOf_5 : decode cX12_doubtOf 5 = .ok (.iload 4, 2) := by decide +kernel
theorem dX12_doubtOf_7 : decode cX12_doubtOf 7 = .ok (.iconst 2, 1) := by decide +kernel
