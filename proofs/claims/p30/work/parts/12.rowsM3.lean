set_option maxRecDepth 20000 in
theorem gX12_look_X12_isWeather : GoodIn wsX12_look (va_wsS RX12 168 yX12_isWeather wsX12_isWeather) := goodIn_app (goodIn_sub (fw_c (fw_t (fw_l (fw_l (fw_t (fw_t (fw_t (fw_t (fw_t (fw_t (fw_t (fw_t (fw_t (fw_t (fw_t (fw_t fw_h))))))))))))))) (fw_c (fw_t (fw_l (fw_l (fw_t (fw_t (fw_t (fw_t (fw_t (fw_t (fw_t (fw_t (fw_t (fw_t (fw_t (fw_t (fw_t fw_h)))))))))))))))) (fw_c (fw_t (fw_l (fw_l (fw_t (fw_t (fw_t (fw_t (fw_t (fw_t (fw_t fw_h)))))))))) fw_n))) (by decide +kernel)) ggX12_look_X12_isWeather
set_option maxRecDepth 20000 in
theorem ggX12_look_X12_finds : GoodIn wsX12_look wsX12_finds := goodIn_sub (fw_c (fw_t (fw_l (fw_l (fw_t (fw_t (fw_t (fw_t (fw_t (fw_t (fw_t (fw_t (fw_t (fw_t (fw_t (fw_t (fw_t (fw_t (fw_t (fw_t (fw_t (fw_t fw_h))))))))))))))))))))) (fw_a (fw_c (fw_t (fw_l (fw_l (fw_t (fw_t (fw_t (fw_t (fw_t (fw_t (fw_t (fw_t (fw_t (fw_t (fw_t (fw_t (fw_t (fw_t (fw_t (fw_t (fw_t (fw_t (fw_t fw_h)))))))))))))))))))))) fw_n) (fun _ h => fw_t (fw_r h)))) (by decide +kernel)
set_option maxRecDepth 20000 in
theorem gX12_look_X12_finds : GoodIn wsX12_look (wsV RX12 56 RX12 yX12_finds wsX12_finds) := goodIn_app (goodIn_sub (fw_c (fw_t (fw_l (fw_l (fw_t (fw_t (fw_t (fw_t (fw_t (fw_t (fw_t (fw_t (fw_t (fw_t (fw_t (fw_t (fw_t (fw_t (fw_t fw_h)))))))))))))))))) (fw_c (fw_t (fw_l (fw_l (fw_t (fw_t (fw_t (fw_t (fw_t (fw_t (fw_t (fw_t (fw_t (fw_t (fw_t (fw_t (fw_t (fw_t (fw_t (fw_t fw_h))))))))))))))))))) (fw_c (fw_t (fw_l (fw_l (fw_t (fw_t (fw_t (fw_t (fw_t (fw_t (fw_t (fw_t (fw_t (fw_t (fw_t (fw_t (fw_t (fw_t (fw_t (fw_t (fw_t fw_h)))))))))))))))))))) (fw_c (fw_t (fw_l (fw_l (fw_t (fw_t (fw_t (fw_t (fw_t (fw_t (fw_t fw_h)))))))))) fw_n)))) (by decide +kernel)) ggX12_look_X12_finds
set_option maxRecDepth 20000 in
theorem ggX12_look_X12_ofField : GoodIn wsX12_look wsX12_ofField := goodIn_sub (fw_c (fw_t (fw_l (fw_l (fw_t (fw_t (fw_t (fw_t (fw_t (fw_t (fw_t (fw_t (fw_t (fw_t (fw_t (fw_t (fw_t (fw_t (fw_t (fw_t (fw_t (fw_t (fw_t (fw_t (fw_t (fw_t (fw_t fw_h)))))))))))))))))))))))))) (fw_a (fw_c (fw_t (fw_l (fw_l (fw_t (fw_t (fw_t fw_h)))))) fw_n) (fun _ h => fw_t (fw_r h)))) (by decide +kernel)
set_option maxRecDepth 20000 in
theorem gX12_look_X12_ofField : GoodIn wsX12_look (wsV RX12 171 RX12 yX12_ofField wsX12_ofField) := goodIn_app (goodIn_sub (fw_c (fw_t (fw_l (fw_l (fw_t (fw_t (fw_t (fw_t (fw_t (fw_t (fw_t (fw_t (fw_t (fw_t (fw_t (fw_t (fw_t (fw_t (fw_t (fw_t (fw_t (fw_t (fw_t (fw_t fw_h))))))))))))))))))))))) (fw_c (fw_t (fw_l (fw_l (fw_t (fw_t (fw_t (fw_t (fw_t (fw_t (fw_t (fw_t (fw_t (fw_t (fw_t (fw_t (fw_t (fw_t (fw_t (fw_t (fw_t (fw_t (fw_t (fw_t (fw_t fw_h)))))))))))))))))))))))) (fw_c (fw_t (fw_l (fw_l (fw_t (fw_t (fw_t (fw_t (fw_t (fw_t (fw_t (fw_t (fw_t (fw_t (fw_t (fw_t (fw_t (fw_t (fw_t (fw_t (fw_t (fw_t (fw_t (fw_t (fw_t (fw_t fw_h))))))))))))))))))))))))) (fw_c (fw_t (fw_l (fw_l (fw_t (fw_t (fw_t (fw_t (fw_t (fw_t (fw_t fw_h)))))))))) fw_n)))) (by decide +kernel)) ggX12_look_X12_ofField
set_option maxRecDepth 20000 in
theorem ggX12_look_X12_keep : GoodIn wsX12_look wsX12_keep := goodIn_sub (fw_c (fw_t (fw_l (fw_r (fw_t (fw_t (fw_t fw_h)))))) (fw_a (fw_c (fw_t (fw_l (fw_r (fw_t (fw_t (fw_t (fw_t fw_h))))))) (fw_c (fw_t (fw_l (fw_r (fw_t (fw_t (fw_t (fw_t (fw_t fw_h)))))))) (fw_c (fw_t (fw_l (fw_l (fw_t (fw_t (fw_t fw_h)))))) (fw_c (fw_t (fw_l (fw_r (fw_t (fw_t (fw_t (fw_t (fw_t (fw_t fw_h))))))))) fw_n)))) (fun _ h => fw_t (fw_r h)))) (by decide +kernel)
set_option maxRecDepth 20000 in
theorem gX12_look_X12_keep : GoodIn wsX12_look (wsV RX12 66 RX12 yX12_keep wsX12_keep) := goodIn_app (goodIn_sub (fw_c (fw_t (fw_l (fw_r fw_h))) (fw_c (fw_t (fw_l (fw_r (fw_t fw_h)))) (fw_c (fw_t (fw_l (fw_r (fw_t (fw_t fw_h))))) (fw_c (fw_t (fw_l (fw_l (fw_t (fw_t (fw_t (fw_t (fw_t (fw_t (fw_t fw_h)))))))))) fw_n)))) (by decide +kernel)) ggX12_look_X12_keep
theorem dX12_look_0 : decode cX12_look 0 = .ok (.aload_n 0, 1) := by decide +kernel
theorem dX12_look_1 : decode cX12_look 1 = .ok (.iload_n 1, 1) := by decide +kernel
theorem dX12_look_2 : decode cX12_look 2 = .ok (.invokevirtual 165, 3) := by decide +kernel
theorem dX12_look_5 : decode cX12_look 5 = .ok (.ifCond .eq 11, 3) := by decide +kernel
theorem dX12_look_8 : decode cX12_look 8 = .ok (.iload_n 2, 1) := by decide +kernel
theorem dX12_look_9 : decode cX12_look 9 = .ok (.iload_n 3, 1) := by decide +kernel
theorem dX12_look_10 : decode cX12_look 10 = .ok (.invokestatic 168, 3) := by decide +kernel
theorem dX12_look_13 : decode cX12_look 13 = .ok (.ifCond .ne 11, 3) := by decide +kernel
theorem dX12_look_16 : decode cX12_look 16 = .ok (.aload_n 0, 1) := by decide +kernel
theorem dX12_look_17 : decode cX12_look 17 = .ok (.ldc2_w 76, 3) := by decide +kernel
theorem dX12_look_20 : decode cX12_look 20 = .ok (.invokevirtual 56, 3) := by decide +kernel
theorem dX12_look_23 : decode cX12_look 23 = .ok (.lreturn, 1) := by decide +kernel
theorem dX12_look_24 : decode cX12_look 24 = .ok (.aload_n 0, 1) := by decide +kernel
theorem dX12_look_25 : decode cX12_look 25 = .ok (.iload_n 1, 1) := by decide +kernel
theorem dX12_look_26 : decode cX12_look 26 = .ok (.iconst 3, 1) := by decide +kernel
theorem dX12_look_27 : decode cX12_look 27 = .ok (.invokevirtual 171, 3) := by decide +kernel
theorem dX12_look_30 : decode cX12_look 30 = .ok (.iconst 1, 1) := by decide +kernel
theorem dX12_look_31 : decode cX12_look 31 = .ok (.if_icmp .ne 11, 3) := by decide +kernel
theorem dX12_look_34 : decode cX12_look 34 = .ok (.aload_n 0, 1) := by decide +kernel
theorem dX12_look_35 : decode cX12_look 35 = .ok (.ldc2_w 131, 3) := by decide +kernel
theorem dX12_look_38 : decode cX12_look 38 = .ok (.invokevirtual 56, 3) := by decide +kernel
theorem dX12_look_41 : decode cX12_look 41 = .ok (.lreturn, 1) := by decide +kernel
theorem dX12_look_42 : decode cX12_look 42 = .ok (.aload_n 0, 1) := by decide +kernel
theorem dX12_look_43 : decode cX12_look 43 = .ok (.iload_n 1, 1) := by decide +kernel
theorem dX12_look_44 : decode cX12_look 44 = .ok (.iconst 4, 1) := by decide +kernel
theorem dX12_look_45 : decode cX12_look 45 = .ok (.invokevirtual 171, 3) := by decide +kernel
theorem dX12_look_48 : decode cX12_look 48 = .ok (.istore 5, 2) := by decide +kernel
theorem dX12_look_50 : decode cX12_look 50 = .ok (.iload 5, 2) := by decide +kernel
theorem dX12_look_52 : decode cX12_look 52 = .ok (.iconst 4, 1) := by decide +kernel
theorem dX12_look_53 : decode cX12_look 53 = .ok (.if_icmp .ne 11, 3) := by decide +kernel
theorem dX12_look_56 : decode cX12_look 56 = .ok (.aload_n 0, 1) := by decide +kernel
theorem dX12_look_57 : decode cX12_look 57 = .ok (.ldc2_w 64, 3) := by decide +kernel
theorem dX12_look_60 : decode cX12_look 60 = .ok (.invokevirtual 56, 3) := by decide +kernel
theorem dX12_look_63 : decode cX12_look 63 = .ok (.lreturn, 1) := by decide +kernel
theorem dX12_look_64 : decode cX12_look 64 = .ok (.aload_n 0, 1) := by decide +kernel
theorem dX12_look_65 : decode cX12_look 65 = .ok (.invokevirtual 66, 3) := by decide +kernel
theorem dX12_look_68 : decode cX12_look 68 = .ok (.sipush 374, 3) := by decide +kernel
theorem dX12_look_71 : decode cX12_look 71 = .ok (.bipush 12, 2) := by decide +kernel
theorem dX12_look_73 : decode cX12_look 73 = .ok (.iload_n 1, 1) := by decide +kernel
theorem dX12_look_74 : decode cX12_look 74 = .ok (.imul, 1) := by decide +kernel
theorem dX12_look_75 : decode cX12_look 75 = .ok (.iadd, 1) := by decide +kernel
theorem dX12_look_76 : decode cX12_look 76 = .ok (.iconst 3, 1) := by decide +kernel
theorem dX12_look_77 : decode cX12_look 77 = .ok (.iload 5, 2) := by decide +kernel
theorem dX12_look_79 : decode cX12_look 79 = .ok (.imul, 1) := by decide +kernel
theorem dX12_look_80 : decode cX12_look 80 = .ok (.iadd, 1) := by decide +kernel
theorem dX12_look_81 : decode cX12_look 81 = .ok (.istore 6, 2) := by decide +kernel
theorem dX12_look_83 : decode cX12_look 83 = .ok (.aload_n 0, 1) := by decide +kernel
theorem dX12_look_84 : decode cX12_look 84 = .ok (.getfield 9, 3) := by decide +kernel
theorem dX12_look_87 : decode cX12_look 87 = .ok (.iload 6, 2) := by decide +kernel
theorem dX12_look_89 : decode cX12_look 89 = .ok (.iload_n 2, 1) := by decide +kernel
theorem dX12_look_90 : decode cX12_look 90 = .ok (.iastore, 1) := by decide +kernel
theorem dX12_look_91 : decode cX12_look 91 = .ok (.aload_n 0, 1) := by decide +kernel
theorem dX12_look_92 : decode cX12_look 92 = .ok (.getfield 9, 3) := by decide +kernel
theorem dX12_look_95 : decode cX12_look 95 = .ok (.iload 6, 2) := by decide +kernel
theorem dX12_look_97 : decode cX12_look 97 = .ok (.iconst 1, 1) := by decide +kernel
theorem dX12_look_98 : decode cX12_look 98 = .ok (.iadd, 1) := by decide +kernel
theorem dX12_look_99 : decode cX12_look 99 = .ok (.iload_n 3, 1) := by decide +kernel
theorem dX12_look_100 : decode cX12_look 100 = .ok (.iastore, 1) := by decide +kernel
theorem dX12_look_101 : decode cX12_look 101 = .ok (.aload_n 0, 1) := by decide +kernel
theorem dX12_look_102 : decode cX12_look 102 = .ok (.getfield 9, 3) := by decide +kernel
theorem dX12_look_105 : decode cX12_look 105 = .ok (.iload 6, 2) := by decide +kernel
theorem dX12_look_107 : decode cX12_look 107 = .ok (.iconst 2, 1) := by decide +kernel
theorem dX12_look_108 : decode cX12_look 108 = .ok (.iadd, 1) := by decide +kernel
theorem dX12_look_109 : decode cX12_look 109 = .ok (.iload 4, 2) := by decide +kernel
theorem dX12_look_111 : decode cX12_look 111 = .ok (.ifCond .eq 7, 3) := by decide +kernel
theorem dX12_look_114 : decode cX12_look 114 = .ok (.iconst 1, 1) := by decide +kernel
theorem dX12_look_115 : decode cX12_look 115 = .ok (.goto 4, 3) := by decide +kernel
theorem dX12_look_118 : decode cX12_look 118 = .ok (.iconst 0, 1) := by decide +kernel
theorem dX12_look_119 : decode cX12_look 119 = .ok (.iastore, 1) := by decide +kernel
theorem dX12_look_120 : decode cX12_look 120 = .ok (.aload_n 0, 1) := by decide +kernel
theorem dX12_look_121 : decode cX12_look 121 = .ok (.getfield 9, 3) := by decide +kernel
theorem dX12_look_124 : decode cX12_look 124 = .ok (.sipush 334, 3) := by decide +kernel
theorem dX12_look_127 : decode cX12_look 127 = .ok (.iconst 5, 1) := by decide +kernel
theorem dX12_look_128 : decode cX12_look 128 = .ok (.iload_n 1, 1) := by decide +kernel
theorem dX12_look_129 : decode cX12_look 129 = .ok (.imul, 1) := by decide +kernel
theorem dX12_look_130 : decode cX12_look 130 = .ok (.iadd, 1) := by decide +kernel
theorem dX12_look_131 : decode cX12_look 131 = .ok (.iconst 4, 1) := by decide +kernel
theorem dX12_look_132 : decode cX12_look 132 = .ok (.iadd, 1) := by decide +kernel
theorem dX12_look_133 : decode cX12_look 133 = .ok (.dup2, 1) := by decide +kernel
theorem dX12_look_134 : decode cX12_look 134 = .ok (.iaload, 1) := by decide +kernel
theorem dX12_look_135 : decode cX12_look 135 = .ok (.iconst 1, 1) := by decide +kernel
theorem dX12_look_136 : decode cX12_look 136 = .ok (.iadd, 1) := by decide +kernel
theorem dX12_look_137 : decode cX12_look 137 = .ok (.iastore, 1) := by decide +kernel
theorem dX12_look_138 : decode cX12_look 138 = .ok (.iload 5, 2) := by decide +kernel
theorem dX12_look_140 : decode cX12_look 140 = .ok (.iconst 1, 1) := by decide +kernel
theorem dX12_look_141 : decode cX12_look 141 = .ok (.iadd, 1) := by decide +kernel
theorem dX12_look_142 : decode cX12_look 142 = .ok (.i2l, 1) := by decide +kernel
theorem dX12_look_143 : decode cX12_look 143 = .ok (.lreturn, 1) := by decide +kernel
theorem dX12_showAt_0 : decode cX12_showAt 0 = .ok (.sipush 470, 3) := by decide +kernel
theorem dX12_showAt_3 : decode cX12_showAt 3 = .ok (.iconst 2, 1) := by decide +kernel
theorem dX12_showAt_4 : decode cX12_showAt 4 = .ok (.bipush 16, 2) := by decide +kernel
theorem dX12_showAt_6 : decode cX12_showAt 6 = .ok (.iload_n 0, 1) := by decide +kernel
theorem dX12_showAt_7 : decode cX12_showAt 7 = .ok (.imul, 1) := by decide +kernel
theorem dX12_showAt_8 : decode cX12_showAt 8 = .ok (.iconst 4, 1) := by decide +kernel
theorem dX12_showAt_9 : decode cX12_showAt 9 = .ok (.iload_n 1, 1) := by decide +kernel
theorem dX12_showAt_10 : decode cX12_showAt 10 = .ok (.imul, 1) := by decide +kernel
theorem dX12_showAt_11 : decode cX12_showAt 11 = .ok (.iadd, 1) := by decide +kernel
theorem dX12_showAt_12 : decode cX12_showAt 12 = .ok (.iload_n 2, 1) := by decide +kernel
theorem dX12_showAt_13 : decode cX12_showAt 13 = .ok (.iadd, 1) := by decide +kernel
theorem dX12_showAt_14 : decode cX12_showAt 14 = .ok (.imul, 1) := by decide +kernel
theorem dX12_showAt_15 : decode cX12_showAt 15 = .ok (.iadd, 1) := by decide +kernel
theorem dX12_showAt_16 : decode cX12_showAt 16 = .ok (.ireturn, 1) := by decide +kernel
set_option maxRecDepth 20000 in
theorem ggX12_wasSeen_X12_ofField : GoodIn wsX12_wasSeen wsX12_ofField := goodIn_sub (fw_c (fw_t (fw_l (fw_t (fw_t (fw_t (fw_t (fw_t fw_h))))))) (fw_a (fw_c (fw_t (fw_l fw_h)) fw_n) (fun _ h => fw_t (fw_r h)))) (by decide +kernel)
set_option maxRecDepth 20000 in
theorem gX12_wasSeen_X12_ofField : GoodIn wsX12_wasSeen (wsV RX12 171 RX12 yX12_ofField wsX12_ofField) := goodIn_app (goodIn_sub (fw_c (fw_t (fw_l (fw_t fw_h))) (fw_c (fw_t (fw_l (fw_t (fw_t fw_h)))) (fw_c (fw_t (fw_l (fw_t (fw_t (fw_t fw_h))))) (fw_c (fw_t (fw_l (fw_t (fw_t (fw_t (fw_t fw_h)))))) fw_n)))) (by decide +kernel)) ggX12_wasSeen_X12_ofField
theorem dX12_wasSeen_0 : decode cX12_wasSeen 0 = .ok (.iconst 0, 1) := by decide +kernel
theorem dX12_wasSeen_1 : decode cX12_wasSeen 1 = .ok (.istore_n 2, 1) := by decide +kernel
theorem dX12_wasSeen_2 : decode cX12_wasSeen 2 = .ok (.iload_n 2, 1) := by decide +kernel
theorem dX12_wasSeen_3 : decode cX12_wasSeen 3 = .ok (.aload_n 0, 1) := by decide +kernel
theorem dX12_wasSeen_4 : decode cX12_wasSeen 4 = .ok (.iload_n 1, 1) := by decide +kernel
theorem dX12_wasSeen_5 : decode cX12_wasSeen 5 = .ok (.iconst 4, 1) := by decide +kernel
theorem dX12_wasSeen_6 : decode cX12_wasSeen 6 = .ok (.invokevirtual 171, 3) := by decide +kernel
theorem dX12_wasSeen_9 : decode cX12_wasSeen 9 = .ok (.if_icmp .ge 34, 3) := by decide +kernel
theorem dX12_wasSeen_12 : decode cX12_wasSeen 12 = .ok (.aload_n 0, 1) := by decide +kernel
theorem dX12_wasSeen_13 : decode cX12_wasSeen 13 = .ok (.getfield 9, 3) := by decide +kernel
theorem dX12_wasSeen_16 : decode cX12_wasSeen 16 = .ok (.sipush 374, 3) := by decide +kernel
theorem dX12_wasSeen_19 : decode cX12_wasSeen 19 = .ok (.bipush 12, 2) := by decide +kernel
theorem dX12_wasSeen_21 : decode cX12_wasSeen 21 = .ok (.iload_n 1, 1) := by decide +kernel
theorem dX12_wasSeen_22 : decode cX12_wasSeen 22 = .ok (.imul, 1) := by decide +kernel
theorem dX12_wasSeen_23 : decode cX12_wasSeen 23 = .ok (.iadd, 1) := by decide +kernel
theorem dX12_wasSeen_24 : decode cX12_wasSeen 24 = .ok (.iconst 3, 1) := by decide +kernel
theorem dX12_wasSeen_25 : decode cX12_wasSeen 25 = .ok (.iload_n 2, 1) := by decide +kernel
theorem dX12_wasSeen_26 : decode cX12_wasSeen 26 = .ok (.imul, 1) := by decide +kernel
theorem dX12_wasSeen_27 : decode cX12_wasSeen 27 = .ok (.iadd, 1) := by decide +kernel
theorem dX12_wasSeen_28 : decode cX12_wasSeen 28 = .ok (.iconst 2, 1) := by decide +kernel
theorem dX12_wasSeen_29 : decode cX12_wasSeen 29 = .ok (.iadd, 1) := by decide +kernel
theorem dX12_wasSeen_30 : decode cX12_wasSeen 30 = .ok (.iaload, 1) := by decide +kernel
theorem dX12_wasSeen_31 : decode cX12_wasSeen 31 = .ok (.iconst 1, 1) := by decide +kernel
theorem dX12_wasSeen_32 : decode cX12_wasSeen 32 = .ok (.if_icmp .ne 5, 3) := by decide +kernel
theorem dX12_wasSeen_35 : decode cX12_wasSeen 35 = .ok (.iconst 1, 1) := by decide +kernel
theorem dX12_wasSeen_36 : decode cX12_wasSeen 36 = .ok (.ireturn, 1) := by decide +kernel
theorem dX12_wasSeen_37 : decode cX12_wasSeen 37 = .ok (.iinc 2 1, 3) := by decide +kernel
theorem dX12_wasSeen_40 : decode cX12_wasSeen 40 = .ok (.goto (-38), 3) := by decide +kernel
theorem dX12_wasSeen_43 : decode cX12_wasSeen 43 = .ok (.iconst 0, 1) := by decide +kernel
theorem dX12_wasSeen_44 : decode cX12_wasSeen 44 = .ok (.ireturn, 1) := by decide +kernel
set_option maxRecDepth 20000 in
theorem ggX12_belief_X12_isField : GoodIn wsX12_belief wsX12_isField := goodIn_sub (fw_c (fw_t (fw_l (fw_l (fw_t (fw_t (fw_t (fw_t (fw_t (fw_t fw_h))))))))) (fw_a (fw_c (fw_t (fw_l (fw_l (fw_t fw_h)))) (fw_c (fw_t (fw_l (fw_l (fw_t (fw_t (fw_t (fw_t (fw_t (fw_t (fw_t fw_h)))))))))) (fw_c (fw_t (fw_l (fw_l (fw_t (fw_t (fw_t (fw_t (fw_t (fw_t (fw_t (fw_t fw_h))))))))))) (fw_c (fw_t (fw_l (fw_l (fw_t (fw_t (fw_t (fw_t (fw_t fw_h)))))))) (fw_c (fw_t (fw_l (fw_l (fw_t (fw_t (fw_t (fw_t (fw_t (fw_t (fw_t (fw_t (fw_t fw_h)))))))))))) fw_n))))) (fun _ h => fw_t (fw_r h)))) (by decide +kernel)
set_option maxRecDepth 20000 in
theorem gX12_belief_X12_isField : GoodIn wsX12_belief (wsV RX12 165 RX12 yX12_isField wsX12_isField) := goodIn_app (goodIn_sub (fw_c (fw_t (fw_l (fw_l (fw_t (fw_t fw_h))))) (fw_c (fw_t (fw_l (fw_l (fw_t (fw_t (fw_t fw_h)))))) (fw_c (fw_t (fw_l (fw_l (fw_t (fw_t (fw_t (fw_t fw_h))))))) (fw_c (fw_t (fw_l (fw_l (fw_t (fw_t (fw_t (fw_t (fw_t fw_h)))))))) fw_n)))) (by decide +kernel)) ggX12_belief_X12_isField
set_option maxRecDepth 20000 in
theorem ggX12_belief_X12_finds : GoodIn wsX12_belief wsX12_finds := goodIn_sub (fw_c (fw_t (fw_l (fw_l (fw_t (fw_t (fw_t (fw_t (fw_t (fw_t (fw_t (fw_t (fw_t (fw_t (fw_t (fw_t (fw_t fw_h)))))))))))))))) (fw_a (fw_c (fw_t (fw_l (fw_l (fw_t (fw_t (fw_t (fw_t (fw_t (fw_t (fw_t (fw_t (fw_t (fw_t (fw_t (fw_t (fw_t (fw_t fw_h))))))))))))))))) fw_n) (fun _ h => fw_t (fw_r h)))) (by decide +kernel)
set_option maxRecDepth 20000 in
theorem gX12_belief_X12_finds : GoodIn wsX12_belief (wsV RX12 56 RX12 yX12_finds wsX12_finds) := goodIn_app (goodIn_sub (fw_c (fw_t (fw_l (fw_l (fw_t (fw_t (fw_t (fw_t (fw_t (fw_t (fw_t (fw_t (fw_t (fw_t fw_h))))))))))))) (fw_c (fw_t (fw_l (fw_l (fw_t (fw_t (fw_t (fw_t (fw_t (fw_t (fw_t (fw_t (fw_t (fw_t (fw_t fw_h)))))))))))))) (fw_c (fw_t (fw_l (fw_l (fw_t (fw_t (fw_t (fw_t (fw_t (fw_t (fw_t (fw_t (fw_t (fw_t (fw_t (fw_t fw_h))))))))))))))) (fw_c (fw_t (fw_l (fw_l (fw_t (fw_t (fw_t (fw_t (fw_t fw_h)))))))) fw_n)))) (by decide +kernel)) ggX12_belief_X12_finds
set_option maxRecDepth 20000 in
theorem ggX12_belief_X12_wasSeen : GoodIn wsX12_belief wsX12_wasSeen := goodIn_sub (fw_c (fw_t (fw_l (fw_l (fw_t (fw_t (fw_t (fw_t (fw_t (fw_t (fw_t (fw_t (fw_t (fw_t (fw_t (fw_t (fw_t (fw_t (fw_t (fw_t (fw_t (fw_t fw_h))))))))))))))))))))) (fw_a (fw_c (fw_t (fw_l (fw_l (fw_t fw_h)))) (fw_c (fw_t (fw_l (fw_l (fw_t (fw_t (fw_t (fw_t (fw_t (fw_t (fw_t (fw_t (fw_t (fw_t (fw_t (fw_t (fw_t (fw_t (fw_t (fw_t (fw_t (fw_t (fw_t fw_h)))))))))))))))))))))) (fw_c (fw_t (fw_l (fw_l (fw_t (fw_t (fw_t (fw_t (fw_t (fw_t (fw_t (fw_t (fw_t (fw_t (fw_t (fw_t (fw_t (fw_t (fw_t (fw_t (fw_t (fw_t (fw_t (fw_t fw_h))))))))))))))))))))))) (fw_c (fw_t (fw_l (fw_l (fw_t (fw_t (fw_t (fw_t (fw_t (fw_t (fw_t (fw_t (fw_t (fw_t (fw_t (fw_t (fw_t (fw_t (fw_t (fw_t (fw_t (fw_t (fw_t (fw_t (fw_t fw_h)))))))))))))))))))))))) (fw_c (fw_t (fw_l (fw_l (fw_t (fw_t (fw_t (fw_t (fw_t fw_h)))))))) (fw_c (fw_t (fw_l (fw_l (fw_t (fw_t (fw_t (fw_t (fw_t (fw_t (fw_t (fw_t (fw_t (fw_t (fw_t (fw_t (fw_t (fw_t (fw_t (fw_t (fw_t (fw_t (fw_t (fw_t (fw_t (fw_t fw_h))))))))))))))))))))))))) fw_n)))))) (fun _ h => fw_t (fw_r h)))) (by decide +kernel)
set_option maxRecDepth 20000 in
theorem gX12_belief_X12_wasSeen : GoodIn wsX12_belief (wsV RX12 174 RX12 yX12_wasSeen wsX12_wasSeen) := goodIn_app (goodIn_sub (fw_c (fw_t (fw_l (fw_l (fw_t (fw_t (fw_t (fw_t (fw_t (fw_t (fw_t (fw_t (fw_t (fw_t (fw_t (fw_t (fw_t (fw_t (fw_t fw_h)))))))))))))))))) (fw_c (fw_t (fw_l (fw_l (fw_t (fw_t (fw_t (fw_t (fw_t (fw_t (fw_t (fw_t (fw_t (fw_t (fw_t (fw_t (fw_t (fw_t (fw_t (fw_t fw_h))))))))))))))))))) (fw_c (fw_t (fw_l (fw_l (fw_t (fw_t (fw_t (fw_t (fw_t (fw_t (fw_t (fw_t (fw_t (fw_t (fw_t (fw_t (fw_t (fw_t (fw_t (fw_t (fw_t fw_h)))))))))))))))))))) (fw_c (fw_t (fw_l (fw_l (fw_t (fw_t (fw_t (fw_t (fw_t fw_h)))))))) fw_n)))) (by decide +kernel)) ggX12_belief_X12_wasSeen
set_option maxRecDepth 20000 in
theorem ggX12_belief_X12_ofField : GoodIn wsX12_belief wsX12_ofField := goodIn_sub (fw_c (fw_t (fw_l (fw_l (fw_t (fw_t (fw_t (fw_t (fw_t (fw_t (fw_t (fw_t (fw_t (fw_t (fw_t (fw_t (fw_t (fw_t (fw_t (fw_t (fw_t (fw_t (fw_t (fw_t (fw_t (fw_t fw_h))))))))))))))))))))))))) (fw_a (fw_c (fw_t (fw_l (fw_l (fw_t fw_h)))) fw_n) (fun _ h => fw_t (fw_r h)))) (by decide +kernel)
set_option maxRecDepth 20000 in
theorem gX12_belief_X12_ofField : GoodIn wsX12_belief (wsV RX12 171 RX12 yX12_ofField wsX12_ofField) := goodIn_app (goodIn_sub (fw_c (fw_t (fw_l (fw_l (fw_t (fw_t (fw_t (fw_t (fw_t (fw_t (fw_t (fw_t (fw_t (fw_t (fw_t (fw_t (fw_t (fw_t (fw_t (fw_t (fw_t (fw_t (fw_t fw_h)))))))))))))))))))))) (fw_c (fw_t (fw_l (fw_l (fw_t (fw_t (fw_t (fw_t (fw_t (fw_t (fw_t (fw_t (fw_t (fw_t (fw_t (fw_t (fw_t (fw_t (fw_t (fw_t (fw_t (fw_t (fw_t (fw_t fw_h))))))))))))))))))))))) (fw_c (fw_t (fw_l (fw_l (fw_t (fw_t (fw_t (fw_t (fw_t (fw_t (fw_t (fw_t (fw_t (fw_t (fw_t (fw_t (fw_t (fw_t (fw_t (fw_t (fw_t (fw_t (fw_t (fw_t (fw_t fw_h)))))))))))))))))))))))) (fw_c (fw_t (fw_l (fw_l (fw_t (fw_t (fw_t (fw_t (fw_t fw_h)))))))) fw_n)))) (by decide +kernel)) ggX12_belief_X12_ofField
set_option maxRecDepth 20000 in
theorem ggX12_belief_X12_showAt : GoodIn wsX12_belief wsX12_showAt := goodIn_sub (fw_c (fw_t (fw_l (fw_r (fw_t fw_h)))) (fw_n)) (by decide +kernel)
set_option maxRecDepth 20000 in
theorem gX12_belief_X12_showAt : GoodIn wsX12_belief (va_wsS RX12 177 yX12_showAt wsX12_showAt) := goodIn_app (goodIn_sub (fw_c (fw_t (fw_l (fw_l (fw_t (fw_t (fw_t (fw_t (fw_t (fw_t (fw_t (fw_t (fw_t (fw_t (fw_t (fw_t (fw_t (fw_t (fw_t (fw_t (fw_t (fw_t (fw_t (fw_t (fw_t (fw_t (fw_t fw_h)))))))))))))))))))))))))) (fw_c (fw_t (fw_l (fw_r fw_h))) (fw_c (fw_t (fw_l (fw_l (fw_t (fw_t (fw_t (fw_t (fw_t fw_h)))))))) fw_n))) (by decide +kernel)) ggX12_belief_X12_showAt
set_option maxRecDepth 20000 in
theorem ggX12_belief_X12_part : GoodIn wsX12_belief wsX12_part := goodIn_sub (fw_c (fw_t (fw_l (fw_r (fw_t (fw_t (fw_t (fw_t fw_h))))))) (fw_c (fw_t (fw_l (fw_r (fw_t (fw_t (fw_t (fw_t (fw_t fw_h)))))))) (fw_c (fw_t (fw_l (fw_r (fw_t (fw_t (fw_t (fw_t (fw_t (fw_t fw_h))))))))) (fw_c (fw_t (fw_l (fw_l (fw_t (fw_t (fw_t (fw_t (fw_t fw_h)))))))) (fw_c (fw_t (fw_l (fw_r (fw_t (fw_t (fw_t (fw_t (fw_t (fw_t (fw_t fw_h)))))))))) fw_n))))) (by decide +kernel)
set_option maxRecDepth 20000 in
theorem gX12_belief_X12_part : GoodIn wsX12_belief (va_wsS RX12 111 yX12_part wsX12_part) := goodIn_app (goodIn_sub (fw_c (fw_t (fw_l (fw_r (fw_t (fw_t fw_h))))) (fw_c (fw_t (fw_l (fw_r (fw_t (fw_t (fw_t fw_h)))))) (fw_c (fw_t (fw_l (fw_l (fw_t (fw_t (fw_t (fw_t (fw_t fw_h)))))))) fw_n))) (by decide +kernel)) ggX12_belief_X12_part
theorem dX12_belief_0 : decode cX12_belief 0 = .ok (.aload_n 0, 1) := by decide +kernel
theorem dX12_belief_1 : decode cX12_belief 1 = .ok (.iload_n 1, 1) := by decide +kernel
theorem dX12_belief_2 : decode cX12_belief 2 = .ok (.invokevirtual 165, 3) := by decide +kernel
theorem dX12_belief_5 : decode cX12_belief 5 = .ok (.ifCond .ne 11, 3) := by decide +kernel
theorem dX12_belief_8 : decode cX12_belief 8 = .ok (.aload_n 0, 1) := by decide +kernel
theorem dX12_belief_9 : decode cX12_belief 9 = .ok (.ldc2_w 76, 3) := by decide +kernel
theorem dX12_belief_12 : decode cX12_belief 12 = .ok (.invokevirtual 56, 3) := by decide +kernel
theorem dX12_belief_15 : decode cX12_belief 15 = .ok (.lreturn, 1) := by decide +kernel
theorem dX12_belief_16 : decode cX12_belief 16 = .ok (.aload_n 0, 1) := by decide +kernel
theorem dX12_belief_17 : decode cX12_belief 17 = .ok (.iload_n 1, 1) := by decide +kernel
theorem dX12_belief_18 : decode cX12_belief 18 = .ok (.invokevirtual 174, 3) := by decide +kernel
theorem dX12_belief_21 : decode cX12_belief 21 = .ok (.ifCond .eq 5, 3) := by decide +kernel
theorem dX12_belief_24 : decode cX12_belief 24 = .ok (.lconst 1, 1) := by decide +kernel
theorem dX12_belief_25 : decode cX12_belief 25 = .ok (.lreturn, 1) := by decide +kernel
theorem dX12_belief_26 : decode cX12_belief 26 = .ok (.aload_n 0, 1) := by decide +kernel
theorem dX12_belief_27 : decode cX12_belief 27 = .ok (.iload_n 1, 1) := by decide +kernel
theorem dX12_belief_28 : decode cX12_belief 28 = .ok (.iconst 1, 1) := by decide +kernel
theorem dX12_belief_29 : decode cX12_belief 29 = .ok (.invokevirtual 171, 3) := by decide +kernel
theorem dX12_belief_32 : decode cX12_belief 32 = .ok (.i2l, 1) := by decide +kernel
theorem dX12_belief_33 : decode cX12_belief 33 = .ok (.lstore_n 3, 1) := by decide +kernel
theorem dX12_belief_34 : decode cX12_belief 34 = .ok (.bipush 100, 2) := by decide +kernel
theorem dX12_belief_36 : decode cX12_belief 36 = .ok (.aload_n 0, 1) := by decide +kernel
theorem dX12_belief_37 : decode cX12_belief 37 = .ok (.iload_n 1, 1) := by decide +kernel
theorem dX12_belief_38 : decode cX12_belief 38 = .ok (.iconst 1, 1) := by decide +kernel
theorem dX12_belief_39 : decode cX12_belief 39 = .ok (.invokevirtual 171, 3) := by decide +kernel
theorem dX12_belief_42 : decode cX12_belief 42 = .ok (.isub, 1) := by decide +kernel
theorem dX12_belief_43 : decode cX12_belief 43 = .ok (.i2l, 1) := by decide +kernel
theorem dX12_belief_44 : decode cX12_belief 44 = .ok (.lstore 5, 2) := by decide +kernel
theorem dX12_belief_46 : decode cX12_belief 46 = .ok (.iconst 0, 1) := by decide +kernel
theorem dX12_belief_47 : decode cX12_belief 47 = .ok (.istore 7, 2) := by decide +kernel
theorem dX12_belief_49 : decode cX12_belief 49 = .ok (.iload 7, 2) := by decide +kernel
theorem dX12_belief_51 : decode cX12_belief 51 = .ok (.aload_n 0, 1) := by decide +kernel
theorem dX12_belief_52 : decode cX12_belief 52 = .ok (.iload_n 1, 1) := by decide +kernel
theorem dX12_belief_53 : decode cX12_belief 53 = .ok (.iconst 4, 1) := by decide +kernel
theorem dX12_belief_54 : decode cX12_belief 54 = .ok (.invokevirtual 171, 3) := by decide +kernel
theorem dX12_belief_57 : decode cX12_belief 57 = .ok (.if_icmp .ge 94, 3) := by decide +kernel
theorem dX12_belief_60 : decode cX12_belief 60 = .ok (.aload_n 0, 1) := by decide +kernel
theorem dX12_belief_61 : decode cX12_belief 61 = .ok (.iload_n 1, 1) := by decide +kernel
theorem dX12_belief_62 : decode cX12_belief 62 = .ok (.iconst 0, 1) := by decide +kernel
theorem dX12_belief_63 : decode cX12_belief 63 = .ok (.invokevirtual 171, 3) := by decide +kernel
theorem dX12_belief_66 : decode cX12_belief 66 = .ok (.aload_n 0, 1) := by decide +kernel
theorem dX12_belief_67 : decode cX12_belief 67 = .ok (.getfield 9, 3) := by decide +kernel
theorem dX12_belief_70 : decode cX12_belief 70 = .ok (.sipush 374, 3) := by decide +kernel
theorem dX12_belief_73 : decode cX12_belief 73 = .ok (.bipush 12, 2) := by decide +kernel
theorem dX12_belief_75 : decode cX12_belief 75 = .ok (.iload_n 1, 1) := by decide +kernel
theorem dX12_belief_76 : decode cX12_belief 76 = .ok (.imul, 1) := by decide +kernel
theorem dX12_belief_77 : decode cX12_belief 77 = .ok (.iadd, 1) := by decide +kernel
theorem dX12_belief_78 : decode cX12_belief 78 = .ok (.iconst 3, 1) := by decide +kernel
theorem dX12_belief_79 : decode cX12_belief 79 = .ok (.iload 7, 2) := by decide +kernel
theorem dX12_belief_81 : decode cX12_belief 81 = .ok (.imul, 1) := by decide +kernel
theorem dX12_belief_82 : decode cX12_belief 82 = .ok (.iadd, 1) := by decide +kernel
theorem dX12_belief_83 : decode cX12_belief 83 = .ok (.iaload, 1) := by decide +kernel
theorem dX12_belief_84 : decode cX12_belief 84 = .ok (.aload_n 0, 1) := by decide +kernel
theorem dX12_belief_85 : decode cX12_belief 85 = .ok (.getfield 9, 3) := by decide +kernel
theorem dX12_belief_88 : decode cX12_belief 88 = .ok (.sipush 374, 3) := by decide +kernel
theorem dX12_belief_91 : decode cX12_belief 91 = .ok (.bipush 12, 2) := by decide +kernel
theorem dX12_belief_93 : decode cX12_belief 93 = .ok (.iload_n 1, 1) := by decide +kernel
theorem dX12_belief_94 : decode cX12_belief 94 = .ok (.imul, 1) := by decide +kernel
theorem dX12_belief_95 : decode cX12_belief 95 = .ok (.iadd, 1) := by decide +kernel
theorem dX12_belief_96 : decode cX12_belief 96 = .ok (.iconst 3, 1) := by decide +kernel
theorem dX12_belief_97 : decode cX12_belief 97 = .ok (.iload 7, 2) := by decide +kernel
theorem dX12_belief_99 : decode cX12_belief 99 = .ok (.imul, 1) := by decide +kernel
theorem dX12_belief_100 : decode cX12_belief 100 = .ok (.iadd, 1) := by decide +kernel
theorem dX12_belief_101 : decode cX12_belief 101 = .ok (.iconst 1, 1) := by decide +kernel
theorem dX12_belief_102 : decode cX12_belief 102 = .ok (.iadd, 1) := by decide +kernel
theorem dX12_belief_103 : decode cX12_belief 103 = .ok (.iaload, 1) := by decide +kernel
theorem dX12_belief_104 : decode cX12_belief 104 = .ok (.invokestatic 177, 3) := by decide +kernel
theorem dX12_belief_107 : decode cX12_belief 107 = .ok (.istore 8, 2) := by decide +kernel
theorem dX12_belief_109 : decode cX12_belief 109 = .ok (.lload_n 3, 1) := by decide +kernel
theorem dX12_belief_110 : decode cX12_belief 110 = .ok (.aload_n 0, 1) := by decide +kernel
theorem dX12_belief_111 : decode cX12_belief 111 = .ok (.getfield 9, 3) := by decide +kernel
theorem dX12_belief_114 : decode cX12_belief 114 = .ok (.iload 8, 2) := by decide +kernel
theorem dX12_belief_116 : decode cX12_belief 116 = .ok (.iconst 1, 1) := by decide +kernel
theorem dX12_belief_117 : decode cX12_belief 117 = .ok (.iadd, 1) := by decide +kernel
theorem dX12_belief_118 : decode cX12_belief 118 = .ok (.iaload, 1) := by decide +kernel
theorem dX12_belief_119 : decode cX12_belief 119 = .ok (.aload_n 0, 1) := by decide +kernel
theorem dX12_belief_120 : decode cX12_belief 120 = .ok (.getfield 9, 3) := by decide +kernel
theorem dX12_belief_123 : decode cX12_belief 123 = .ok (.iload 8, 2) := by decide +kernel
theorem dX12_belief_125 : decode cX12_belief 125 = .ok (.iaload, 1) := by decide +kernel
theorem dX12_belief_126 : decode cX12_belief 126 = .ok (.isub, 1) := by decide +kernel
theorem dX12_belief_127 : decode cX12_belief 127 = .ok (.i2l, 1) := by decide +kernel
theorem dX12_belief_128 : decode cX12_belief 128 = .ok (.lmul, 1) := by decide +kernel
theorem dX12_belief_129 : decode cX12_belief 129 = .ok (.lstore_n 3, 1) := by decide +kernel
theorem dX12_belief_130 : decode cX12_belief 130 = .ok (.lload 5, 2) := by decide +kernel
theorem dX12_belief_132 : decode cX12_belief 132 = .ok (.aload_n 0, 1) := by decide +kernel
theorem dX12_belief_133 : decode cX12_belief 133 = .ok (.getfield 9, 3) := by decide +kernel
theorem dX12_belief_136 : decode cX12_belief 136 = .ok (.iload 8, 2) := by decide +kernel
theorem dX12_belief_138 : decode cX12_belief 138 = .ok (.iconst 1, 1) := by decide +kernel
theorem dX12_belief_139 : decode cX12_belief 139 = .ok (.iadd, 1) := by decide +kernel
theorem dX12_belief_140 : decode cX12_belief 140 = .ok (.iaload, 1) := by decide +kernel
theorem dX12_belief_141 : decode cX12_belief 141 = .ok (.i2l, 1) := by decide +kernel
theorem dX12_belief_142 : decode cX12_belief 142 = .ok (.lmul, 1) := by decide +kernel
theorem dX12_belief_143 : decode cX12_belief 143 = .ok (.lstore 5, 2) := by decide +kernel
theorem dX12_belief_145 : decode cX12_belief 145 = .ok (.iinc 7 1, 3) := by decide +kernel
theorem dX12_belief_148 : decode cX12_belief 148 = .ok (.goto (-99), 3) := by decide +kernel
theorem dX12_belief_151 : decode cX12_belief 151 = .ok (.lload_n 3, 1) := by decide +kernel
theorem dX12_belief_152 : decode cX12_belief 152 = .ok (.lload_n 3, 1) := by decide +kernel
theorem dX12_belief_153 : decode cX12_belief 153 = .ok (.lload 5, 2) := by decide +kernel
theorem dX12_belief_155 : decode cX12_belief 155 = .ok (.ladd, 1) := by decide +kernel
theorem dX12_belief_156 : decode cX12_belief 156 = .ok (.iload_n 2, 1) := by decide +kernel
theorem dX12_belief_157 : decode cX12_belief 157 = .ok (.invokestatic 111, 3) := by decide +kernel
theorem dX12_belief_160 : decode cX12_belief 160 = .ok (.lreturn, 1) := by decide +kernel
set_option maxRecDepth 20000 in
theorem ggX12_showing_X12_in : GoodIn wsX12_showing wsX12_in := goodIn_sub (fw_c (fw_t (fw_l (fw_t (fw_t (fw_t (fw_t (fw_t fw_h))))))) (fw_n)) (by decide +kernel)
set_option maxRecDepth 20000 in
theorem gX12_showing_X12_in : GoodIn wsX12_showing (va_wsS RX12 60 yX12_in wsX12_in) := goodIn_app (goodIn_sub (fw_c (fw_t (fw_l (fw_t (fw_t fw_h)))) (fw_c (fw_t (fw_l (fw_t (fw_t (fw_t fw_h))))) (fw_c (fw_t (fw_l (fw_t (fw_t (fw_t (fw_t fw_h)))))) fw_n))) (by decide +kernel)) ggX12_showing_X12_in
set_option maxRecDepth 20000 in
theorem ggX12_showing_X12_isWeather : GoodIn wsX12_showing wsX12_isWeather := goodIn_sub (fw_c (fw_t (fw_l (fw_t (fw_t (fw_t (fw_t (fw_t (fw_t (fw_t (fw_t fw_h)))))))))) (fw_c (fw_t (fw_l (fw_t (fw_t fw_h)))) (fw_c (fw_t (fw_l (fw_t (fw_t (fw_t fw_h))))) (fw_c (fw_t (fw_l (fw_t (fw_t (fw_t (fw_t fw_h)))))) (fw_c (fw_t (fw_l (fw_t (fw_t (fw_t (fw_t (fw_t fw_h))))))) fw_n))))) (by decide +kernel)
set_option maxRecDepth 20000 in
theorem gX12_showing_X12_isWeather : GoodIn wsX12_showing (va_wsS RX12 168 yX12_isWeather wsX12_isWeather) := goodIn_app (goodIn_sub (fw_c (fw_t (fw_l (fw_t (fw_t (fw_t (fw_t (fw_t (fw_t fw_h)))))))) (fw_c (fw_t (fw_l (fw_t (fw_t (fw_t (fw_t (fw_t (fw_t (fw_t fw_h))))))))) (fw_c (fw_t (fw_l (fw_t (fw_t (fw_t (fw_t fw_h)))))) fw_n))) (by decide +kernel)) ggX12_showing_X12_isWeather
set_option maxRecDepth 20000 in
theorem ggX12_showing_X12_finds : GoodIn wsX12_showing wsX12_finds := goodIn_sub (fw_c (fw_t (fw_l (fw_t (fw_t (fw_t (fw_t (fw_t (fw_t (fw_t (fw_t (fw_t (fw_t (fw_t (fw_t fw_h)))))))))))))) (fw_a (fw_c (fw_t (fw_l (fw_t (fw_t (fw_t (fw_t (fw_t (fw_t (fw_t (fw_t (fw_t (fw_t (fw_t (fw_t (fw_t fw_h))))))))))))))) fw_n) (fun _ h => fw_t (fw_r h)))) (by decide +kernel)
set_option maxRecDepth 20000 in
theorem gX12_showing_X12_finds : GoodIn wsX12_showing (wsV RX12 56 RX12 yX12_finds wsX12_finds) := goodIn_app (goodIn_sub (fw_c (fw_t (fw_l (fw_t (fw_t (fw_t (fw_t (fw_t (fw_t (fw_t (fw_t (fw_t fw_h))))))))))) (fw_c (fw_t (fw_l (fw_t (fw_t (fw_t (fw_t (fw_t (fw_t (fw_t (fw_t (fw_t (fw_t fw_h)))))))))))) (fw_c (fw_t (fw_l (fw_t (fw_t (fw_t (fw_t (fw_t (fw_t (fw_t (fw_t (fw_t (fw_t (fw_t fw_h))))))))))))) (fw_c (fw_t (fw_l (fw_t (fw_t (fw_t (fw_t fw_h)))))) fw_n)))) (by decide +kernel)) ggX12_showing_X12_finds
set_option maxRecDepth 20000 in
theorem ggX12_showing_X12_showAt : GoodIn wsX12_showing wsX12_showAt := goodIn_sub (fw_c (fw_t (fw_l (fw_t (fw_t (fw_t (fw_t (fw_t (fw_t (fw_t (fw_t (fw_t (fw_t (fw_t (fw_t (fw_t (fw_t (fw_t (fw_t fw_h)))))))))))))))))) (fw_n)) (by decide +kernel)
set_option maxRecDepth 20000 in
theorem gX12_showing_X12_showAt : GoodIn wsX12_showing (va_wsS RX12 177 yX12_showAt wsX12_showAt) := goodIn_app (goodIn_sub (fw_c (fw_t (fw_l (fw_t (fw_t (fw_t (fw_t (fw_t (fw_t (fw_t (fw_t (fw_t (fw_t (fw_t (fw_t (fw_t (fw_t fw_h)))))))))))))))) (fw_c (fw_t (fw_l (fw_t (fw_t (fw_t (fw_t (fw_t (fw_t (fw_t (fw_t (fw_t (fw_t (fw_t (fw_t (fw_t (fw_t (fw_t fw_h))))))))))))))))) (fw_c (fw_t (fw_l (fw_t (fw_t (fw_t (fw_t fw_h)))))) fw_n))) (by decide +kernel)) ggX12_showing_X12_showAt
theorem dX12_showing_0 : decode cX12_showing 0 = .ok (.iload_n 1, 1) := by decide +kernel
theorem dX12_showing_1 : decode cX12_showing 1 = .ok (.iconst 0, 1) := by decide +kernel
theorem dX12_showing_2 : decode cX12_showing 2 = .ok (.iconst 3, 1) := by decide +kernel
theorem dX12_showing_3 : decode cX12_showing 3 = .ok (.invokestatic 60, 3) := by decide +kernel
theorem dX12_showing_6 : decode cX12_showing 6 = .ok (.ifCond .eq 11, 3) := by decide +kernel
theorem dX12_showing_9 : decode cX12_showing 9 = .ok (.iload_n 2, 1) := by decide +kernel
theorem dX12_showing_10 : decode cX12_showing 10 = .ok (.iload_n 3, 1) := by decide +kernel
theorem dX12_showing_11 : decode cX12_showing 11 = .ok (.invokestatic 168, 3) := by decide +kernel
theorem dX12_showing_14 : decode cX12_showing 14 = .ok (.ifCond .ne 11, 3) := by decide +kernel
theorem dX12_showing_17 : decode cX12_showing 17 = .ok (.aload_n 0, 1) := by decide +kernel
theorem dX12_showing_18 : decode cX12_showing 18 = .ok (.ldc2_w 76, 3) := by decide +kernel
theorem dX12_showing_21 : decode cX12_showing 21 = .ok (.invokevirtual 56, 3) := by decide +kernel
theorem dX12_showing_24 : decode cX12_showing 24 = .ok (.lreturn, 1) := by decide +kernel
theorem dX12_showing_25 : decode cX12_showing 25 = .ok (.aload_n 0, 1) := by decide +kernel
theorem dX12_showing_26 : decode cX12_showing 26 = .ok (.getfield 9, 3) := by decide +kernel
theorem dX12_showing_29 : decode cX12_showing 29 = .ok (.iload_n 1, 1) := by decide +kernel
theorem dX12_showing_30 : decode cX12_showing 30 = .ok (.iload_n 2, 1) := by decide +kernel
theorem dX12_showing_31 : decode cX12_showing 31 = .ok (.iload_n 3, 1) := by decide +kernel
theorem dX12_showing_32 : decode cX12_showing 32 = .ok (.invokestatic 177, 3) := by decide +kernel
theorem dX12_showing_35 : decode cX12_showing 35 = .ok (.iload 4, 2) := by decide +kernel
theorem dX12_showing_37 : decode cX12_showing 37 = .ok (.ifCond .eq 7, 3) := by decide +kernel
theorem dX12_showing_40 : decode cX12_showing 40 = .ok (.iconst 1, 1) := by decide +kernel
theorem dX12_showing_41 : decode cX12_showing 41 = .ok (.goto 4, 3) := by decide +kernel
theorem dX12_showing_44 : decode cX12_showing 44 = .ok (.iconst 0, 1) := by decide +kernel
theorem dX12_showing_45 : decode cX12_showing 45 = .ok (.iadd, 1) := by decide +kernel
theorem dX12_showing_46 : decode cX12_showing 46 = .ok (.iaload, 1) := by decide +kernel
theorem dX12_showing_47 : decode cX12_showing 47 = .ok (.i2l, 1) := by decide +kernel
theorem dX12_showing_48 : decode cX12_showing 48 = .ok (.lreturn, 1) := by decide +kernel
set_option maxRecDepth 20000 in
theorem ggX12_dig_X12_isField : GoodIn wsX12_dig wsX12_isField := goodIn_sub (fw_c (fw_t (fw_l (fw_l (fw_t (fw_t (fw_t (fw_t (fw_t (fw_t (fw_t fw_h)))))))))) (fw_a (fw_c (fw_t (fw_l (fw_l (fw_t (fw_t fw_h))))) (fw_c (fw_t (fw_l (fw_l (fw_t (fw_t (fw_t (fw_t (fw_t (fw_t (fw_t (fw_t fw_h))))))))))) (fw_c (fw_t (fw_l (fw_l (fw_t (fw_t (fw_t (fw_t (fw_t (fw_t (fw_t (fw_t (fw_t fw_h)))))))))))) (fw_c (fw_t (fw_l (fw_l (fw_t (fw_t (fw_t (fw_t (fw_t (fw_t fw_h))))))))) (fw_c (fw_t (fw_l (fw_l (fw_t (fw_t (fw_t (fw_t (fw_t (fw_t (fw_t (fw_t (fw_t (fw_t fw_h))))))))))))) fw_n))))) (fun _ h => fw_t (fw_r h)))) (by decide +kernel)
set_option maxRecDepth 20000 in
theorem gX12_dig_X12_isField : GoodIn wsX12_dig (wsV RX12 165 RX12 yX12_isField wsX12_isField) := goodIn_app (goodIn_sub (fw_c (fw_t (fw_l (fw_l (fw_t (fw_t (fw_t fw_h)))))) (fw_c (fw_t (fw_l (fw_l (fw_t (fw_t (fw_t (fw_t fw_h))))))) (fw_c (fw_t (fw_l (fw_l (fw_t (fw_t (fw_t (fw_t (fw_t fw_h)))))))) (fw_c (fw_t (fw_l (fw_l (fw_t (fw_t (fw_t (fw_t (fw_t (fw_t fw_h))))))))) fw_n)))) (by decide +kernel)) ggX12_dig_X12_isField
set_option maxRecDepth 20000 in
theorem ggX12_dig_X12_finds : GoodIn wsX12_dig wsX12_finds := goodIn_sub (fw_c (fw_t (fw_l (fw_l (fw_t (fw_t (fw_t (fw_t (fw_t (fw_t (fw_t (fw_t (fw_t (fw_t (fw_t (fw_t (fw_t (fw_t fw_h))))))))))))))))) (fw_a (fw_c (fw_t (fw_l (fw_l (fw_t (fw_t (fw_t (fw_t (fw_t (fw_t (fw_t (fw_t (fw_t (fw_t (fw_t (fw_t (fw_t (fw_t (fw_t fw_h)))))))))))))))))) fw_n) (fun _ h => fw_t (fw_r h)))) (by decide +kernel)
set_option maxRecDepth 20000 in
theorem gX12_dig_X12_finds : GoodIn wsX12_dig (wsV RX12 56 RX12 yX12_finds wsX12_finds) := goodIn_app (goodIn_sub (fw_c (fw_t (fw_l (fw_l (fw_t (fw_t (fw_t (fw_t (fw_t (fw_t (fw_t (fw_t (fw_t (fw_t (fw_t fw_h)))))))))))))) (fw_c (fw_t (fw_l (fw_l (fw_t (fw_t (fw_t (fw_t (fw_t (fw_t (fw_t (fw_t (fw_t (fw_t (fw_t (fw_t fw_h))))))))))))))) (fw_c (fw_t (fw_l (fw_l (fw_t (fw_t (fw_t (fw_t (fw_t (fw_t (fw_t (fw_t (fw_t (fw_t (fw_t (fw_t (fw_t fw_h)))))))))))))))) (fw_c (fw_t (fw_l (fw_l (fw_t (fw_t (fw_t (fw_t (fw_t (fw_t fw_h))))))))) fw_n)))) (by decide +kernel)) ggX12_dig_X12_finds
set_option maxRecDepth 20000 in
theorem ggX12_dig_X12_ofField : GoodIn wsX12_dig wsX12_ofField := goodIn_sub (fw_c (fw_t (fw_l (fw_l (fw_t (fw_t (fw_t (fw_t (fw_t (fw_t (fw_t (fw_t (fw_t (fw_t (fw_t (fw_t (fw_t (fw_t (fw_t (fw_t (fw_t (fw_t (fw_t fw_h)))))))))))))))))))))) (fw_a (fw_c (fw_t (fw_l (fw_l (fw_t (fw_t fw_h))))) fw_n) (fun _ h => fw_t (fw_r h)))) (by decide +kernel)
set_option maxRecDepth 20000 in
theorem gX12_dig_X12_ofField : GoodIn wsX12_dig (wsV RX12 171 RX12 yX12_ofField wsX12_ofField) := goodIn_app (goodIn_sub (fw_c (fw_t (fw_l (fw_l (fw_t (fw_t (fw_t (fw_t (fw_t (fw_t (fw_t (fw_t (fw_t (fw_t (fw_t (fw_t (fw_t (fw_t (fw_t (fw_t fw_h))))))))))))))))))) (fw_c (fw_t (fw_l (fw_l (fw_t (fw_t (fw_t (fw_t (fw_t (fw_t (fw_t (fw_t (fw_t (fw_t (fw_t (fw_t (fw_t (fw_t (fw_t (fw_t (fw_t fw_h)))))))))))))))))))) (fw_c (fw_t (fw_l (fw_l (fw_t (fw_t (fw_t (fw_t (fw_t (fw_t (fw_t (fw_t (fw_t (fw_t (fw_t (fw_t (fw_t (fw_t (fw_t (fw_t (fw_t (fw_t fw_h))))))))))))))))))))) (fw_c (fw_t (fw_l (fw_l (fw_t (fw_t (fw_t (fw_t (fw_t (fw_t fw_h))))))))) fw_n)))) (by decide +kernel)) ggX12_dig_X12_ofField
set_option maxRecDepth 20000 in
theorem ggX12_dig_X12_keep : GoodIn wsX12_dig wsX12_keep := goodIn_sub (fw_c (fw_t (fw_l (fw_l (fw_t (fw_t (fw_t (fw_t (fw_t (fw_t (fw_t (fw_t (fw_t (fw_t (fw_t (fw_t (fw_t (fw_t (fw_t (fw_t (fw_t (fw_t (fw_t (fw_t (fw_t (fw_t (fw_t fw_h)))))))))))))))))))))))))) (fw_a (fw_c (fw_t (fw_l (fw_r fw_h))) (fw_c (fw_t (fw_l (fw_r (fw_t fw_h)))) (fw_c (fw_t (fw_l (fw_l (fw_t (fw_t fw_h))))) (fw_c (fw_t (fw_l (fw_r (fw_t (fw_t fw_h))))) fw_n)))) (fun _ h => fw_t (fw_r h)))) (by decide +kernel)
set_option maxRecDepth 20000 in
theorem gX12_dig_X12_keep : GoodIn wsX12_dig (wsV RX12 66 RX12 yX12_keep wsX12_keep) := goodIn_app (goodIn_sub (fw_c (fw_t (fw_l (fw_l (fw_t (fw_t (fw_t (fw_t (fw_t (fw_t (fw_t (fw_t (fw_t (fw_t (fw_t (fw_t (fw_t (fw_t (fw_t (fw_t (fw_t (fw_t (fw_t (fw_t fw_h))))))))))))))))))))))) (fw_c (fw_t (fw_l (fw_l (fw_t (fw_t (fw_t (fw_t (fw_t (fw_t (fw_t (fw_t (fw_t (fw_t (fw_t (fw_t (fw_t (fw_t (fw_t (fw_t (fw_t (fw_t (fw_t (fw_t (fw_t fw_h)))))))))))))))))))))))) (fw_c (fw_t (fw_l (fw_l (fw_t (fw_t (fw_t (fw_t (fw_t (fw_t (fw_t (fw_t (fw_t (fw_t (fw_t (fw_t (fw_t (fw_t (fw_t (fw_t (fw_t (fw_t (fw_t (fw_t (fw_t (fw_t fw_h))))))))))))))))))))))))) (fw_c (fw_t (fw_l (fw_l (fw_t (fw_t (fw_t (fw_t (fw_t (fw_t fw_h))))))))) fw_n)))) (by decide +kernel)) ggX12_dig_X12_keep
set_option maxRecDepth 20000 in
theorem ggX12_dig_X12_showAt : GoodIn wsX12_dig wsX12_showAt := goodIn_sub (fw_c (fw_t (fw_l (fw_r (fw_t (fw_t (fw_t (fw_t (fw_t fw_h)))))))) (fw_n)) (by decide +kernel)
set_option maxRecDepth 20000 in
theorem gX12_dig_X12_showAt : GoodIn wsX12_dig (va_wsS RX12 177 yX12_showAt wsX12_showAt) := goodIn_app (goodIn_sub (fw_c (fw_t (fw_l (fw_r (fw_t (fw_t (fw_t fw_h)))))) (fw_c (fw_t (fw_l (fw_r (fw_t (fw_t (fw_t (fw_t fw_h))))))) (fw_c (fw_t (fw_l (fw_l (fw_t (fw_t (fw_t (fw_t (fw_t (fw_t fw_h))))))))) fw_n))) (by decide +kernel)) ggX12_dig_X12_showAt
theorem dX12_dig_0 : decode cX12_dig 0 = .ok (.aload_n 0, 1) := by decide +kernel
theorem dX12_dig_1 : decode cX12_dig 1 = .ok (.iload_n 1, 1) := by decide +kernel
theorem dX12_dig_2 : decode cX12_dig 2 = .ok (.invokevirtual 165, 3) := by decide +kernel
theorem dX12_dig_5 : decode cX12_dig 5 = .ok (.ifCond .ne 11, 3) := by decide +kernel
theorem dX12_dig_8 : decode cX12_dig 8 = .ok (.aload_n 0, 1) := by decide +kernel
theorem dX12_dig_9 : decode cX12_dig 9 = .ok (.ldc2_w 76, 3) := by decide +kernel
theorem dX12_dig_12 : decode cX12_dig 12 = .ok (.invokevirtual 56, 3) := by decide +kernel
theorem dX12_dig_15 : decode cX12_dig 15 = .ok (.lreturn, 1) := by decide +kernel
theorem dX12_dig_16 : decode cX12_dig 16 = .ok (.aload_n 0, 1) := by decide +kernel
theorem dX12_dig_17 : decode cX12_dig 17 = .ok (.iload_n 1, 1) := by decide +kernel
theorem dX12_dig_18 : decode cX12_dig 18 = .ok (.iconst 3, 1) := by decide +kernel
theorem dX12_dig_19 : decode cX12_dig 19 = .ok (.invokevirtual 171, 3) := by decide +kernel
theorem dX12_dig_22 : decode cX12_dig 22 = .ok (.iconst 1, 1) := by decide +kernel
theorem dX12_dig_23 : decode cX12_dig 23 = .ok (.if_icmp .ne 11, 3) := by decide +kernel
theorem dX12_dig_26 : decode cX12_dig 26 = .ok (.aload_n 0, 1) := by decide +kernel
theorem dX12_dig_27 : decode cX12_dig 27 = .ok (.ldc2_w 131, 3) := by decide +kernel
theorem dX12_dig_30 : decode cX12_dig 30 = .ok (.invokevirtual 56, 3) := by decide +kernel
theorem dX12_dig_33 : decode cX12_dig 33 = .ok (.lreturn, 1) := by decide +kernel
theorem dX12_dig_34 : decode cX12_dig 34 = .ok (.aload_n 0, 1) := by decide +kernel
theorem dX12_dig_35 : decode cX12_dig 35 = .ok (.invokevirtual 66, 3) := by decide +kernel
theorem dX12_dig_38 : decode cX12_dig 38 = .ok (.aload_n 0, 1) := by decide +kernel
theorem dX12_dig_39 : decode cX12_dig 39 = .ok (.getfield 9, 3) := by decide +kernel
theorem dX12_dig_42 : decode cX12_dig 42 = .ok (.sipush 334, 3) := by decide +kernel
theorem dX12_dig_45 : decode cX12_dig 45 = .ok (.iconst 5, 1) := by decide +kernel
theorem dX12_dig_46 : decode cX12_dig 46 = .ok (.iload_n 1, 1) := by decide +kernel
theorem dX12_dig_47 : decode cX12_dig 47 = .ok (.imul, 1) := by decide +kernel
theorem dX12_dig_48 : decode cX12_dig 48 = .ok (.iadd, 1) := by decide +kernel
theorem dX12_dig_49 : decode cX12_dig 49 = .ok (.iconst 3, 1) := by decide +kernel
theorem dX12_dig_50 : decode cX12_dig 50 = .ok (.iadd, 1) := by decide +kernel
theorem dX12_dig_51 : decode cX12_dig 51 = .ok (.iconst 1, 1) := by decide +kernel
theorem dX12_dig_52 : decode cX12_dig 52 = .ok (.iastore, 1) := by decide +kernel
theorem dX12_dig_53 : decode cX12_dig 53 = .ok (.iload_n 2, 1) := by decide +kernel
theorem dX12_dig_54 : decode cX12_dig 54 = .ok (.ifCond .eq 12, 3) := by decide +kernel
theorem dX12_dig_57 : decode cX12_dig 57 = .ok (.aload_n 0, 1) := by decide +kernel
theorem dX12_dig_58 : decode cX12_dig 58 = .ok (.iload_n 1, 1) := by decide +kernel
theorem dX12_dig_59 : decode cX12_dig 59 = .ok (.iconst 4, 1) := by decide +kernel
theorem dX12_dig_60 : decode cX12_dig 60 = .ok (.invokevirtual 171, 3) := by decide +kernel
theorem dX12_dig_63 : decode cX12_dig 63 = .ok (.goto 4, 3) := by decide +kernel
theorem dX12_dig_66 : decode cX12_dig 66 = .ok (.iconst 0, 1) := by decide +kernel
theorem dX12_dig_67 : decode cX12_dig 67 = .ok (.istore_n 3, 1) := by decide +kernel
theorem dX12_dig_68 : decode cX12_dig 68 = .ok (.iconst 0, 1) := by decide +kernel
theorem dX12_dig_69 : decode cX12_dig 69 = .ok (.istore 4, 2) := by decide +kernel
theorem dX12_dig_71 : decode cX12_dig 71 = .ok (.iload 4, 2) := by decide +kernel
theorem dX12_dig_73 : decode cX12_dig 73 = .ok (.iload_n 3, 1) := by decide +kernel
theorem dX12_dig_74 : decode cX12_dig 74 = .ok (.if_icmp .ge 83, 3) := by decide +kernel
theorem dX12_dig_77 : decode cX12_dig 77 = .ok (.sipush 374, 3) := by decide +kernel
theorem dX12_dig_80 : decode cX12_dig 80 = .ok (.bipush 12, 2) := by decide +kernel
theorem dX12_dig_82 : decode cX12_dig 82 = .ok (.iload_n 1, 1) := by decide +kernel
theorem dX12_dig_83 : decode cX12_dig 83 = .ok (.imul, 1) := by decide +kernel
theorem dX12_dig_84 : decode cX12_dig 84 = .ok (.iadd, 1) := by decide +kernel
theorem dX12_dig_85 : decode cX12_dig 85 = .ok (.iconst 3, 1) := by decide +kernel
theorem dX12_dig_86 : decode cX12_dig 86 = .ok (.iload 4, 2) := by decide +kernel
theorem dX12_dig_88 : decode cX12_dig 88 = .ok (.imul, 1) := by decide +kernel
theorem dX12_dig_89 : decode cX12_dig 89 = .ok (.iadd, 1) := by decide +kernel
theorem dX12_dig_90 : decode cX12_dig 90 = .ok (.istore 5, 2) := by decide +kernel
theorem dX12_dig_92 : decode cX12_dig 92 = .ok (.aload_n 0, 1) := by decide +kernel
theorem dX12_dig_93 : decode cX12_dig 93 = .ok (.iload_n 1, 1) := by decide +kernel
theorem dX12_dig_94 : decode cX12_dig 94 = .ok (.iconst 0, 1) := by decide +kernel
theorem dX12_dig_95 : decode cX12_dig 95 = .ok (.invokevirtual 171, 3) := by decide +kernel
theorem dX12_dig_98 : decode cX12_dig 98 = .ok (.aload_n 0, 1) := by decide +kernel
theorem dX12_dig_99 : decode cX12_dig 99 = .ok (.getfield 9, 3) := by decide +kernel
theorem dX12_dig_102 : decode cX12_dig 102 = .ok (.iload 5, 2) := by decide +kernel
theorem dX12_dig_104 : decode cX12_dig 104 = .ok (.iaload, 1) := by decide +kernel
theorem dX12_dig_105 : decode cX12_dig 105 = .ok (.aload_n 0, 1) := by decide +kernel
theorem dX12_dig_106 : decode cX12_dig 106 = .ok (.getfield 9, 3) := by decide +kernel
theorem dX12_dig_109 : decode cX12_dig 109 = .ok (.iload 5, 2) := by decide +kernel
theorem dX12_dig_111 : decode cX12_dig 111 = .ok (.iconst 1, 1) := by decide +kernel
theorem dX12_dig_112 : decode cX12_dig 112 = .ok (.iadd, 1) := by decide +kernel
theorem dX12_dig_113 : decode cX12_dig 113 = .ok (.iaload, 1) := by decide +kernel
theorem dX12_dig_114 : decode cX12_dig 114 = .ok (.invokestatic 177, 3) := by decide +kernel
theorem dX12_dig_117 : decode cX12_dig 117 = .ok (.istore 6, 2) := by decide +kernel
theorem dX12_dig_119 : decode cX12_dig 119 = .ok (.aload_n 0, 1) := by decide +kernel
theorem dX12_dig_120 : decode cX12_dig 120 = .ok (.getfield 9, 3) := by decide +kernel
theorem dX12_dig_123 : decode cX12_dig 123 = .ok (.iload 6, 2) := by decide +kernel
theorem dX12_dig_125 : decode cX12_dig 125 = .ok (.dup2, 1) := by decide +kernel
theorem dX12_dig_126 : decode cX12_dig 126 = .ok (.iaload, 1) := by decide +kernel
theorem dX12_dig_127 : decode cX12_dig 127 = .ok (.aload_n 0, 1) := by decide +kernel
theorem dX12_dig_128 : decode cX12_dig 128 = .ok (.getfield 9, 3) := by decide +kernel
theorem dX12_dig_131 : decode cX12_dig 131 = .ok (.iload 5, 2) := by decide +kernel
theorem dX12_dig_133 : decode cX12_dig 133 = .ok (.iconst 2, 1) := by decide +kernel
theorem dX12_dig_134 : decode cX12_dig 134 = .ok (.iadd, 1) := by decide +kernel
theorem dX12_dig_135 : decode cX12_dig 135 = .ok (.iaload, 1) := by decide +kernel
theorem dX12_dig_136 : decode cX12_dig 136 = .ok (.iadd, 1) := by decide +kernel
theorem dX12_dig_137 : decode cX12_dig 137 = .ok (.iastore, 1) := by decide +kernel
theorem dX12_dig_138 : decode cX12_dig 138 = .ok (.aload_n 0, 1) := by decide +kernel
theorem dX12_dig_139 : decode cX12_dig 139 = .ok (.getfield 9, 3) := by decide +kernel
theorem dX12_dig_142 : decode cX12_dig 142 = .ok (.iload 6, 2) := by decide +kernel
theorem dX12_dig_144 : decode cX12_dig 144 = .ok (.iconst 1, 1) := by decide +kernel
theorem dX12_dig_145 : decode cX12_dig 145 = .ok (.iadd, 1) := by decide +kernel
theorem dX12_dig_146 : decode cX12_dig 146 = .ok (.dup2, 1) := by decide +kernel
theorem dX12_dig_147 : decode cX12_dig 147 = .ok (.iaload, 1) := by decide +kernel
theorem dX12_dig_148 : decode cX12_dig 148 = .ok (.iconst 1, 1) := by decide +kernel
theorem dX12_dig_149 : decode cX12_dig 149 = .ok (.iadd, 1) := by decide +kernel
theorem dX12_dig_150 : decode cX12_dig 150 = .ok (.iastore, 1) := by decide +kernel
theorem dX12_dig_151 : decode cX12_dig 151 = .ok (.iinc 4 1, 3) := by decide +kernel
theorem dX12_dig_154 : decode cX12_dig 154 = .ok (.goto (-83), 3) := by decide +kernel
theorem dX12_dig_157 : decode cX12_dig 157 = .ok (.iload_n 3, 1) := by decide +kernel
theorem dX12_dig_158 : decode cX12_dig 158 = .ok (.i2l, 1) := by decide +kernel
theorem dX12_dig_159 : decode cX12_dig 159 = .ok (.lreturn, 1) := by decide +kernel
set_option maxRecDepth 20000 in
theorem ggX12_brought_X12_ofField : GoodIn wsX12_brought wsX12_ofField := goodIn_sub (fw_c (fw_t (fw_l (fw_t (fw_t (fw_t (fw_t (fw_t fw_h))))))) (fw_a (fw_c (fw_t (fw_l fw_h)) fw_n) (fun _ h => fw_t (fw_r h)))) (by decide +kernel)
set_option maxRecDepth 20000 in
theorem gX12_brought_X12_ofField : GoodIn wsX12_brought (wsV RX12 171 RX12 yX12_ofField wsX12_ofField) := goodIn_app (goodIn_sub (fw_c (fw_t (fw_l (fw_t fw_h))) (fw_c (fw_t (fw_l (fw_t (fw_t fw_h)))) (fw_c (fw_t (fw_l (fw_t (fw_t (fw_t fw_h))))) (fw_c (fw_t (fw_l (fw_t (fw_t (fw_t (fw_t fw_h)))))) fw_n)))) (by decide +kernel)) ggX12_brought_X12_ofField
set_option maxRecDepth 20000 in
theorem ggX12_brought_X12_wasSeen : GoodIn wsX12_brought wsX12_wasSeen := goodIn_sub (fw_c (fw_t (fw_l (fw_t (fw_t (fw_t (fw_t (fw_t (fw_t (fw_t (fw_t (fw_t fw_h))))))))))) (fw_a (fw_c (fw_t (fw_l fw_h)) (fw_c (fw_t (fw_l (fw_t fw_h))) (fw_c (fw_t (fw_l (fw_t (fw_t fw_h)))) (fw_c (fw_t (fw_l (fw_t (fw_t (fw_t fw_h))))) (fw_c (fw_t (fw_l (fw_t (fw_t (fw_t (fw_t fw_h)))))) (fw_c (fw_t (fw_l (fw_t (fw_t (fw_t (fw_t (fw_t fw_h))))))) fw_n)))))) (fun _ h => fw_t (fw_r h)))) (by decide +kernel)
set_option maxRecDepth 20000 in
theorem gX12_brought_X12_wasSeen : GoodIn wsX12_brought (wsV RX12 174 RX12 yX12_wasSeen wsX12_wasSeen) := goodIn_app (goodIn_sub (fw_c (fw_t (fw_l (fw_t (fw_t (fw_t (fw_t (fw_t (fw_t fw_h)))))))) (fw_c (fw_t (fw_l (fw_t (fw_t (fw_t (fw_t (fw_t (fw_t (fw_t fw_h))))))))) (fw_c (fw_t (fw_l (fw_t (fw_t (fw_t (fw_t (fw_t (fw_t (fw_t (fw_t fw_h)))))))))) (fw_c (fw_t (fw_l (fw_t (fw_t (fw_t (fw_t fw_h)))))) fw_n)))) (by decide +kernel)) ggX12_brought_X12_wasSeen
set_option maxRecDepth 20000 in
theorem ggX12_brought_X12_showAt : GoodIn wsX12_brought wsX12_showAt := goodIn_sub (fw_c (fw_t (fw_l (fw_t (fw_t (fw_t (fw_t (fw_t (fw_t (fw_t (fw_t (fw_t (fw_t (fw_t (fw_t fw_h)))))))))))))) (fw_n)) (by decide +kernel)
set_option maxRecDepth 20000 in
theorem gX12_brought_X12_showAt : GoodIn wsX12_brought (va_wsS RX12 177 yX12_showAt wsX12_showAt) := goodIn_app (goodIn_sub (fw_c (fw_t (fw_l (fw_t (fw_t (fw_t (fw_t (fw_t (fw_t (fw_t (fw_t (fw_t (fw_t fw_h)))))))))))) (fw_c (fw_t (fw_l (fw_t (fw_t (fw_t (fw_t (fw_t (fw_t (fw_t (fw_t (fw_t (fw_t (fw_t fw_h))))))))))))) (fw_c (fw_t (fw_l (fw_t (fw_t (fw_t (fw_t fw_h)))))) fw_n))) (by decide +kernel)) ggX12_brought_X12_showAt
theorem dX12_brought_0 : decode cX12_brought 0 = .ok (.aload_n 0, 1) := by decide +kernel
theorem dX12_brought_1 : decode cX12_brought 1 = .ok (.iload_n 1, 1) := by decide +kernel
theorem dX12_brought_2 : decode cX12_brought 2 = .ok (.iconst 3, 1) := by decide +kernel
theorem dX12_brought_3 : decode cX12_brought 3 = .ok (.invokevirtual 171, 3) := by decide +kernel
theorem dX12_brought_6 : decode cX12_brought 6 = .ok (.iconst 1, 1) := by decide +kernel
theorem dX12_brought_7 : decode cX12_brought 7 = .ok (.if_icmp .eq 11, 3) := by decide +kernel
theorem dX12_brought_10 : decode cX12_brought 10 = .ok (.aload_n 0, 1) := by decide +kernel
theorem dX12_brought_11 : decode cX12_brought 11 = .ok (.iload_n 1, 1) := by decide +kernel
theorem dX12_brought_12 : decode cX12_brought 12 = .ok (.invokevirtual 174, 3) := by decide +kernel
theorem dX12_brought_15 : decode cX12_brought 15 = .ok (.ifCond .eq 5, 3) := by decide +kernel
theorem dX12_brought_18 : decode cX12_brought 18 = .ok (.iconst 0, 1) := by decide +kernel
theorem dX12_brought_19 : decode cX12_brought 19 = .ok (.ireturn, 1) := by decide +kernel
theorem dX12_brought_20 : decode cX12_brought 20 = .ok (.aload_n 0, 1) := by decide +kernel
theorem dX12_brought_21 : decode cX12_brought 21 = .ok (.iload_n 1, 1) := by decide +kernel
theorem dX12_brought_22 : decode cX12_brought 22 = .ok (.iconst 0, 1) := by decide +kernel
theorem dX12_brought_23 : decode cX12_brought 23 = .ok (.invokevirtual 171, 3) := by decide +kernel
theorem dX12_brought_26 : decode cX12_brought 26 = .ok (.iload_n 2, 1) := by decide +kernel
theorem dX12_brought_27 : decode cX12_brought 27 = .ok (.iload_n 3, 1) := by decide +kernel
theorem dX12_brought_28 : decode cX12_brought 28 = .ok (.invokestatic 177, 3) := by decide +kernel
theorem dX12_brought_31 : decode cX12_brought 31 = .ok (.istore 4, 2) := by decide +kernel
theorem dX12_brought_33 : decode cX12_brought 33 = .ok (.bipush 100, 2) := by decide +kernel
theorem dX12_brought_35 : decode cX12_brought 35 = .ok (.aload_n 0, 1) := by decide +kernel
theorem dX12_brought_36 : decode cX12_brought 36 = .ok (.iload_n 1, 1) := by decide +kernel
theorem dX12_brought_37 : decode cX12_brought 37 = .ok (.iconst 1, 1) := by decide +kernel
theorem dX12_brought_38 : decode cX12_brought 38 = .ok (.invokevirtual 171, 3) := by decide +kernel
theorem dX12_brought_41 : decode cX12_brought 41 = .ok (.imul, 1) := by decide +kernel
theorem dX12_brought_42 : decode cX12_brought 42 = .ok (.aload_n 0, 1) := by decide +kernel
theorem dX12_brought_43 : decode cX12_brought 43 = .ok (.getfield 9, 3) := by decide +kernel
theorem dX12_brought_46 : decode cX12_brought 46 = .ok (.iload 4, 2) := by decide +kernel
theorem dX12_brought_48 : decode cX12_brought 48 = .ok (.iaload, 1) := by decide +kernel
theorem dX12_brought_49 : decode cX12_brought 49 = .ok (.imul, 1) := by decide +kernel
theorem dX12_brought_50 : decode cX12_brought 50 = .ok (.aload_n 0, 1) := by decide +kernel
theorem dX12_brought_51 : decode cX12_brought 51 = .ok (.getfield 9, 3) := by decide +kernel
theorem dX12_brought_54 : decode cX12_brought 54 = .ok (.iload 4, 2) := by decide +kernel
theorem dX12_brought_56 : decode cX12_brought 56 = .ok (.iconst 1, 1) := by decide +kernel
theorem dX12_brought_57 : decode cX12_brought 57 = .ok (.iadd, 1) := by decide +kernel
theorem dX12_brought_58 : decode cX12_brought 58 = .ok (.iaload, 1) := by decide +kernel
theorem dX12_brought_59 : decode cX12_brought 59 = .ok (.idiv, 1) := by decide +kernel
theorem dX12_brought_60 : decode cX12_brought 60 = .ok (.ireturn, 1) := by decide +kernel
set_option maxRecDepth 20000 in
theorem ggX12_findPlan_X12_brought : GoodIn wsX12_findPlan wsX12_brought := goodIn_sub (fw_c (fw_t (fw_l (fw_t (fw_t (fw_t (fw_t (fw_t (fw_t (fw_t fw_h))))))))) (fw_a (fw_c (fw_t (fw_l (fw_t (fw_t fw_h)))) (fw_c (fw_t (fw_l (fw_t (fw_t (fw_t (fw_t (fw_t (fw_t (fw_t (fw_t fw_h)))))))))) (fw_c (fw_t (fw_l (fw_t (fw_t (fw_t (fw_t (fw_t (fw_t (fw_t (fw_t (fw_t fw_h))))))))))) (fw_c (fw_t (fw_l (fw_t (fw_t (fw_t (fw_t (fw_t (fw_t (fw_t (fw_t (fw_t (fw_t fw_h)))))))))))) (fw_c (fw_t (fw_l (fw_t (fw_t (fw_t (fw_t (fw_t (fw_t fw_h)))))))) (fw_c (fw_t (fw_l (fw_t (fw_t (fw_t (fw_t (fw_t (fw_t (fw_t (fw_t (fw_t (fw_t (fw_t fw_h))))))))))))) (fw_c (fw_t (fw_l (fw_t (fw_t (fw_t (fw_t (fw_t (fw_t (fw_t (fw_t (fw_t (fw_t (fw_t (fw_t fw_h)))))))))))))) (fw_c (fw_t (fw_l (fw_t (fw_t (fw_t (fw_t (fw_t (fw_t (fw_t (fw_t (fw_t (fw_t (fw_t (fw_t (fw_t fw_h))))))))))))))) (fw_c (fw_t (fw_l (fw_t (fw_t (fw_t (fw_t (fw_t (fw_t (fw_t (fw_t (fw_t (fw_t (fw_t (fw_t (fw_t (fw_t fw_h)))))))))))))))) (fw_c (fw_t (fw_l (fw_t (fw_t (fw_t (fw_t (fw_t (fw_t (fw_t (fw_t (fw_t (fw_t (fw_t (fw_t (fw_t (fw_t (fw_t fw_h))))))))))))))))) (fw_c (fw_t (fw_l (fw_t (fw_t (fw_t (fw_t (fw_t (fw_t (fw_t (fw_t (fw_t (fw_t (fw_t (fw_t (fw_t (fw_t (fw_t (fw_t fw_h)))))))))))))))))) (fw_c (fw_t (fw_l (fw_t (fw_t (fw_t (fw_t (fw_t (fw_t (fw_t (fw_t (fw_t (fw_t (fw_t (fw_t (fw_t (fw_t (fw_t (fw_t (fw_t fw_h))))))))))))))))))) (fw_c (fw_t (fw_l (fw_t (fw_t (fw_t (fw_t (fw_t (fw_t (fw_t (fw_t (fw_t (fw_t (fw_t (fw_t (fw_t (fw_t (fw_t (fw_t (fw_t (fw_t fw_h)))))))))))))))))))) fw_n))))))))))))) (fun _ h => fw_t (fw_r h)))) (by decide +kernel)
set_option maxRecDepth 20000 in
theorem gX12_findPlan_X12_brought : GoodIn wsX12_findPlan (wsV RX12 187 RX12 yX12_brought wsX12_brought) := goodIn_app (goodIn_sub (fw_c (fw_t (fw_l (fw_t (fw_t (fw_t fw_h))))) (fw_c (fw_t (fw_l (fw_t (fw_t (fw_t (fw_t fw_h)))))) (fw_c (fw_t (fw_l (fw_t (fw_t (fw_t (fw_t (fw_t fw_h))))))) (fw_c (fw_t (fw_l (fw_t (fw_t (fw_t (fw_t (fw_t (fw_t fw_h)))))))) fw_n)))) (by decide +kernel)) ggX12_findPlan_X12_brought
set_option maxRecDepth 20000 in
theorem ggX12_findPlan_X12_ofField : GoodIn wsX12_findPlan wsX12_ofField := goodIn_sub (fw_c (fw_t (fw_l (fw_t (fw_t (fw_t (fw_t (fw_t (fw_t (fw_t (fw_t (fw_t (fw_t (fw_t fw_h))))))))))))) (fw_a (fw_c (fw_t (fw_l (fw_t (fw_t fw_h)))) fw_n) (fun _ h => fw_t (fw_r h)))) (by decide +kernel)
set_option maxRecDepth 20000 in
theorem gX12_findPlan_X12_ofField : GoodIn wsX12_findPlan (wsV RX12 171 RX12 yX12_ofField wsX12_ofField) := goodIn_app (goodIn_sub (fw_c (fw_t (fw_l (fw_t (fw_t (fw_t (fw_t (fw_t (fw_t (fw_t (fw_t fw_h)))))))))) (fw_c (fw_t (fw_l (fw_t (fw_t (fw_t (fw_t (fw_t (fw_t (fw_t (fw_t (fw_t fw_h))))))))))) (fw_c (fw_t (fw_l (fw_t (fw_t (fw_t (fw_t (fw_t (fw_t (fw_t (fw_t (fw_t (fw_t fw_h)))))))))))) (fw_c (fw_t (fw_l (fw_t (fw_t (fw_t (fw_t (fw_t (fw_t fw_h)))))))) fw_n)))) (by decide +kernel)) ggX12_findPlan_X12_ofField
theorem dX12_findPlan_0 : decode cX12_findPlan 0 = .ok (.aload_n 0, 1) := by decide +kernel
theorem dX12_findPlan_1 : decode cX12_findPlan 1 = .ok (.iconst 0, 1) := by decide +kernel
theorem dX12_findPlan_2 : decode cX12_findPlan 2 = .ok (.putfield 181, 3) := by decide +kernel
theorem dX12_findPlan_5 : decode cX12_findPlan 5 = .ok (.aload_n 0, 1) := by decide +kernel
theorem dX12_findPlan_6 : decode cX12_findPlan 6 = .ok (.iconst 0, 1) := by decide +kernel
theorem dX12_findPlan_7 : decode cX12_findPlan 7 = .ok (.putfield 184, 3) := by decide +kernel
theorem dX12_findPlan_10 : decode cX12_findPlan 10 = .ok (.iconst 0, 1) := by decide +kernel
theorem dX12_findPlan_11 : decode cX12_findPlan 11 = .ok (.istore 4, 2) := by decide +kernel
theorem dX12_findPlan_13 : decode cX12_findPlan 13 = .ok (.iconst 0, 1) := by decide +kernel
theorem dX12_findPlan_14 : decode cX12_findPlan 14 = .ok (.istore 5, 2) := by decide +kernel
theorem dX12_findPlan_16 : decode cX12_findPlan 16 = .ok (.iload 5, 2) := by decide +kernel
theorem dX12_findPlan_18 : decode cX12_findPlan 18 = .ok (.iconst 1, 1) := by decide +kernel
theorem dX12_findPlan_19 : decode cX12_findPlan 19 = .ok (.aload_n 0, 1) := by decide +kernel
theorem dX12_findPlan_20 : decode cX12_findPlan 20 = .ok (.getfield 9, 3) := by decide +kernel
theorem dX12_findPlan_23 : decode cX12_findPlan 23 = .ok (.iconst 3, 1) := by decide +kernel
theorem dX12_findPlan_24 : decode cX12_findPlan 24 = .ok (.iaload, 1) := by decide +kernel
theorem dX12_findPlan_25 : decode cX12_findPlan 25 = .ok (.ishl, 1) := by decide +kernel
theorem dX12_findPlan_26 : decode cX12_findPlan 26 = .ok (.if_icmp .ge 123, 3) := by decide +kernel
theorem dX12_findPlan_29 : decode cX12_findPlan 29 = .ok (.iconst 0, 1) := by decide +kernel
theorem dX12_findPlan_30 : decode cX12_findPlan 30 = .ok (.istore 6, 2) := by decide +kernel
theorem dX12_findPlan_32 : decode cX12_findPlan 32 = .ok (.iconst 0, 1) := by decide +kernel
theorem dX12_findPlan_33 : decode cX12_findPlan 33 = .ok (.istore 7, 2) := by decide +kernel
theorem dX12_findPlan_35 : decode cX12_findPlan 35 = .ok (.iconst 0, 1) := by decide +kernel
theorem dX12_findPlan_36 : decode cX12_findPlan 36 = .ok (.istore 8, 2) := by decide +kernel
theorem dX12_findPlan_38 : decode cX12_findPlan 38 = .ok (.iload 8, 2) := by decide +kernel
theorem dX12_findPlan_40 : decode cX12_findPlan 40 = .ok (.aload_n 0, 1) := by decide +kernel
theorem dX12_findPlan_41 : decode cX12_findPlan 41 = .ok (.getfield 9, 3) := by decide +kernel
theorem dX12_findPlan_44 : decode cX12_findPlan 44 = .ok (.iconst 3, 1) := by decide +kernel
theorem dX12_findPlan_45 : decode cX12_findPlan 45 = .ok (.iaload, 1) := by decide +kernel
theorem dX12_findPlan_46 : decode cX12_findPlan 46 = .ok (.if_icmp .ge 47, 3) := by decide +kernel
theorem dX12_findPlan_49 : decode cX12_findPlan 49 = .ok (.iload 5, 2) := by decide +kernel
theorem dX12_findPlan_51 : decode cX12_findPlan 51 = .ok (.iload 8, 2) := by decide +kernel
theorem dX12_findPlan_53 : decode cX12_findPlan 53 = .ok (.ishr, 1) := by decide +kernel
theorem dX12_findPlan_54 : decode cX12_findPlan 54 = .ok (.iconst 1, 1) := by decide +kernel
theorem dX12_findPlan_55 : decode cX12_findPlan 55 = .ok (.iand, 1) := by decide +kernel
theorem dX12_findPlan_56 : decode cX12_findPlan 56 = .ok (.ifCond .ne 6, 3) := by decide +kernel
theorem dX12_findPlan_59 : decode cX12_findPlan 59 = .ok (.goto 28, 3) := by decide +kernel
theorem dX12_findPlan_62 : decode cX12_findPlan 62 = .ok (.iload 6, 2) := by decide +kernel
theorem dX12_findPlan_64 : decode cX12_findPlan 64 = .ok (.aload_n 0, 1) := by decide +kernel
theorem dX12_findPlan_65 : decode cX12_findPlan 65 = .ok (.iload 8, 2) := by decide +kernel
theorem dX12_findPlan_67 : decode cX12_findPlan 67 = .ok (.iload_n 2, 1) := by decide +kernel
theorem dX12_findPlan_68 : decode cX12_findPlan 68 = .ok (.iload_n 3, 1) := by decide +kernel
theorem dX12_findPlan_69 : decode cX12_findPlan 69 = .ok (.invokevirtual 187, 3) := by decide +kernel
theorem dX12_findPlan_72 : decode cX12_findPlan 72 = .ok (.iadd, 1) := by decide +kernel
theorem dX12_findPlan_73 : decode cX12_findPlan 73 = .ok (.istore 6, 2) := by decide +kernel
theorem dX12_findPlan_75 : decode cX12_findPlan 75 = .ok (.iload 7, 2) := by decide +kernel
theorem dX12_findPlan_77 : decode cX12_findPlan 77 = .ok (.aload_n 0, 1) := by decide +kernel
theorem dX12_findPlan_78 : decode cX12_findPlan 78 = .ok (.iload 8, 2) := by decide +kernel
theorem dX12_findPlan_80 : decode cX12_findPlan 80 = .ok (.iconst 2, 1) := by decide +kernel
theorem dX12_findPlan_81 : decode cX12_findPlan 81 = .ok (.invokevirtual 171, 3) := by decide +kernel
theorem dX12_findPlan_84 : decode cX12_findPlan 84 = .ok (.iadd, 1) := by decide +kernel
theorem dX12_findPlan_85 : decode cX12_findPlan 85 = .ok (.istore 7, 2) := by decide +kernel
theorem dX12_findPlan_87 : decode cX12_findPlan 87 = .ok (.iinc 8 1, 3) := by decide +kernel
theorem dX12_findPlan_90 : decode cX12_findPlan 90 = .ok (.goto (-52), 3) := by decide +kernel
theorem dX12_findPlan_93 : decode cX12_findPlan 93 = .ok (.iload 7, 2) := by decide +kernel
theorem dX12_findPlan_95 : decode cX12_findPlan 95 = .ok (.iload_n 1, 1) := by decide +kernel
theorem dX12_findPlan_96 : decode cX12_findPlan 96 = .ok (.if_icmp .gt 47, 3) := by decide +kernel
theorem dX12_findPlan_99 : decode cX12_findPlan 99 = .ok (.iload 6, 2) := by decide +kernel
theorem dX12_findPlan_101 : decode cX12_findPlan 101 = .ok (.aload_n 0, 1) := by decide +kernel
theorem dX12_findPlan_102 : decode cX12_findPlan 102 = .ok (.getfield 184, 3) := by decide +kernel
theorem dX12_findPlan_105 : decode cX12_findPlan 105 = .ok (.if_icmp .lt 38, 3) := by decide +kernel
theorem dX12_findPlan_108 : decode cX12_findPlan 108 = .ok (.iload 6, 2) := by decide +kernel
theorem dX12_findPlan_110 : decode cX12_findPlan 110 = .ok (.aload_n 0, 1) := by decide +kernel
theorem dX12_findPlan_111 : decode cX12_findPlan 111 = .ok (.getfield 184, 3) := by decide +kernel
theorem dX12_findPlan_114 : decode cX12_findPlan 114 = .ok (.if_icmp .ne 13, 3) := by decide +kernel
theorem dX12_findPlan_117 : decode cX12_findPlan 117 = .ok (.iload 7, 2) := by decide +kernel
theorem dX12_findPlan_119 : decode cX12_findPlan 119 = .ok (.iload 4, 2) := by decide +kernel
theorem dX12_findPlan_121 : decode cX12_findPlan 121 = .ok (.if_icmp .lt 6, 3) := by decide +kernel
theorem dX12_findPlan_124 : decode cX12_findPlan 124 = .ok (.goto 19, 3) := by decide +kernel
theorem dX12_findPlan_127 : decode cX12_findPlan 127 = .ok (.aload_n 0, 1) := by decide +kernel
theorem dX12_findPlan_128 : decode cX12_findPlan 128 = .ok (.iload 5, 2) := by decide +kernel
theorem dX12_findPlan_130 : decode cX12_findPlan 130 = .ok (.putfield 181, 3) := by decide +kernel
theorem dX12_findPlan_133 : decode cX12_findPlan 133 = .ok (.aload_n 0, 1) := by decide +kernel
theorem dX12_findPlan_134 : decode cX12_findPlan 134 = .ok (.iload 6, 2) := by decide +kernel
theorem dX12_findPlan_136 : decode cX12_findPlan 136 = .ok (.putfield 184, 3) := by decide +kernel
theorem dX12_findPlan_139 : decode cX12_findPlan 139 = .ok (.iload 7, 2) := by decide +kernel
theorem dX12_findPlan_141 : decode cX12_findPlan 141 = .ok (.istore 4, 2) := by decide +kernel
theorem dX12_findPlan_143 : decode cX12_findPlan 143 = .ok (.iinc 5 1, 3) := by decide +kernel
theorem dX12_findPlan_146 : decode cX12_findPlan 146 = .ok (.goto (-130), 3) := by decide +kernel
theorem dX12_findPlan_149 : decode cX12_findPlan 149 = .ok (.return_, 1) := by decide +kernel
set_option maxRecDepth 20000 in
theorem ggX12_plan_X12_in : GoodIn wsX12_plan wsX12_in := goodIn_sub (fw_c (fw_t (fw_l (fw_l (fw_t (fw_t (fw_t (fw_t (fw_t fw_h)))))))) (fw_n)) (by decide +kernel)
set_option maxRecDepth 20000 in
theorem gX12_plan_X12_in : GoodIn wsX12_plan (va_wsS RX12 60 yX12_in wsX12_in) := goodIn_app (goodIn_sub (fw_c (fw_t (fw_l (fw_l (fw_t (fw_t fw_h))))) (fw_c (fw_t (fw_l (fw_l (fw_t (fw_t (fw_t fw_h)))))) (fw_c (fw_t (fw_l (fw_l (fw_t (fw_t (fw_t (fw_t fw_h))))))) fw_n))) (by decide +kernel)) ggX12_plan_X12_in
set_option maxRecDepth 20000 in
theorem ggX12_plan_X12_isWeather : GoodIn wsX12_plan wsX12_isWeather := goodIn_sub (fw_c (fw_t (fw_l (fw_l (fw_t (fw_t (fw_t (fw_t (fw_t (fw_t (fw_t (fw_t fw_h))))))))))) (fw_c (fw_t (fw_l (fw_l (fw_t (fw_t fw_h))))) (fw_c (fw_t (fw_l (fw_l (fw_t (fw_t (fw_t fw_h)))))) (fw_c (fw_t (fw_l (fw_l (fw_t (fw_t (fw_t (fw_t fw_h))))))) (fw_c (fw_t (fw_l (fw_l (fw_t (fw_t (fw_t (fw_t (fw_t fw_h)))))))) fw_n))))) (by decide +kernel)
set_option maxRecDepth 20000 in
theorem gX12_plan_X12_isWeather : GoodIn wsX12_plan (va_wsS RX12 168 yX12_isWeather wsX12_isWeather) := goodIn_app (goodIn_sub (fw_c (fw_t (fw_l (fw_l (fw_t (fw_t (fw_t (fw_t (fw_t (fw_t fw_h))))))))) (fw_c (fw_t (fw_l (fw_l (fw_t (fw_t (fw_t (fw_t (fw_t (fw_t (fw_t fw_h)))))))))) (fw_c (fw_t (fw_l (fw_l (fw_t (fw_t (fw_t (fw_t fw_h))))))) fw_n))) (by decide +kernel)) ggX12_plan_X12_isWeather
set_option maxRecDepth 20000 in
theorem ggX12_plan_X12_finds : GoodIn wsX12_plan wsX12_finds := goodIn_sub (fw_c (fw_t (fw_l (fw_l (fw_t (fw_t (fw_t (fw_t (fw_t (fw_t (fw_t (fw_t (fw_t (fw_t (fw_t (fw_t fw_h))))))))))))))) (fw_a (fw_c (fw_t (fw_l (fw_l (fw_t (fw_t (fw_t (fw_t (fw_t (fw_t (fw_t (fw_t (fw_t (fw_t (fw_t (fw_t (fw_t fw_h)))))))))))))))) fw_n) (fun _ h => fw_t (fw_r h)))) (by decide +kernel)
set_option maxRecDepth 20000 in
theorem gX12_plan_X12_finds : GoodIn wsX12_plan (wsV RX12 56 RX12 yX12_finds wsX12_finds) := goodIn_app (goodIn_sub (fw_c (fw_t (fw_l (fw_l (fw_t (fw_t (fw_t (fw_t (fw_t (fw_t (fw_t (fw_t (fw_t fw_h)))))))))))) (fw_c (fw_t (fw_l (fw_l (fw_t (fw_t (fw_t (fw_t (fw_t (fw_t (fw_t (fw_t (fw_t (fw_t fw_h))))))))))))) (fw_c (fw_t (fw_l (fw_l (fw_t (fw_t (fw_t (fw_t (fw_t (fw_t (fw_t (fw_t (fw_t (fw_t (fw_t fw_h)))))))))))))) (fw_c (fw_t (fw_l (fw_l (fw_t (fw_t (fw_t (fw_t fw_h))))))) fw_n)))) (by decide +kernel)) ggX12_plan_X12_finds
set_option maxRecDepth 20000 in
theorem ggX12_plan_X12_findPlan : GoodIn wsX12_plan wsX12_findPlan := goodIn_sub (fw_c (fw_t (fw_l (fw_l (fw_t (fw_t (fw_t (fw_t (fw_t (fw_t (fw_t (fw_t (fw_t (fw_t (fw_t (fw_t (fw_t (fw_t (fw_t (fw_t (fw_t fw_h)))))))))))))))))))) (fw_a (fw_c (fw_t (fw_l (fw_l (fw_t fw_h)))) (fw_c (fw_t (fw_l (fw_l (fw_t (fw_t (fw_t (fw_t (fw_t (fw_t (fw_t (fw_t (fw_t (fw_t (fw_t (fw_t (fw_t (fw_t (fw_t (fw_t (fw_t (fw_t fw_h))))))))))))))))))))) (fw_c (fw_t (fw_l (fw_l (fw_t (fw_t (fw_t (fw_t (fw_t (fw_t (fw_t (fw_t (fw_t (fw_t (fw_t (fw_t (fw_t (fw_t (fw_t (fw_t (fw_t (fw_t (fw_t fw_h)))))))))))))))))))))) (fw_c (fw_t (fw_l (fw_l (fw_t (fw_t (fw_t (fw_t (fw_t (fw_t (fw_t (fw_t (fw_t (fw_t (fw_t (fw_t (fw_t (fw_t (fw_t (fw_t (fw_t (fw_t (fw_t (fw_t fw_h))))))))))))))))))))))) (fw_c (fw_t (fw_l (fw_l (fw_t (fw_t (fw_t (fw_t (fw_t (fw_t (fw_t (fw_t (fw_t (fw_t (fw_t (fw_t (fw_t (fw_t (fw_t (fw_t (fw_t (fw_t (fw_t (fw_t (fw_t fw_h)))))))))))))))))))))))) (fw_c (fw_t (fw_l (fw_l (fw_t (fw_t (fw_t (fw_t (fw_t (fw_t (fw_t (fw_t (fw_t (fw_t (fw_t (fw_t (fw_t (fw_t (fw_t (fw_t (fw_t (fw_t (fw_t (fw_t (fw_t (fw_t fw_h))))))))))))))))))))))))) (fw_c (fw_t (fw_l (fw_l (fw_t (fw_t (fw_t (fw_t fw_h))))))) (fw_c (fw_t (fw_l (fw_l (fw_t (fw_t (fw_t (fw_t (fw_t (fw_t (fw_t (fw_t (fw_t (fw_t (fw_t (fw_t (fw_t (fw_t (fw_t (fw_t (fw_t (fw_t (fw_t (fw_t (fw_t (fw_t (fw_t fw_h)))))))))))))))))))))))))) (fw_c (fw_t (fw_l (fw_r fw_h))) (fw_c (fw_t (fw_l (fw_r (fw_t fw_h)))) (fw_c (fw_t (fw_l (fw_r (fw_t (fw_t fw_h))))) (fw_c (fw_t (fw_l (fw_r (fw_t (fw_t (fw_t fw_h)))))) (fw_c (fw_t (fw_l (fw_r (fw_t (fw_t (fw_t (fw_t fw_h))))))) (fw_c (fw_t (fw_l (fw_r (fw_t (fw_t (fw_t (fw_t (fw_t fw_h)))))))) (fw_c (fw_t (fw_l (fw_r (fw_t (fw_t (fw_t (fw_t (fw_t (fw_t fw_h))))))))) (fw_c (fw_t (fw_l (fw_r (fw_t (fw_t (fw_t (fw_t (fw_t (fw_t (fw_t fw_h)))))))))) (fw_c (fw_t (fw_l (fw_r (fw_t (fw_t (fw_t (fw_t (fw_t (fw_t (fw_t (fw_t fw_h))))))))))) (fw_c (fw_t (fw_l (fw_r (fw_t (fw_t (fw_t (fw_t (fw_t (fw_t (fw_t (fw_t (fw_t fw_h)))))))))))) (fw_c (fw_t (fw_l (fw_r (fw_t (fw_t (fw_t (fw_t (fw_t (fw_t (fw_t (fw_t (fw_t (fw_t fw_h))))))))))))) fw_n))))))))))))))))))) (fun _ h => fw_t (fw_r h)))) (by decide +kernel)
set_option maxRecDepth 20000 in
theorem gX12_plan_X12_findPlan : GoodIn wsX12_plan (wsV RX12 190 RX12 yX12_findPlan wsX12_findPlan) := goodIn_app (goodIn_sub (fw_c (fw_t (fw_l (fw_l (fw_t (fw_t (fw_t (fw_t (fw_t (fw_t (fw_t (fw_t (fw_t (fw_t (fw_t (fw_t (fw_t (fw_t fw_h))))))))))))))))) (fw_c (fw_t (fw_l (fw_l (fw_t (fw_t (fw_t (fw_t (fw_t (fw_t (fw_t (fw_t (fw_t (fw_t (fw_t (fw_t (fw_t (fw_t (fw_t fw_h)))))))))))))))))) (fw_c (fw_t (fw_l (fw_l (fw_t (fw_t (fw_t (fw_t (fw_t (fw_t (fw_t (fw_t (fw_t (fw_t (fw_t (fw_t (fw_t (fw_t (fw_t (fw_t fw_h))))))))))))))))))) (fw_c (fw_t (fw_l (fw_l (fw_t (fw_t (fw_t (fw_t fw_h))))))) fw_n)))) (by decide +kernel)) ggX12_plan_X12_findPlan
theorem dX12_plan_0 : decode cX12_plan 0 = .ok (.iload_n 1, 1) := by decide +kernel
theorem dX12_plan_1 : decode cX12_plan 1 = .ok (.iconst 0, 1) := by decide +kernel
theorem dX12_plan_2 : decode cX12_plan 2 = .ok (.bipush 99, 2) := by decide +kernel
theorem dX12_plan_4 : decode cX12_plan 4 = .ok (.invokestatic 60, 3) := by decide +kernel
theorem dX12_plan_7 : decode cX12_plan 7 = .ok (.ifCond .eq 11, 3) := by decide +kernel
theorem dX12_plan_10 : decode cX12_plan 10 = .ok (.iload_n 2, 1) := by decide +kernel
theorem dX12_plan_11 : decode cX12_plan 11 = .ok (.iload_n 3, 1) := by decide +kernel
theorem dX12_plan_12 : decode cX12_plan 12 = .ok (.invokestatic 168, 3) := by decide +kernel
theorem dX12_plan_15 : decode cX12_plan 15 = .ok (.ifCond .ne 11, 3) := by decide +kernel
theorem dX12_plan_18 : decode cX12_plan 18 = .ok (.aload_n 0, 1) := by decide +kernel
theorem dX12_plan_19 : decode cX12_plan 19 = .ok (.ldc2_w 76, 3) := by decide +kernel
theorem dX12_plan_22 : decode cX12_plan 22 = .ok (.invokevirtual 56, 3) := by decide +kernel
theorem dX12_plan_25 : decode cX12_plan 25 = .ok (.lreturn, 1) := by decide +kernel
theorem dX12_plan_26 : decode cX12_plan 26 = .ok (.aload_n 0, 1) := by decide +kernel
theorem dX12_plan_27 : decode cX12_plan 27 = .ok (.iload_n 1, 1) := by decide +kernel
theorem dX12_plan_28 : decode cX12_plan 28 = .ok (.iload_n 2, 1) := by decide +kernel
theorem dX12_plan_29 : decode cX12_plan 29 = .ok (.iload_n 3, 1) := by decide +kernel
theorem dX12_plan_30 : decode cX12_plan 30 = .ok (.invokevirtual 190, 3) := by decide +kernel
theorem dX12_plan_33 : decode cX12_plan 33 = .ok (.aload_n 0, 1) := by decide +kernel
theorem dX12_plan_34 : decode cX12_plan 34 = .ok (.getfield 181, 3) := by decide +kernel
theorem dX12_plan_37 : decode cX12_plan 37 = .ok (.i2l, 1) := by decide +kernel
theorem dX12_plan_38 : decode cX12_plan 38 = .ok (.lreturn, 1) := by decide +kernel
set_option maxRecDepth 20000 in
theorem ggX12_brings_X12_in : GoodIn wsX12_brings wsX12_in := goodIn_sub (fw_c (fw_t (fw_l (fw_l (fw_t (fw_t (fw_t (fw_t (fw_t fw_h)))))))) (fw_n)) (by decide +kernel)
set_option maxRecDepth 20000 in
theorem gX12_brings_X12_in : GoodIn wsX12_brings (va_wsS RX12 60 yX12_in wsX12_in) := goodIn_app (goodIn_sub (fw_c (fw_t (fw_l (fw_l (fw_t (fw_t fw_h))))) (fw_c (fw_t (fw_l (fw_l (fw_t (fw_t (fw_t fw_h)))))) (fw_c (fw_t (fw_l (fw_l (fw_t (fw_t (fw_t (fw_t fw_h))))))) fw_n))) (by decide +kernel)) ggX12_brings_X12_in
set_option maxRecDepth 20000 in
theorem ggX12_brings_X12_isWeather : GoodIn wsX12_brings wsX12_isWeather := goodIn_sub (fw_c (fw_t (fw_l (fw_l (fw_t (fw_t (fw_t (fw_t (fw_t (fw_t (fw_t (fw_t fw_h))))))))))) (fw_c (fw_t (fw_l (fw_l (fw_t (fw_t fw_h))))) (fw_c (fw_t (fw_l (fw_l (fw_t (fw_t (fw_t fw_h)))))) (fw_c (fw_t (fw_l (fw_l (fw_t (fw_t (fw_t (fw_t fw_h))))))) (fw_c (fw_t (fw_l (fw_l (fw_t (fw_t (fw_t (fw_t (fw_t fw_h)))))))) fw_n))))) (by decide +kernel)
set_option maxRecDepth 20000 in
theorem gX12_brings_X12_isWeather : GoodIn wsX12_brings (va_wsS RX12 168 yX12_isWeather wsX12_isWeather) := goodIn_app (goodIn_sub (fw_c (fw_t (fw_l (fw_l (fw_t (fw_t (fw_t (fw_t (fw_t (fw_t fw_h))))))))) (fw_c (fw_t (fw_l (fw_l (fw_t (fw_t (fw_t (fw_t (fw_t (fw_t (fw_t fw_h)))))))))) (fw_c (fw_t (fw_l (fw_l (fw_t (fw_t (fw_t (fw_t fw_h))))))) fw_n))) (by decide +kernel)) ggX12_brings_X12_isWeather
set_option maxRecDepth 20000 in
theorem ggX12_brings_X12_finds : GoodIn wsX12_brings wsX12_finds := goodIn_sub (fw_c (fw_t (fw_l (fw_l (fw_t (fw_t (fw_t (fw_t (fw_t (fw_t (fw_t (fw_t (fw_t (fw_t (fw_t (fw_t fw_h))))))))))))))) (fw_a (fw_c (fw_t (fw_l (fw_l (fw_t (fw_t (fw_t (fw_t (fw_t (fw_t (fw_t (fw_t (fw_t (fw_t (fw_t (fw_t (fw_t fw_h)))))))))))))))) fw_n) (fun _ h => fw_t (fw_r h)))) (by decide +kernel)
set_option maxRecDepth 20000 in
theorem gX12_brings_X12_finds : GoodIn wsX12_brings (wsV RX12 56 RX12 yX12_finds wsX12_finds) := goodIn_app (goodIn_sub (fw_c (fw_t (fw_l (fw_l (fw_t (fw_t (fw_t (fw_t (fw_t (fw_t (fw_t (fw_t (fw_t fw_h)))))))))))) (fw_c (fw_t (fw_l (fw_l (fw_t (fw_t (fw_t (fw_t (fw_t (fw_t (fw_t (fw_t (fw_t (fw_t fw_h))))))))))))) (fw_c (fw_t (fw_l (fw_l (fw_t (fw_t (fw_t (fw_t (fw_t (fw_t (fw_t (fw_t (fw_t (fw_t (fw_t fw_h)))))))))))))) (fw_c (fw_t (fw_l (fw_l (fw_t (fw_t (fw_t (fw_t fw_h))))))) fw_n)))) (by decide +kernel)) ggX12_brings_X12_finds
set_option maxRecDepth 20000 in
theorem ggX12_brings_X12_findPlan : GoodIn wsX12_brings wsX12_findPlan := goodIn_sub (fw_c (fw_t (fw_l (fw_l (fw_t (fw_t (fw_t (fw_t (fw_t (fw_t (fw_t (fw_t (fw_t (fw_t (fw_t (fw_t (fw_t (fw_t (fw_t (fw_t (fw_t fw_h)))))))))))))))))))) (fw_a (fw_c (fw_t (fw_l (fw_l (fw_t (fw_t (fw_t (fw_t (fw_t (fw_t (fw_t (fw_t (fw_t (fw_t (fw_t (fw_t (fw_t (fw_t (fw_t (fw_t (fw_t (fw_t fw_h))))))))))))))))))))) (fw_c (fw_t (fw_l (fw_l (fw_t fw_h)))) (fw_c (fw_t (fw_l (fw_l (fw_t (fw_t (fw_t (fw_t (fw_t (fw_t (fw_t (fw_t (fw_t (fw_t (fw_t (fw_t (fw_t (fw_t (fw_t (fw_t (fw_t (fw_t (fw_t fw_h)))))))))))))))))))))) (fw_c (fw_t (fw_l (fw_l (fw_t (fw_t (fw_t (fw_t (fw_t (fw_t (fw_t (fw_t (fw_t (fw_t (fw_t (fw_t (fw_t (fw_t (fw_t (fw_t (fw_t (fw_t (fw_t (fw_t fw_h))))))))))))))))))))))) (fw_c (fw_t (fw_l (fw_l (fw_t (fw_t (fw_t (fw_t (fw_t (fw_t (fw_t (fw_t (fw_t (fw_t (fw_t (fw_t (fw_t (fw_t (fw_t (fw_t (fw_t (fw_t (fw_t (fw_t (fw_t fw_h)))))))))))))))))))))))) (fw_c (fw_t (fw_l (fw_l (fw_t (fw_t (fw_t (fw_t (fw_t (fw_t (fw_t (fw_t (fw_t (fw_t (fw_t (fw_t (fw_t (fw_t (fw_t (fw_t (fw_t (fw_t (fw_t (fw_t (fw_t (fw_t fw_h))))))))))))))))))))))))) (fw_c (fw_t (fw_l (fw_l (fw_t (fw_t (fw_t (fw_t fw_h))))))) (fw_c (fw_t (fw_l (fw_l (fw_t (fw_t (fw_t (fw_t (fw_t (fw_t (fw_t (fw_t (fw_t (fw_t (fw_t (fw_t (fw_t (fw_t (fw_t (fw_t (fw_t (fw_t (fw_t (fw_t (fw_t (fw_t (fw_t fw_h)))))))))))))))))))))))))) (fw_c (fw_t (fw_l (fw_r fw_h))) (fw_c (fw_t (fw_l (fw_r (fw_t fw_h)))) (fw_c (fw_t (fw_l (fw_r (fw_t (fw_t fw_h))))) (fw_c (fw_t (fw_l (fw_r (fw_t (fw_t (fw_t fw_h)))))) (fw_c (fw_t (fw_l (fw_r (fw_t (fw_t (fw_t (fw_t fw_h))))))) (fw_c (fw_t (fw_l (fw_r (fw_t (fw_t (fw_t (fw_t (fw_t fw_h)))))))) (fw_c (fw_t (fw_l (fw_r (fw_t (fw_t (fw_t (fw_t (fw_t (fw_t fw_h))))))))) (fw_c (fw_t (fw_l (fw_r (fw_t (fw_t (fw_t (fw_t (fw_t (fw_t (fw_t fw_h)))))))))) (fw_c (fw_t (fw_l (fw_r (fw_t (fw_t (fw_t (fw_t (fw_t (fw_t (fw_t (fw_t fw_h))))))))))) (fw_c (fw_t (fw_l (fw_r (fw_t (fw_t (fw_t (fw_t (fw_t (fw_t (fw_t (fw_t (fw_t fw_h)))))))))))) (fw_c (fw_t (fw_l (fw_r (fw_t (fw_t (fw_t (fw_t (fw_t (fw_t (fw_t (fw_t (fw_t (fw_t fw_h))))))))))))) fw_n))))))))))))))))))) (fun _ h => fw_t (fw_r h)))) (by decide +kernel)
set_option maxRecDepth 20000 in
theorem gX12_brings_X12_findPlan : GoodIn wsX12_brings (wsV RX12 190 RX12 yX12_findPlan wsX12_findPlan) := goodIn_app (goodIn_sub (fw_c (fw_t (fw_l (fw_l (fw_t (fw_t (fw_t (fw_t (fw_t (fw_t (fw_t (fw_t (fw_t (fw_t (fw_t (fw_t (fw_t (fw_t fw_h))))))))))))))))) (fw_c (fw_t (fw_l (fw_l (fw_t (fw_t (fw_t (fw_t (fw_t (fw_t (fw_t (fw_t (fw_t (fw_t (fw_t (fw_t (fw_t (fw_t (fw_t fw_h)))))))))))))))))) (fw_c (fw_t (fw_l (fw_l (fw_t (fw_t (fw_t (fw_t (fw_t (fw_t (fw_t (fw_t (fw_t (fw_t (fw_t (fw_t (fw_t (fw_t (fw_t (fw_t fw_h))))))))))))))))))) (fw_c (fw_t (fw_l (fw_l (fw_t (fw_t (fw_t (fw_t fw_h))))))) fw_n)))) (by decide +kernel)) ggX12_brings_X12_findPlan
theorem dX12_brings_0 : decode cX12_brings 0 = .ok (.iload_n 1, 1) := by decide +kernel
theorem dX12_brings_1 : decode cX12_brings 1 = .ok (.iconst 0, 1) := by decide +kernel
theorem dX12_brings_2 : decode cX12_brings 2 = .ok (.bipush 99, 2) := by decide +kernel
theorem dX12_brings_4 : decode cX12_brings 4 = .ok (.invokestatic 60, 3) := by decide +kernel
theorem dX12_brings_7 : decode cX12_brings 7 = .ok (.ifCond .eq 11, 3) := by decide +kernel
theorem dX12_brings_10 : decode cX12_brings 10 = .ok (.iload_n 2, 1) := by decide +kernel
theorem dX12_brings_11 : decode cX12_brings 11 = .ok (.iload_n 3, 1) := by decide +kernel
theorem dX12_brings_12 : decode cX12_brings 12 = .ok (.invokestatic 168, 3) := by decide +kernel
theorem dX12_brings_15 : decode cX12_brings 15 = .ok (.ifCond .ne 11, 3) := by decide +kernel
theorem dX12_brings_18 : decode cX12_brings 18 = .ok (.aload_n 0, 1) := by decide +kernel
theorem dX12_brings_19 : decode cX12_brings 19 = .ok (.ldc2_w 76, 3) := by decide +kernel
theorem dX12_brings_22 : decode cX12_brings 22 = .ok (.invokevirtual 56, 3) := by decide +kernel
theorem dX12_brings_25 : decode cX12_brings 25 = .ok (.lreturn, 1) := by decide +kernel
theorem dX12_brings_26 : decode cX12_brings 26 = .ok (.aload_n 0, 1) := by decide +kernel
theorem dX12_brings_27 : decode cX12_brings 27 = .ok (.iload_n 1, 1) := by decide +kernel
theorem dX12_brings_28 : decode cX12_brings 28 = .ok (.iload_n 2, 1) := by decide +kernel
theorem dX12_brings_29 : decode cX12_brings 29 = .ok (.iload_n 3, 1) := by decide +kernel
theorem dX12_brings_30 : decode cX12_brings 30 = .ok (.invokevirtual 190, 3) := by decide +kernel
theorem dX12_brings_33 : decode cX12_brings 33 = .ok (.aload_n 0, 1) := by decide +kernel
theorem dX12_brings_34 : decode cX12_brings 34 = .ok (.getfield 184, 3) := by decide +kernel
theorem dX12_brings_37 : decode cX12_brings 37 = .ok (.i2l, 1) := by decide +kernel
theorem dX12_brings_38 : decode cX12_brings 38 = .ok (.lreturn, 1) := by decide +kernel
set_option maxRecDepth 20000 in
theorem ggX12_isSheet_X12_in : GoodIn wsX12_isSheet wsX12_in := goodIn_sub (fw_c (fw_t (fw_t (fw_t (fw_t fw_h)))) (fw_n)) (by decide +kernel)
set_option maxRecDepth 20000 in
theorem gX12_isSheet_X12_in : GoodIn wsX12_isSheet (va_wsS RX12 60 yX12_in wsX12_in) := goodIn_app (goodIn_sub (fw_c (fw_t fw_h) (fw_c (fw_t (fw_t fw_h)) (fw_c (fw_t (fw_t (fw_t fw_h))) fw_n))) (by decide +kernel)) ggX12_isSheet_X12_in
theorem dX12_isSheet_0 : decode cX12_isSheet 0 = .ok (.iload_n 0, 1) := by decide +kernel
theorem dX12_isSheet_1 : decode cX12_isSheet 1 = .ok (.iconst 0, 1) := by decide +kernel
theorem dX12_isSheet_2 : decode cX12_isSheet 2 = .ok (.iconst 3, 1) := by decide +kernel
theorem dX12_isSheet_3 : decode cX12_isSheet 3 = .ok (.invokestatic 60, 3) := by decide +kernel
theorem dX12_isSheet_6 : decode cX12_isSheet 6 = .ok (.ireturn, 1) := by decide +kernel
set_option maxRecDepth 20000 in
theorem ggX12_sheet_X12_isSheet : GoodIn wsX12_sheet wsX12_isSheet := goodIn_sub (fw_c (fw_t (fw_l (fw_t (fw_t (fw_t (fw_t (fw_t (fw_t (fw_t (fw_t fw_h)))))))))) (fw_c (fw_t (fw_l (fw_t (fw_t (fw_t (fw_t (fw_t (fw_t (fw_t (fw_t (fw_t fw_h))))))))))) (fw_c (fw_t (fw_l (fw_t (fw_t (fw_t (fw_t (fw_t (fw_t (fw_t (fw_t (fw_t (fw_t fw_h)))))))))))) (fw_c (fw_t (fw_l (fw_t (fw_t (fw_t (fw_t (fw_t (fw_t (fw_t fw_h))))))))) (fw_c (fw_t (fw_l (fw_t (fw_t (fw_t (fw_t (fw_t (fw_t (fw_t (fw_t (fw_t (fw_t (fw_t fw_h))))))))))))) fw_n))))) (by decide +kernel)
set_option maxRecDepth 20000 in
theorem gX12_sheet_X12_isSheet : GoodIn wsX12_sheet (va_wsS RX12 194 yX12_isSheet wsX12_isSheet) := goodIn_app (goodIn_sub (fw_c (fw_t (fw_l (fw_t (fw_t (fw_t (fw_t (fw_t fw_h))))))) (fw_c (fw_t (fw_l (fw_t (fw_t (fw_t (fw_t (fw_t (fw_t fw_h)))))))) (fw_c (fw_t (fw_l (fw_t (fw_t (fw_t (fw_t (fw_t (fw_t (fw_t fw_h))))))))) fw_n))) (by decide +kernel)) ggX12_sheet_X12_isSheet
set_option maxRecDepth 20000 in
theorem ggX12_sheet_X12_finds : GoodIn wsX12_sheet wsX12_finds := goodIn_sub (fw_c (fw_t (fw_l (fw_t (fw_t (fw_t (fw_t (fw_t (fw_t (fw_t (fw_t (fw_t (fw_t (fw_t (fw_t (fw_t (fw_t (fw_t fw_h))))))))))))))))) (fw_a (fw_c (fw_t (fw_l (fw_t (fw_t (fw_t (fw_t (fw_t (fw_t (fw_t (fw_t (fw_t (fw_t (fw_t (fw_t (fw_t (fw_t (fw_t (fw_t fw_h)))))))))))))))))) fw_n) (fun _ h => fw_t (fw_r h)))) (by decide +kernel)
set_option maxRecDepth 20000 in
theorem gX12_sheet_X12_finds : GoodIn wsX12_sheet (wsV RX12 56 RX12 yX12_finds wsX12_finds) := goodIn_app (goodIn_sub (fw_c (fw_t (fw_l (fw_t (fw_t (fw_t (fw_t (fw_t (fw_t (fw_t (fw_t (fw_t (fw_t (fw_t (fw_t fw_h)))))))))))))) (fw_c (fw_t (fw_l (fw_t (fw_t (fw_t (fw_t (fw_t (fw_t (fw_t (fw_t (fw_t (fw_t (fw_t (fw_t (fw_t fw_h))))))))))))))) (fw_c (fw_t (fw_l (fw_t (fw_t (fw_t (fw_t (fw_t (fw_t (fw_t (fw_t (fw_t (fw_t (fw_t (fw_t (fw_t (fw_t fw_h)))))))))))))))) (fw_c (fw_t (fw_l (fw_t (fw_t (fw_t (fw_t (fw_t (fw_t (fw_t fw_h))))))))) fw_n)))) (by decide +kernel)) ggX12_sheet_X12_finds
theorem dX12_sheet_0 : decode cX12_sheet 0 = .ok (.iload_n 1, 1) := by decide +kernel
theorem dX12_sheet_1 : decode cX12_sheet 1 = .ok (.invokestatic 194, 3) := by decide +kernel
theorem dX12_sheet_4 : decode cX12_sheet 4 = .ok (.ifCond .eq 25, 3) := by decide +kernel
theorem dX12_sheet_7 : decode cX12_sheet 7 = .ok (.iload_n 2, 1) := by decide +kernel
theorem dX12_sheet_8 : decode cX12_sheet 8 = .ok (.ifCond .eq 29, 3) := by decide +kernel
theorem dX12_sheet_11 : decode cX12_sheet 11 = .ok (.iload_n 2, 1) := by decide +kernel
theorem dX12_sheet_12 : decode cX12_sheet 12 = .ok (.bipush 8, 2) := by decide +kernel
theorem dX12_sheet_14 : decode cX12_sheet 14 = .ok (.if_icmp .eq 23, 3) := by decide +kernel
theorem dX12_sheet_17 : decode cX12_sheet 17 = .ok (.iload_n 2, 1) := by decide +kernel
theorem dX12_sheet_18 : decode cX12_sheet 18 = .ok (.bipush 16, 2) := by decide +kernel
theorem dX12_sheet_20 : decode cX12_sheet 20 = .ok (.if_icmp .eq 17, 3) := by decide +kernel
theorem dX12_sheet_23 : decode cX12_sheet 23 = .ok (.iload_n 2, 1) := by decide +kernel
theorem dX12_sheet_24 : decode cX12_sheet 24 = .ok (.bipush 32, 2) := by decide +kernel
theorem dX12_sheet_26 : decode cX12_sheet 26 = .ok (.if_icmp .eq 11, 3) := by decide +kernel
theorem dX12_sheet_29 : decode cX12_sheet 29 = .ok (.aload_n 0, 1) := by decide +kernel
theorem dX12_sheet_30 : decode cX12_sheet 30 = .ok (.ldc2_w 76, 3) := by decide +kernel
theorem dX12_sheet_33 : decode cX12_sheet 33 = .ok (.invokevirtual 56, 3) := by decide +kernel
theorem dX12_sheet_36 : decode cX12_sheet 36 = .ok (.lreturn, 1) := by decide +kernel
theorem dX12_sheet_37 : decode cX12_sheet 37 = .ok (.iload_n 3, 1) := by decide +kernel
theorem dX12_sheet_38 : decode cX12_sheet 38 = .ok (.ifCond .ge 11, 3) := by decide +kernel
theorem dX12_sheet_41 : decode cX12_sheet 41 = .ok (.aload_n 0, 1) := by decide +kernel
theorem dX12_sheet_42 : decode cX12_sheet 42 = .ok (.ldc2_w 197, 3) := by decide +kernel
theorem dX12_sheet_45 : decode cX12_sheet 45 = .ok (.invokevirtual 56, 3) := by decide +kernel
theorem dX12_sheet_48 : decode cX12_sheet 48 = .ok (.lreturn, 1) := by decide +kernel
theorem dX12_sheet_49 : decode cX12_sheet 49 = .ok (.iload_n 3, 1) := by decide +kernel
theorem dX12_sheet_50 : decode cX12_sheet 50 = .ok (.bipush 16, 2) := by decide +kernel
theorem dX12_sheet_52 : decode cX12_sheet 52 = .ok (.if_icmp .le 11, 3) := by decide +kernel
theorem dX12_sheet_55 : decode cX12_sheet 55 = .ok (.aload_n 0, 1) := by decide +kernel
theorem dX12_sheet_56 : decode cX12_sheet 56 = .ok (.ldc2_w 76, 3) := by decide +kernel
theorem dX12_sheet_59 : decode cX12_sheet 59 = .ok (.invokevirtual 56, 3) := by decide +kernel
theorem dX12_sheet_62 : decode cX12_sheet 62 = .ok (.lreturn, 1) := by decide +kernel
theorem dX12_sheet_63 : decode cX12_sheet 63 = .ok (.aload_n 0, 1) := by decide +kernel
theorem dX12_sheet_64 : decode cX12_sheet 64 = .ok (.getfield 16, 3) := by decide +kernel
theorem dX12_sheet_67 : decode cX12_sheet 67 = .ok (.iload_n 1, 1) := by decide +kernel
theorem dX12_sheet_68 : decode cX12_sheet 68 = .ok (.iload_n 2, 1) := by decide +kernel
theorem dX12_sheet_69 : decode cX12_sheet 69 = .ok (.iastore, 1) := by decide +kernel
theorem dX12_sheet_70 : decode cX12_sheet 70 = .ok (.aload_n 0, 1) := by decide +kernel
theorem dX12_sheet_71 : decode cX12_sheet 71 = .ok (.getfield 19, 3) := by decide +kernel
theorem dX12_sheet_74 : decode cX12_sheet 74 = .ok (.iload_n 1, 1) := by decide +kernel
theorem dX12_sheet_75 : decode cX12_sheet 75 = .ok (.iload_n 2, 1) := by decide +kernel
theorem dX12_sheet_76 : decode cX12_sheet 76 = .ok (.ifCond .ne 7, 3) := by decide +kernel
theorem dX12_sheet_79 : decode cX12_sheet 79 = .ok (.iconst 0, 1) := by decide +kernel
theorem dX12_sheet_80 : decode cX12_sheet 80 = .ok (.goto 4, 3) := by decide +kernel
theorem dX12_sheet_83 : decode cX12_sheet 83 = .ok (.iload_n 3, 1) := by decide +kernel
theorem dX12_sheet_84 : decode cX12_sheet 84 = .ok (.iastore, 1) := by decide +kernel
theorem dX12_sheet_85 : decode cX12_sheet 85 = .ok (.iconst 0, 1) := by decide +kernel
theorem dX12_sheet_86 : decode cX12_sheet 86 = .ok (.istore 4, 2) := by decide +kernel
theorem dX12_sheet_88 : decode cX12_sheet 88 = .ok (.iload 4, 2) := by decide +kernel
theorem dX12_sheet_90 : decode cX12_sheet 90 = .ok (.bipush 16, 2) := by decide +kernel
theorem dX12_sheet_92 : decode cX12_sheet 92 = .ok (.if_icmp .ge 22, 3) := by decide +kernel
theorem dX12_sheet_95 : decode cX12_sheet 95 = .ok (.aload_n 0, 1) := by decide +kernel
theorem dX12_sheet_96 : decode cX12_sheet 96 = .ok (.getfield 22, 3) := by decide +kernel
theorem dX12_sheet_99 : decode cX12_sheet 99 = .ok (.bipush 16, 2) := by decide +kernel
theorem dX12_sheet_101 : decode cX12_sheet 101 = .ok (.iload_n 1, 1) := by decide +kernel
theorem dX12_sheet_102 : decode cX12_sheet 102 = .ok (.imul, 1) := by decide +kernel
theorem dX12_sheet_103 : decode cX12_sheet 103 = .ok (.iload 4, 2) := by decide +kernel
theorem dX12_sheet_105 : decode cX12_sheet 105 = .ok (.iadd, 1) := by decide +kernel
theorem dX12_sheet_106 : decode cX12_sheet 106 = .ok (.iconst 0, 1) := by decide +kernel
theorem dX12_sheet_107 : decode cX12_sheet 107 = .ok (.iastore, 1) := by decide +kernel
theorem dX12_sheet_108 : decode cX12_sheet 108 = .ok (.iinc 4 1, 3) := by decide +kernel
theorem dX12_sheet_111 : decode cX12_sheet 111 = .ok (.goto (-23), 3) := by decide +kernel
theorem dX12_sheet_114 : decode cX12_sheet 114 = .ok (.aload_n 0, 1) := by decide +kernel
theorem dX12_sheet_115 : decode cX12_sheet 115 = .ok (.getfield 19, 3) := by decide +kernel
theorem dX12_sheet_118 : decode cX12_sheet 118 = .ok (.iload_n 1, 1) := by decide +kernel
theorem dX12_sheet_119 : decode cX12_sheet 119 = .ok (.iaload, 1) := by decide +kernel
theorem dX12_sheet_120 : decode cX12_sheet 120 = .ok (.i2l, 1) := by decide +kernel
theorem dX12_sheet_121 : decode cX12_sheet 121 = .ok (.lreturn, 1) := by decide +kernel
set_option maxRecDepth 20000 in
theorem ggX12_put_X12_isSheet : GoodIn wsX12_put wsX12_isSheet := goodIn_sub (fw_c (fw_t (fw_l (fw_t (fw_t (fw_t (fw_t (fw_t (fw_t (fw_t (fw_t fw_h)))))))))) (fw_c (fw_t (fw_l (fw_t (fw_t (fw_t (fw_t (fw_t (fw_t (fw_t (fw_t (fw_t fw_h))))))))))) (fw_c (fw_t (fw_l (fw_t (fw_t (fw_t (fw_t (fw_t (fw_t (fw_t (fw_t (fw_t (fw_t fw_h)))))))))))) (fw_c (fw_t (fw_l (fw_t (fw_t (fw_t (fw_t (fw_t (fw_t (fw_t fw_h))))))))) (fw_c (fw_t (fw_l (fw_t (fw_t (fw_t (fw_t (fw_t (fw_t (fw_t (fw_t (fw_t (fw_t (fw_t fw_h))))))))))))) fw_n))))) (by decide +kernel)
set_option maxRecDepth 20000 in
theorem gX12_put_X12_isSheet : GoodIn wsX12_put (va_wsS RX12 194 yX12_isSheet wsX12_isSheet) := goodIn_app (goodIn_sub (fw_c (fw_t (fw_l (fw_t (fw_t (fw_t (fw_t (fw_t fw_h))))))) (fw_c (fw_t (fw_l (fw_t (fw_t (fw_t (fw_t (fw_t (fw_t fw_h)))))))) (fw_c (fw_t (fw_l (fw_t (fw_t (fw_t (fw_t (fw_t (fw_t (fw_t fw_h))))))))) fw_n))) (by decide +kernel)) ggX12_put_X12_isSheet
set_option maxRecDepth 20000 in
theorem ggX12_put_X12_finds : GoodIn wsX12_put wsX12_finds := goodIn_sub (fw_c (fw_t (fw_l (fw_t (fw_t (fw_t (fw_t (fw_t (fw_t (fw_t (fw_t (fw_t (fw_t (fw_t (fw_t (fw_t (fw_t (fw_t fw_h))))))))))))))))) (fw_a (fw_c (fw_t (fw_l (fw_t (fw_t (fw_t (fw_t (fw_t (fw_t (fw_t (fw_t (fw_t (fw_t (fw_t (fw_t (fw_t (fw_t (fw_t (fw_t fw_h)))))))))))))))))) fw_n) (fun _ h => fw_t (fw_r h)))) (by decide +kernel)
set_option maxRecDepth 20000 in
theorem gX12_put_X12_finds : GoodIn wsX12_put (wsV RX12 56 RX12 yX12_finds wsX12_finds) := goodIn_app (goodIn_sub (fw_c (fw_t (fw_l (fw_t (fw_t (fw_t (fw_t (fw_t (fw_t (fw_t (fw_t (fw_t (fw_t (fw_t (fw_t fw_h)))))))))))))) (fw_c (fw_t (fw_l (fw_t (fw_t (fw_t (fw_t (fw_t (fw_t (fw_t (fw_t (fw_t (fw_t (fw_t (fw_t (fw_t fw_h))))))))))))))) (fw_c (fw_t (fw_l (fw_t (fw_t (fw_t (fw_t (fw_t (fw_t (fw_t (fw_t (fw_t (fw_t (fw_t (fw_t (fw_t (fw_t fw_h)))))))))))))))) (fw_c (fw_t (fw_l (fw_t (fw_t (fw_t (fw_t (fw_t (fw_t (fw_t fw_h))))))))) fw_n)))) (by decide +kernel)) ggX12_put_X12_finds
set_option maxRecDepth 20000 in
theorem ggX12_put_X12_in : GoodIn wsX12_put wsX12_in := goodIn_sub (fw_c (fw_t (fw_l (fw_t (fw_t (fw_t (fw_t (fw_t (fw_t (fw_t (fw_t (fw_t (fw_t (fw_t fw_h))))))))))))) (fw_n)) (by decide +kernel)
set_option maxRecDepth 20000 in
theorem gX12_put_X12_in : GoodIn wsX12_put (va_wsS RX12 60 yX12_in wsX12_in) := goodIn_app (goodIn_sub (fw_c (fw_t (fw_l (fw_t (fw_t (fw_t (fw_t (fw_t (fw_t (fw_t (fw_t (fw_t fw_h))))))))))) (fw_c (fw_t (fw_l (fw_t (fw_t (fw_t (fw_t (fw_t (fw_t (fw_t (fw_t (fw_t (fw_t fw_h)))))))))))) (fw_c (fw_t (fw_l (fw_t (fw_t (fw_t (fw_t (fw_t (fw_t (fw_t fw_h))))))))) fw_n))) (by decide +kernel)) ggX12_put_X12_in
theorem dX12_put_0 : decode cX12_put 0 = .ok (.iload_n 1, 1) := by decide +kernel
theorem dX12_put_1 : decode cX12_put 1 = .ok (.invokestatic 194, 3) := by decide +kernel
theorem dX12_put_4 : decode cX12_put 4 = .ok (.ifCond .ne 11, 3) := by decide +kernel
theorem dX12_put_7 : decode cX12_put 7 = .ok (.aload_n 0, 1) := by decide +kernel
theorem dX12_put_8 : decode cX12_put 8 = .ok (.ldc2_w 76, 3) := by decide +kernel
theorem dX12_put_11 : decode cX12_put 11 = .ok (.invokevirtual 56, 3) := by decide +kernel
theorem dX12_put_14 : decode cX12_put 14 = .ok (.lreturn, 1) := by decide +kernel
theorem dX12_put_15 : decode cX12_put 15 = .ok (.aload_n 0, 1) := by decide +kernel
theorem dX12_put_16 : decode cX12_put 16 = .ok (.getfield 16, 3) := by decide +kernel
theorem dX12_put_19 : decode cX12_put 19 = .ok (.iload_n 1, 1) := by decide +kernel
theorem dX12_put_20 : decode cX12_put 20 = .ok (.iaload, 1) := by decide +kernel
theorem dX12_put_21 : decode cX12_put 21 = .ok (.ifCond .ne 11, 3) := by decide +kernel
theorem dX12_put_24 : decode cX12_put 24 = .ok (.aload_n 0, 1) := by decide +kernel
theorem dX12_put_25 : decode cX12_put 25 = .ok (.ldc2_w 199, 3) := by decide +kernel
theorem dX12_put_28 : decode cX12_put 28 = .ok (.invokevirtual 56, 3) := by decide +kernel
theorem dX12_put_31 : decode cX12_put 31 = .ok (.lreturn, 1) := by decide +kernel
theorem dX12_put_32 : decode cX12_put 32 = .ok (.iload_n 2, 1) := by decide +kernel
theorem dX12_put_33 : decode cX12_put 33 = .ok (.iconst 0, 1) := by decide +kernel
theorem dX12_put_34 : decode cX12_put 34 = .ok (.aload_n 0, 1) := by decide +kernel
theorem dX12_put_35 : decode cX12_put 35 = .ok (.getfield 19, 3) := by decide +kernel
theorem dX12_put_38 : decode cX12_put 38 = .ok (.iload_n 1, 1) := by decide +kernel
theorem dX12_put_39 : decode cX12_put 39 = .ok (.iaload, 1) := by decide +kernel
theorem dX12_put_40 : decode cX12_put 40 = .ok (.iconst 1, 1) := by decide +kernel
theorem dX12_put_41 : decode cX12_put 41 = .ok (.isub, 1) := by decide +kernel
theorem dX12_put_42 : decode cX12_put 42 = .ok (.invokestatic 60, 3) := by decide +kernel
theorem dX12_put_45 : decode cX12_put 45 = .ok (.ifCond .ne 11, 3) := by decide +kernel
theorem dX12_put_48 : decode cX12_put 48 = .ok (.aload_n 0, 1) := by decide +kernel
