theorem dX12_doubtOf_8 : decode cX12_doubtOf 8 = .ok (.if_icmp .ge 142, 3) := by decide +kernel
theorem dX12_doubtOf_11 : decode cX12_doubtOf 11 = .ok (.aload_n 0, 1) := by decide +kernel
theorem dX12_doubtOf_12 : decode cX12_doubtOf 12 = .ok (.iload_n 1, 1) := by decide +kernel
theorem dX12_doubtOf_13 : decode cX12_doubtOf 13 = .ok (.iload 4, 2) := by decide +kernel
theorem dX12_doubtOf_15 : decode cX12_doubtOf 15 = .ok (.invokevirtual 104, 3) := by decide +kernel
theorem dX12_doubtOf_18 : decode cX12_doubtOf 18 = .ok (.ifCond .ne 7, 3) := by decide +kernel
theorem dX12_doubtOf_21 : decode cX12_doubtOf 21 = .ok (.ldc2_w 115, 3) := by decide +kernel
theorem dX12_doubtOf_24 : decode cX12_doubtOf 24 = .ok (.lreturn, 1) := by decide +kernel
theorem dX12_doubtOf_25 : decode cX12_doubtOf 25 = .ok (.aload_n 0, 1) := by decide +kernel
theorem dX12_doubtOf_26 : decode cX12_doubtOf 26 = .ok (.getfield 78, 3) := by decide +kernel
theorem dX12_doubtOf_29 : decode cX12_doubtOf 29 = .ok (.aload_n 0, 1) := by decide +kernel
theorem dX12_doubtOf_30 : decode cX12_doubtOf 30 = .ok (.getfield 97, 3) := by decide +kernel
theorem dX12_doubtOf_33 : decode cX12_doubtOf 33 = .ok (.lmul, 1) := by decide +kernel
theorem dX12_doubtOf_34 : decode cX12_doubtOf 34 = .ok (.lstore 5, 2) := by decide +kernel
theorem dX12_doubtOf_36 : decode cX12_doubtOf 36 = .ok (.iconst 0, 1) := by decide +kernel
theorem dX12_doubtOf_37 : decode cX12_doubtOf 37 = .ok (.istore 7, 2) := by decide +kernel
theorem dX12_doubtOf_39 : decode cX12_doubtOf 39 = .ok (.iload 7, 2) := by decide +kernel
theorem dX12_doubtOf_41 : decode cX12_doubtOf 41 = .ok (.i2l, 1) := by decide +kernel
theorem dX12_doubtOf_42 : decode cX12_doubtOf 42 = .ok (.aload_n 0, 1) := by decide +kernel
theorem dX12_doubtOf_43 : decode cX12_doubtOf 43 = .ok (.getfield 78, 3) := by decide +kernel
theorem dX12_doubtOf_46 : decode cX12_doubtOf 46 = .ok (.lcmp, 1) := by decide +kernel
theorem dX12_doubtOf_47 : decode cX12_doubtOf 47 = .ok (.ifCond .ge 97, 3) := by decide +kernel
theorem dX12_doubtOf_50 : decode cX12_doubtOf 50 = .ok (.bipush 10, 2) := by decide +kernel
theorem dX12_doubtOf_52 : decode cX12_doubtOf 52 = .ok (.bipush 32, 2) := by decide +kernel
theorem dX12_doubtOf_54 : decode cX12_doubtOf 54 = .ok (.iload_n 1, 1) := by decide +kernel
theorem dX12_doubtOf_55 : decode cX12_doubtOf 55 = .ok (.imul, 1) := by decide +kernel
theorem dX12_doubtOf_56 : decode cX12_doubtOf 56 = .ok (.iadd, 1) := by decide +kernel
theorem dX12_doubtOf_57 : decode cX12_doubtOf 57 = .ok (.iconst 4, 1) := by decide +kernel
theorem dX12_doubtOf_58 : decode cX12_doubtOf 58 = .ok (.iload 7, 2) := by decide +kernel
theorem dX12_doubtOf_60 : decode cX12_doubtOf 60 = .ok (.imul, 1) := by decide +kernel
theorem dX12_doubtOf_61 : decode cX12_doubtOf 61 = .ok (.iadd, 1) := by decide +kernel
theorem dX12_doubtOf_62 : decode cX12_doubtOf 62 = .ok (.iload 4, 2) := by decide +kernel
theorem dX12_doubtOf_64 : decode cX12_doubtOf 64 = .ok (.iadd, 1) := by decide +kernel
theorem dX12_doubtOf_65 : decode cX12_doubtOf 65 = .ok (.istore 8, 2) := by decide +kernel
theorem dX12_doubtOf_67 : decode cX12_doubtOf 67 = .ok (.aload_n 0, 1) := by decide +kernel
theorem dX12_doubtOf_68 : decode cX12_doubtOf 68 = .ok (.getfield 9, 3) := by decide +kernel
theorem dX12_doubtOf_71 : decode cX12_doubtOf 71 = .ok (.iload 8, 2) := by decide +kernel
theorem dX12_doubtOf_73 : decode cX12_doubtOf 73 = .ok (.iconst 2, 1) := by decide +kernel
theorem dX12_doubtOf_74 : decode cX12_doubtOf 74 = .ok (.iadd, 1) := by decide +kernel
theorem dX12_doubtOf_75 : decode cX12_doubtOf 75 = .ok (.iaload, 1) := by decide +kernel
theorem dX12_doubtOf_76 : decode cX12_doubtOf 76 = .ok (.i2l, 1) := by decide +kernel
theorem dX12_doubtOf_77 : decode cX12_doubtOf 77 = .ok (.lload 5, 2) := by decide +kernel
theorem dX12_doubtOf_79 : decode cX12_doubtOf 79 = .ok (.lmul, 1) := by decide +kernel
theorem dX12_doubtOf_80 : decode cX12_doubtOf 80 = .ok (.aload_n 0, 1) := by decide +kernel
theorem dX12_doubtOf_81 : decode cX12_doubtOf 81 = .ok (.aload_n 0, 1) := by decide +kernel
theorem dX12_doubtOf_82 : decode cX12_doubtOf 82 = .ok (.getfield 9, 3) := by decide +kernel
theorem dX12_doubtOf_85 : decode cX12_doubtOf 85 = .ok (.iload 8, 2) := by decide +kernel
theorem dX12_doubtOf_87 : decode cX12_doubtOf 87 = .ok (.iaload, 1) := by decide +kernel
theorem dX12_doubtOf_88 : decode cX12_doubtOf 88 = .ok (.i2l, 1) := by decide +kernel
theorem dX12_doubtOf_89 : decode cX12_doubtOf 89 = .ok (.invokevirtual 108, 3) := by decide +kernel
theorem dX12_doubtOf_92 : decode cX12_doubtOf 92 = .ok (.lsub, 1) := by decide +kernel
theorem dX12_doubtOf_93 : decode cX12_doubtOf 93 = .ok (.lstore 9, 2) := by decide +kernel
theorem dX12_doubtOf_95 : decode cX12_doubtOf 95 = .ok (.lload 9, 2) := by decide +kernel
theorem dX12_doubtOf_97 : decode cX12_doubtOf 97 = .ok (.lconst 0, 1) := by decide +kernel
theorem dX12_doubtOf_98 : decode cX12_doubtOf 98 = .ok (.lcmp, 1) := by decide +kernel
theorem dX12_doubtOf_99 : decode cX12_doubtOf 99 = .ok (.ifCond .ge 9, 3) := by decide +kernel
theorem dX12_doubtOf_102 : decode cX12_doubtOf 102 = .ok (.lload 9, 2) := by decide +kernel
theorem dX12_doubtOf_104 : decode cX12_doubtOf 104 = .ok (.lneg, 1) := by decide +kernel
theorem dX12_doubtOf_105 : decode cX12_doubtOf 105 = .ok (.goto 5, 3) := by decide +kernel
theorem dX12_doubtOf_108 : decode cX12_doubtOf 108 = .ok (.lload 9, 2) := by decide +kernel
theorem dX12_doubtOf_110 : decode cX12_doubtOf 110 = .ok (.lstore 9, 2) := by decide +kernel
theorem dX12_doubtOf_112 : decode cX12_doubtOf 112 = .ok (.lload 9, 2) := by decide +kernel
theorem dX12_doubtOf_114 : decode cX12_doubtOf 114 = .ok (.lload 5, 2) := by decide +kernel
theorem dX12_doubtOf_116 : decode cX12_doubtOf 116 = .ok (.ladd, 1) := by decide +kernel
theorem dX12_doubtOf_117 : decode cX12_doubtOf 117 = .ok (.lconst 1, 1) := by decide +kernel
theorem dX12_doubtOf_118 : decode cX12_doubtOf 118 = .ok (.lsub, 1) := by decide +kernel
theorem dX12_doubtOf_119 : decode cX12_doubtOf 119 = .ok (.lload 5, 2) := by decide +kernel
theorem dX12_doubtOf_121 : decode cX12_doubtOf 121 = .ok (.ldiv, 1) := by decide +kernel
theorem dX12_doubtOf_122 : decode cX12_doubtOf 122 = .ok (.lstore 11, 2) := by decide +kernel
theorem dX12_doubtOf_124 : decode cX12_doubtOf 124 = .ok (.lload 11, 2) := by decide +kernel
theorem dX12_doubtOf_126 : decode cX12_doubtOf 126 = .ok (.lload_n 2, 1) := by decide +kernel
theorem dX12_doubtOf_127 : decode cX12_doubtOf 127 = .ok (.lcmp, 1) := by decide +kernel
theorem dX12_doubtOf_128 : decode cX12_doubtOf 128 = .ok (.ifCond .le 8, 3) := by decide +kernel
theorem dX12_doubtOf_131 : decode cX12_doubtOf 131 = .ok (.lload 11, 2) := by decide +kernel
theorem dX12_doubtOf_133 : decode cX12_doubtOf 133 = .ok (.goto 4, 3) := by decide +kernel
theorem dX12_doubtOf_136 : decode cX12_doubtOf 136 = .ok (.lload_n 2, 1) := by decide +kernel
theorem dX12_doubtOf_137 : decode cX12_doubtOf 137 = .ok (.lstore_n 2, 1) := by decide +kernel
theorem dX12_doubtOf_138 : decode cX12_doubtOf 138 = .ok (.iinc 7 1, 3) := by decide +kernel
theorem dX12_doubtOf_141 : decode cX12_doubtOf 141 = .ok (.goto (-102), 3) := by decide +kernel
theorem dX12_doubtOf_144 : decode cX12_doubtOf 144 = .ok (.iinc 4 1, 3) := by decide +kernel
theorem dX12_doubtOf_147 : decode cX12_doubtOf 147 = .ok (.goto (-142), 3) := by decide +kernel
theorem dX12_doubtOf_150 : decode cX12_doubtOf 150 = .ok (.lload_n 2, 1) := by decide +kernel
theorem dX12_doubtOf_151 : decode cX12_doubtOf 151 = .ok (.lconst 1, 1) := by decide +kernel
theorem dX12_doubtOf_152 : decode cX12_doubtOf 152 = .ok (.ladd, 1) := by decide +kernel
theorem dX12_doubtOf_153 : decode cX12_doubtOf 153 = .ok (.lreturn, 1) := by decide +kernel
set_option maxRecDepth 20000 in
theorem ggX12_doubt_X12_isPicture : GoodIn wsX12_doubt wsX12_isPicture := goodIn_sub (fw_c (fw_t (fw_l (fw_l (fw_t (fw_t (fw_t (fw_t (fw_t (fw_t fw_h))))))))) (fw_a (fw_c (fw_t (fw_l (fw_l (fw_t (fw_t (fw_t (fw_t (fw_t (fw_t (fw_t fw_h)))))))))) (fw_c (fw_t (fw_l (fw_l (fw_t (fw_t (fw_t (fw_t (fw_t (fw_t (fw_t (fw_t fw_h))))))))))) (fw_c (fw_t (fw_l (fw_l (fw_t (fw_t (fw_t (fw_t (fw_t (fw_t (fw_t (fw_t (fw_t fw_h)))))))))))) (fw_c (fw_t (fw_l (fw_l (fw_t (fw_t (fw_t (fw_t (fw_t fw_h)))))))) (fw_c (fw_t (fw_l (fw_l (fw_t (fw_t (fw_t (fw_t (fw_t (fw_t (fw_t (fw_t (fw_t (fw_t fw_h))))))))))))) fw_n))))) (fun _ h => fw_t (fw_r h)))) (by decide +kernel)
set_option maxRecDepth 20000 in
theorem gX12_doubt_X12_isPicture : GoodIn wsX12_doubt (wsV RX12 69 RX12 yX12_isPicture wsX12_isPicture) := goodIn_app (goodIn_sub (fw_c (fw_t (fw_l (fw_l (fw_t (fw_t fw_h))))) (fw_c (fw_t (fw_l (fw_l (fw_t (fw_t (fw_t fw_h)))))) (fw_c (fw_t (fw_l (fw_l (fw_t (fw_t (fw_t (fw_t fw_h))))))) (fw_c (fw_t (fw_l (fw_l (fw_t (fw_t (fw_t (fw_t (fw_t fw_h)))))))) fw_n)))) (by decide +kernel)) ggX12_doubt_X12_isPicture
set_option maxRecDepth 20000 in
theorem ggX12_doubt_X12_finds : GoodIn wsX12_doubt wsX12_finds := goodIn_sub (fw_c (fw_t (fw_l (fw_l (fw_t (fw_t (fw_t (fw_t (fw_t (fw_t (fw_t (fw_t (fw_t (fw_t (fw_t (fw_t (fw_t (fw_t fw_h))))))))))))))))) (fw_a (fw_c (fw_t (fw_l (fw_l (fw_t (fw_t (fw_t (fw_t (fw_t (fw_t (fw_t (fw_t (fw_t (fw_t (fw_t (fw_t (fw_t (fw_t (fw_t fw_h)))))))))))))))))) fw_n) (fun _ h => fw_t (fw_r h)))) (by decide +kernel)
set_option maxRecDepth 20000 in
theorem gX12_doubt_X12_finds : GoodIn wsX12_doubt (wsV RX12 56 RX12 yX12_finds wsX12_finds) := goodIn_app (goodIn_sub (fw_c (fw_t (fw_l (fw_l (fw_t (fw_t (fw_t (fw_t (fw_t (fw_t (fw_t (fw_t (fw_t (fw_t (fw_t fw_h)))))))))))))) (fw_c (fw_t (fw_l (fw_l (fw_t (fw_t (fw_t (fw_t (fw_t (fw_t (fw_t (fw_t (fw_t (fw_t (fw_t (fw_t fw_h))))))))))))))) (fw_c (fw_t (fw_l (fw_l (fw_t (fw_t (fw_t (fw_t (fw_t (fw_t (fw_t (fw_t (fw_t (fw_t (fw_t (fw_t (fw_t fw_h)))))))))))))))) (fw_c (fw_t (fw_l (fw_l (fw_t (fw_t (fw_t (fw_t (fw_t fw_h)))))))) fw_n)))) (by decide +kernel)) ggX12_doubt_X12_finds
set_option maxRecDepth 20000 in
theorem ggX12_doubt_X12_doubtOf : GoodIn wsX12_doubt wsX12_doubtOf := goodIn_sub (fw_c (fw_t (fw_l (fw_l (fw_t (fw_t (fw_t (fw_t (fw_t (fw_t (fw_t (fw_t (fw_t (fw_t (fw_t (fw_t (fw_t (fw_t (fw_t (fw_t (fw_t (fw_t (fw_t fw_h)))))))))))))))))))))) (fw_a (fw_c (fw_t (fw_l (fw_l (fw_t (fw_t (fw_t (fw_t (fw_t (fw_t (fw_t (fw_t (fw_t (fw_t (fw_t (fw_t (fw_t (fw_t (fw_t (fw_t (fw_t (fw_t (fw_t (fw_t fw_h))))))))))))))))))))))) (fw_c (fw_t (fw_l (fw_l (fw_t (fw_t (fw_t (fw_t (fw_t (fw_t (fw_t (fw_t (fw_t (fw_t (fw_t (fw_t (fw_t (fw_t (fw_t (fw_t (fw_t (fw_t (fw_t (fw_t (fw_t fw_h)))))))))))))))))))))))) (fw_c (fw_t (fw_l (fw_l (fw_t (fw_t (fw_t (fw_t (fw_t (fw_t (fw_t (fw_t (fw_t (fw_t (fw_t (fw_t (fw_t (fw_t (fw_t (fw_t (fw_t (fw_t (fw_t (fw_t (fw_t (fw_t fw_h))))))))))))))))))))))))) (fw_c (fw_t (fw_l (fw_l (fw_t (fw_t (fw_t (fw_t (fw_t (fw_t (fw_t fw_h)))))))))) (fw_c (fw_t (fw_l (fw_l (fw_t (fw_t (fw_t (fw_t (fw_t (fw_t (fw_t (fw_t (fw_t (fw_t (fw_t (fw_t (fw_t (fw_t (fw_t (fw_t (fw_t (fw_t (fw_t (fw_t (fw_t (fw_t (fw_t fw_h)))))))))))))))))))))))))) (fw_c (fw_t (fw_l (fw_r fw_h))) (fw_c (fw_t (fw_l (fw_r (fw_t fw_h)))) (fw_c (fw_t (fw_l (fw_l (fw_t (fw_t (fw_t (fw_t (fw_t fw_h)))))))) (fw_c (fw_t (fw_l (fw_r (fw_t (fw_t fw_h))))) (fw_c (fw_t (fw_l (fw_r (fw_t (fw_t (fw_t fw_h)))))) (fw_c (fw_t (fw_l (fw_r (fw_t (fw_t (fw_t (fw_t fw_h))))))) (fw_c (fw_t (fw_l (fw_r (fw_t (fw_t (fw_t (fw_t (fw_t fw_h)))))))) (fw_c (fw_t (fw_l (fw_r (fw_t (fw_t (fw_t (fw_t (fw_t (fw_t fw_h))))))))) (fw_c (fw_t (fw_l (fw_r (fw_t (fw_t (fw_t (fw_t (fw_t (fw_t (fw_t fw_h)))))))))) (fw_c (fw_t (fw_l (fw_r (fw_t (fw_t (fw_t (fw_t (fw_t (fw_t (fw_t (fw_t fw_h))))))))))) (fw_c (fw_t (fw_l (fw_r (fw_t (fw_t (fw_t (fw_t (fw_t (fw_t (fw_t (fw_t (fw_t fw_h)))))))))))) (fw_c (fw_t (fw_l (fw_r (fw_t (fw_t (fw_t (fw_t (fw_t (fw_t (fw_t (fw_t (fw_t (fw_t fw_h))))))))))))) (fw_c (fw_t (fw_l (fw_r (fw_t (fw_t (fw_t (fw_t (fw_t (fw_t (fw_t (fw_t (fw_t (fw_t (fw_t fw_h)))))))))))))) fw_n)))))))))))))))))) (fun _ h => fw_t (fw_r h)))) (by decide +kernel)
set_option maxRecDepth 20000 in
theorem gX12_doubt_X12_doubtOf : GoodIn wsX12_doubt (wsV RX12 117 RX12 yX12_doubtOf wsX12_doubtOf) := goodIn_app (goodIn_sub (fw_c (fw_t (fw_l (fw_l (fw_t (fw_t (fw_t (fw_t (fw_t (fw_t (fw_t (fw_t (fw_t (fw_t (fw_t (fw_t (fw_t (fw_t (fw_t (fw_t fw_h))))))))))))))))))) (fw_c (fw_t (fw_l (fw_l (fw_t (fw_t (fw_t (fw_t (fw_t (fw_t (fw_t (fw_t (fw_t (fw_t (fw_t (fw_t (fw_t (fw_t (fw_t (fw_t (fw_t fw_h)))))))))))))))))))) (fw_c (fw_t (fw_l (fw_l (fw_t (fw_t (fw_t (fw_t (fw_t (fw_t (fw_t (fw_t (fw_t (fw_t (fw_t (fw_t (fw_t (fw_t (fw_t (fw_t (fw_t (fw_t fw_h))))))))))))))))))))) (fw_c (fw_t (fw_l (fw_l (fw_t (fw_t (fw_t (fw_t (fw_t fw_h)))))))) fw_n)))) (by decide +kernel)) ggX12_doubt_X12_doubtOf
theorem dX12_doubt_0 : decode cX12_doubt 0 = .ok (.aload_n 0, 1) := by decide +kernel
theorem dX12_doubt_1 : decode cX12_doubt 1 = .ok (.iload_n 1, 1) := by decide +kernel
theorem dX12_doubt_2 : decode cX12_doubt 2 = .ok (.invokevirtual 69, 3) := by decide +kernel
theorem dX12_doubt_5 : decode cX12_doubt 5 = .ok (.ifCond .ne 11, 3) := by decide +kernel
theorem dX12_doubt_8 : decode cX12_doubt 8 = .ok (.aload_n 0, 1) := by decide +kernel
theorem dX12_doubt_9 : decode cX12_doubt 9 = .ok (.ldc2_w 76, 3) := by decide +kernel
theorem dX12_doubt_12 : decode cX12_doubt 12 = .ok (.invokevirtual 56, 3) := by decide +kernel
theorem dX12_doubt_15 : decode cX12_doubt 15 = .ok (.lreturn, 1) := by decide +kernel
theorem dX12_doubt_16 : decode cX12_doubt 16 = .ok (.aload_n 0, 1) := by decide +kernel
theorem dX12_doubt_17 : decode cX12_doubt 17 = .ok (.iload_n 1, 1) := by decide +kernel
theorem dX12_doubt_18 : decode cX12_doubt 18 = .ok (.invokevirtual 117, 3) := by decide +kernel
theorem dX12_doubt_21 : decode cX12_doubt 21 = .ok (.lstore_n 2, 1) := by decide +kernel
theorem dX12_doubt_22 : decode cX12_doubt 22 = .ok (.lload_n 2, 1) := by decide +kernel
theorem dX12_doubt_23 : decode cX12_doubt 23 = .ok (.lconst 0, 1) := by decide +kernel
theorem dX12_doubt_24 : decode cX12_doubt 24 = .ok (.lcmp, 1) := by decide +kernel
theorem dX12_doubt_25 : decode cX12_doubt 25 = .ok (.ifCond .ge 13, 3) := by decide +kernel
theorem dX12_doubt_28 : decode cX12_doubt 28 = .ok (.aload_n 0, 1) := by decide +kernel
theorem dX12_doubt_29 : decode cX12_doubt 29 = .ok (.ldc2_w 54, 3) := by decide +kernel
theorem dX12_doubt_32 : decode cX12_doubt 32 = .ok (.invokevirtual 56, 3) := by decide +kernel
theorem dX12_doubt_35 : decode cX12_doubt 35 = .ok (.goto 4, 3) := by decide +kernel
theorem dX12_doubt_38 : decode cX12_doubt 38 = .ok (.lload_n 2, 1) := by decide +kernel
theorem dX12_doubt_39 : decode cX12_doubt 39 = .ok (.lreturn, 1) := by decide +kernel
theorem dX12_isRing_0 : decode cX12_isRing 0 = .ok (.iload_n 0, 1) := by decide +kernel
theorem dX12_isRing_1 : decode cX12_isRing 1 = .ok (.iconst 1, 1) := by decide +kernel
theorem dX12_isRing_2 : decode cX12_isRing 2 = .ok (.if_icmp .eq 8, 3) := by decide +kernel
theorem dX12_isRing_5 : decode cX12_isRing 5 = .ok (.iload_n 0, 1) := by decide +kernel
theorem dX12_isRing_6 : decode cX12_isRing 6 = .ok (.iconst 3, 1) := by decide +kernel
theorem dX12_isRing_7 : decode cX12_isRing 7 = .ok (.if_icmp .ne 7, 3) := by decide +kernel
theorem dX12_isRing_10 : decode cX12_isRing 10 = .ok (.iconst 1, 1) := by decide +kernel
theorem dX12_isRing_11 : decode cX12_isRing 11 = .ok (.goto 4, 3) := by decide +kernel
theorem dX12_isRing_14 : decode cX12_isRing 14 = .ok (.iconst 0, 1) := by decide +kernel
theorem dX12_isRing_15 : decode cX12_isRing 15 = .ok (.ireturn, 1) := by decide +kernel
set_option maxRecDepth 20000 in
theorem ggX12_isMark_X12_in : GoodIn wsX12_isMark wsX12_in := goodIn_sub (fw_c (fw_t (fw_l (fw_t (fw_t (fw_t (fw_t fw_h)))))) (fw_n)) (by decide +kernel)
set_option maxRecDepth 20000 in
theorem gX12_isMark_X12_in : GoodIn wsX12_isMark (va_wsS RX12 60 yX12_in wsX12_in) := goodIn_app (goodIn_sub (fw_c (fw_t (fw_l (fw_t fw_h))) (fw_c (fw_t (fw_l (fw_t (fw_t fw_h)))) (fw_c (fw_t (fw_l (fw_t (fw_t (fw_t fw_h))))) fw_n))) (by decide +kernel)) ggX12_isMark_X12_in
theorem dX12_isMark_0 : decode cX12_isMark 0 = .ok (.iload_n 1, 1) := by decide +kernel
theorem dX12_isMark_1 : decode cX12_isMark 1 = .ok (.iconst 0, 1) := by decide +kernel
theorem dX12_isMark_2 : decode cX12_isMark 2 = .ok (.aload_n 0, 1) := by decide +kernel
theorem dX12_isMark_3 : decode cX12_isMark 3 = .ok (.getfield 9, 3) := by decide +kernel
theorem dX12_isMark_6 : decode cX12_isMark 6 = .ok (.iconst 1, 1) := by decide +kernel
theorem dX12_isMark_7 : decode cX12_isMark 7 = .ok (.iaload, 1) := by decide +kernel
theorem dX12_isMark_8 : decode cX12_isMark 8 = .ok (.iconst 1, 1) := by decide +kernel
theorem dX12_isMark_9 : decode cX12_isMark 9 = .ok (.isub, 1) := by decide +kernel
theorem dX12_isMark_10 : decode cX12_isMark 10 = .ok (.invokestatic 60, 3) := by decide +kernel
theorem dX12_isMark_13 : decode cX12_isMark 13 = .ok (.ireturn, 1) := by decide +kernel
theorem dX12_ofMark_0 : decode cX12_ofMark 0 = .ok (.aload_n 0, 1) := by decide +kernel
theorem dX12_ofMark_1 : decode cX12_ofMark 1 = .ok (.getfield 9, 3) := by decide +kernel
theorem dX12_ofMark_4 : decode cX12_ofMark 4 = .ok (.sipush 202, 3) := by decide +kernel
theorem dX12_ofMark_7 : decode cX12_ofMark 7 = .ok (.bipush 6, 2) := by decide +kernel
theorem dX12_ofMark_9 : decode cX12_ofMark 9 = .ok (.iload_n 1, 1) := by decide +kernel
theorem dX12_ofMark_10 : decode cX12_ofMark 10 = .ok (.imul, 1) := by decide +kernel
theorem dX12_ofMark_11 : decode cX12_ofMark 11 = .ok (.iadd, 1) := by decide +kernel
theorem dX12_ofMark_12 : decode cX12_ofMark 12 = .ok (.iload_n 2, 1) := by decide +kernel
theorem dX12_ofMark_13 : decode cX12_ofMark 13 = .ok (.iadd, 1) := by decide +kernel
theorem dX12_ofMark_14 : decode cX12_ofMark 14 = .ok (.iaload, 1) := by decide +kernel
theorem dX12_ofMark_15 : decode cX12_ofMark 15 = .ok (.ireturn, 1) := by decide +kernel
set_option maxRecDepth 20000 in
theorem ggX12_mark_X12_isPicture : GoodIn wsX12_mark wsX12_isPicture := goodIn_sub (fw_c (fw_t (fw_l (fw_l (fw_t (fw_t (fw_t (fw_t (fw_t (fw_t (fw_t fw_h)))))))))) (fw_a (fw_c (fw_t (fw_l (fw_l (fw_t fw_h)))) (fw_c (fw_t (fw_l (fw_l (fw_t (fw_t (fw_t (fw_t (fw_t (fw_t (fw_t (fw_t fw_h))))))))))) (fw_c (fw_t (fw_l (fw_l (fw_t (fw_t (fw_t (fw_t (fw_t (fw_t (fw_t (fw_t (fw_t fw_h)))))))))))) (fw_c (fw_t (fw_l (fw_l (fw_t (fw_t (fw_t (fw_t (fw_t (fw_t fw_h))))))))) (fw_c (fw_t (fw_l (fw_l (fw_t (fw_t (fw_t (fw_t (fw_t (fw_t (fw_t (fw_t (fw_t (fw_t fw_h))))))))))))) fw_n))))) (fun _ h => fw_t (fw_r h)))) (by decide +kernel)
set_option maxRecDepth 20000 in
theorem gX12_mark_X12_isPicture : GoodIn wsX12_mark (wsV RX12 69 RX12 yX12_isPicture wsX12_isPicture) := goodIn_app (goodIn_sub (fw_c (fw_t (fw_l (fw_l (fw_t (fw_t (fw_t fw_h)))))) (fw_c (fw_t (fw_l (fw_l (fw_t (fw_t (fw_t (fw_t fw_h))))))) (fw_c (fw_t (fw_l (fw_l (fw_t (fw_t (fw_t (fw_t (fw_t fw_h)))))))) (fw_c (fw_t (fw_l (fw_l (fw_t (fw_t (fw_t (fw_t (fw_t (fw_t fw_h))))))))) fw_n)))) (by decide +kernel)) ggX12_mark_X12_isPicture
set_option maxRecDepth 20000 in
theorem ggX12_mark_X12_in : GoodIn wsX12_mark wsX12_in := goodIn_sub (fw_c (fw_t (fw_l (fw_l (fw_t (fw_t (fw_t (fw_t (fw_t (fw_t (fw_t (fw_t (fw_t (fw_t fw_h))))))))))))) (fw_n)) (by decide +kernel)
set_option maxRecDepth 20000 in
theorem gX12_mark_X12_in : GoodIn wsX12_mark (va_wsS RX12 60 yX12_in wsX12_in) := goodIn_app (goodIn_sub (fw_c (fw_t (fw_l (fw_l (fw_t (fw_t (fw_t (fw_t (fw_t (fw_t (fw_t (fw_t fw_h))))))))))) (fw_c (fw_t (fw_l (fw_l (fw_t (fw_t (fw_t (fw_t (fw_t (fw_t (fw_t (fw_t (fw_t fw_h)))))))))))) (fw_c (fw_t (fw_l (fw_l (fw_t (fw_t (fw_t (fw_t (fw_t (fw_t fw_h))))))))) fw_n))) (by decide +kernel)) ggX12_mark_X12_in
set_option maxRecDepth 20000 in
theorem ggX12_mark_X12_isNumber : GoodIn wsX12_mark wsX12_isNumber := goodIn_sub (fw_c (fw_t (fw_l (fw_l (fw_t (fw_t (fw_t (fw_t (fw_t (fw_t (fw_t (fw_t (fw_t (fw_t (fw_t (fw_t (fw_t fw_h)))))))))))))))) (fw_c (fw_t (fw_l (fw_l (fw_t (fw_t (fw_t (fw_t (fw_t (fw_t (fw_t (fw_t fw_h))))))))))) (fw_c (fw_t (fw_l (fw_l (fw_t (fw_t (fw_t (fw_t (fw_t (fw_t (fw_t (fw_t (fw_t fw_h)))))))))))) (fw_c (fw_t (fw_l (fw_l (fw_t (fw_t (fw_t (fw_t (fw_t (fw_t fw_h))))))))) (fw_c (fw_t (fw_l (fw_l (fw_t (fw_t (fw_t (fw_t (fw_t (fw_t (fw_t (fw_t (fw_t (fw_t fw_h))))))))))))) fw_n))))) (by decide +kernel)
set_option maxRecDepth 20000 in
theorem gX12_mark_X12_isNumber : GoodIn wsX12_mark (va_wsS RX12 73 yX12_isNumber wsX12_isNumber) := goodIn_app (goodIn_sub (fw_c (fw_t (fw_l (fw_l (fw_t (fw_t (fw_t (fw_t (fw_t (fw_t (fw_t (fw_t (fw_t (fw_t (fw_t fw_h)))))))))))))) (fw_c (fw_t (fw_l (fw_l (fw_t (fw_t (fw_t (fw_t (fw_t (fw_t (fw_t (fw_t (fw_t (fw_t (fw_t (fw_t fw_h))))))))))))))) (fw_c (fw_t (fw_l (fw_l (fw_t (fw_t (fw_t (fw_t (fw_t (fw_t fw_h))))))))) fw_n))) (by decide +kernel)) ggX12_mark_X12_isNumber
set_option maxRecDepth 20000 in
theorem ggX12_mark_X12_finds : GoodIn wsX12_mark wsX12_finds := goodIn_sub (fw_c (fw_t (fw_l (fw_l (fw_t (fw_t (fw_t (fw_t (fw_t (fw_t (fw_t (fw_t (fw_t (fw_t (fw_t (fw_t (fw_t (fw_t (fw_t (fw_t (fw_t fw_h)))))))))))))))))))) (fw_a (fw_c (fw_t (fw_l (fw_l (fw_t (fw_t (fw_t (fw_t (fw_t (fw_t (fw_t (fw_t (fw_t (fw_t (fw_t (fw_t (fw_t (fw_t (fw_t (fw_t (fw_t (fw_t fw_h))))))))))))))))))))) fw_n) (fun _ h => fw_t (fw_r h)))) (by decide +kernel)
set_option maxRecDepth 20000 in
theorem gX12_mark_X12_finds : GoodIn wsX12_mark (wsV RX12 56 RX12 yX12_finds wsX12_finds) := goodIn_app (goodIn_sub (fw_c (fw_t (fw_l (fw_l (fw_t (fw_t (fw_t (fw_t (fw_t (fw_t (fw_t (fw_t (fw_t (fw_t (fw_t (fw_t (fw_t (fw_t fw_h))))))))))))))))) (fw_c (fw_t (fw_l (fw_l (fw_t (fw_t (fw_t (fw_t (fw_t (fw_t (fw_t (fw_t (fw_t (fw_t (fw_t (fw_t (fw_t (fw_t (fw_t fw_h)))))))))))))))))) (fw_c (fw_t (fw_l (fw_l (fw_t (fw_t (fw_t (fw_t (fw_t (fw_t (fw_t (fw_t (fw_t (fw_t (fw_t (fw_t (fw_t (fw_t (fw_t (fw_t fw_h))))))))))))))))))) (fw_c (fw_t (fw_l (fw_l (fw_t (fw_t (fw_t (fw_t (fw_t (fw_t fw_h))))))))) fw_n)))) (by decide +kernel)) ggX12_mark_X12_finds
set_option maxRecDepth 20000 in
theorem ggX12_mark_X12_isRing : GoodIn wsX12_mark wsX12_isRing := goodIn_sub (fw_c (fw_t (fw_l (fw_l (fw_t (fw_t (fw_t (fw_t (fw_t (fw_t (fw_t (fw_t (fw_t (fw_t (fw_t (fw_t (fw_t (fw_t (fw_t (fw_t (fw_t (fw_t (fw_t (fw_t (fw_t fw_h)))))))))))))))))))))))) (fw_n)) (by decide +kernel)
set_option maxRecDepth 20000 in
theorem gX12_mark_X12_isRing : GoodIn wsX12_mark (va_wsS RX12 121 yX12_isRing wsX12_isRing) := goodIn_app (goodIn_sub (fw_c (fw_t (fw_l (fw_l (fw_t (fw_t (fw_t (fw_t (fw_t (fw_t (fw_t (fw_t (fw_t (fw_t (fw_t (fw_t (fw_t (fw_t (fw_t (fw_t (fw_t (fw_t (fw_t fw_h)))))))))))))))))))))) (fw_c (fw_t (fw_l (fw_l (fw_t (fw_t (fw_t (fw_t (fw_t (fw_t (fw_t (fw_t (fw_t (fw_t (fw_t (fw_t (fw_t (fw_t (fw_t (fw_t (fw_t (fw_t (fw_t (fw_t fw_h))))))))))))))))))))))) (fw_c (fw_t (fw_l (fw_l (fw_t (fw_t (fw_t (fw_t (fw_t (fw_t fw_h))))))))) fw_n))) (by decide +kernel)) ggX12_mark_X12_isRing
set_option maxRecDepth 20000 in
theorem ggX12_mark_X12_keep : GoodIn wsX12_mark wsX12_keep := goodIn_sub (fw_c (fw_t (fw_l (fw_r (fw_t fw_h)))) (fw_a (fw_c (fw_t (fw_l (fw_r (fw_t (fw_t fw_h))))) (fw_c (fw_t (fw_l (fw_r (fw_t (fw_t (fw_t fw_h)))))) (fw_c (fw_t (fw_l (fw_l (fw_t fw_h)))) (fw_c (fw_t (fw_l (fw_r (fw_t (fw_t (fw_t (fw_t fw_h))))))) fw_n)))) (fun _ h => fw_t (fw_r h)))) (by decide +kernel)
set_option maxRecDepth 20000 in
theorem gX12_mark_X12_keep : GoodIn wsX12_mark (wsV RX12 66 RX12 yX12_keep wsX12_keep) := goodIn_app (goodIn_sub (fw_c (fw_t (fw_l (fw_l (fw_t (fw_t (fw_t (fw_t (fw_t (fw_t (fw_t (fw_t (fw_t (fw_t (fw_t (fw_t (fw_t (fw_t (fw_t (fw_t (fw_t (fw_t (fw_t (fw_t (fw_t (fw_t fw_h))))))))))))))))))))))))) (fw_c (fw_t (fw_l (fw_l (fw_t (fw_t (fw_t (fw_t (fw_t (fw_t (fw_t (fw_t (fw_t (fw_t (fw_t (fw_t (fw_t (fw_t (fw_t (fw_t (fw_t (fw_t (fw_t (fw_t (fw_t (fw_t (fw_t fw_h)))))))))))))))))))))))))) (fw_c (fw_t (fw_l (fw_r fw_h))) (fw_c (fw_t (fw_l (fw_l (fw_t (fw_t (fw_t (fw_t (fw_t (fw_t fw_h))))))))) fw_n)))) (by decide +kernel)) ggX12_mark_X12_keep
theorem dX12_mark_0 : decode cX12_mark 0 = .ok (.aload_n 0, 1) := by decide +kernel
theorem dX12_mark_1 : decode cX12_mark 1 = .ok (.iload_n 1, 1) := by decide +kernel
theorem dX12_mark_2 : decode cX12_mark 2 = .ok (.invokevirtual 69, 3) := by decide +kernel
theorem dX12_mark_5 : decode cX12_mark 5 = .ok (.ifCond .eq 27, 3) := by decide +kernel
theorem dX12_mark_8 : decode cX12_mark 8 = .ok (.iload_n 2, 1) := by decide +kernel
theorem dX12_mark_9 : decode cX12_mark 9 = .ok (.iconst 0, 1) := by decide +kernel
theorem dX12_mark_10 : decode cX12_mark 10 = .ok (.iconst 3, 1) := by decide +kernel
theorem dX12_mark_11 : decode cX12_mark 11 = .ok (.invokestatic 60, 3) := by decide +kernel
theorem dX12_mark_14 : decode cX12_mark 14 = .ok (.ifCond .eq 18, 3) := by decide +kernel
theorem dX12_mark_17 : decode cX12_mark 17 = .ok (.iload_n 3, 1) := by decide +kernel
theorem dX12_mark_18 : decode cX12_mark 18 = .ok (.invokestatic 73, 3) := by decide +kernel
theorem dX12_mark_21 : decode cX12_mark 21 = .ok (.ifCond .eq 11, 3) := by decide +kernel
theorem dX12_mark_24 : decode cX12_mark 24 = .ok (.iload 4, 2) := by decide +kernel
theorem dX12_mark_26 : decode cX12_mark 26 = .ok (.invokestatic 73, 3) := by decide +kernel
theorem dX12_mark_29 : decode cX12_mark 29 = .ok (.ifCond .ne 11, 3) := by decide +kernel
theorem dX12_mark_32 : decode cX12_mark 32 = .ok (.aload_n 0, 1) := by decide +kernel
theorem dX12_mark_33 : decode cX12_mark 33 = .ok (.ldc2_w 76, 3) := by decide +kernel
theorem dX12_mark_36 : decode cX12_mark 36 = .ok (.invokevirtual 56, 3) := by decide +kernel
theorem dX12_mark_39 : decode cX12_mark 39 = .ok (.lreturn, 1) := by decide +kernel
theorem dX12_mark_40 : decode cX12_mark 40 = .ok (.iload_n 2, 1) := by decide +kernel
theorem dX12_mark_41 : decode cX12_mark 41 = .ok (.invokestatic 121, 3) := by decide +kernel
theorem dX12_mark_44 : decode cX12_mark 44 = .ok (.ifCond .eq 28, 3) := by decide +kernel
theorem dX12_mark_47 : decode cX12_mark 47 = .ok (.iload 5, 2) := by decide +kernel
theorem dX12_mark_49 : decode cX12_mark 49 = .ok (.iconst 1, 1) := by decide +kernel
theorem dX12_mark_50 : decode cX12_mark 50 = .ok (.bipush 99, 2) := by decide +kernel
theorem dX12_mark_52 : decode cX12_mark 52 = .ok (.invokestatic 60, 3) := by decide +kernel
theorem dX12_mark_55 : decode cX12_mark 55 = .ok (.ifCond .eq 27, 3) := by decide +kernel
theorem dX12_mark_58 : decode cX12_mark 58 = .ok (.iload 6, 2) := by decide +kernel
theorem dX12_mark_60 : decode cX12_mark 60 = .ok (.iconst 0, 1) := by decide +kernel
theorem dX12_mark_61 : decode cX12_mark 61 = .ok (.bipush 15, 2) := by decide +kernel
theorem dX12_mark_63 : decode cX12_mark 63 = .ok (.invokestatic 60, 3) := by decide +kernel
theorem dX12_mark_66 : decode cX12_mark 66 = .ok (.ifCond .ne 24, 3) := by decide +kernel
theorem dX12_mark_69 : decode cX12_mark 69 = .ok (.goto 13, 3) := by decide +kernel
theorem dX12_mark_72 : decode cX12_mark 72 = .ok (.iload 5, 2) := by decide +kernel
theorem dX12_mark_74 : decode cX12_mark 74 = .ok (.ifCond .ne 8, 3) := by decide +kernel
theorem dX12_mark_77 : decode cX12_mark 77 = .ok (.iload 6, 2) := by decide +kernel
theorem dX12_mark_79 : decode cX12_mark 79 = .ok (.ifCond .eq 11, 3) := by decide +kernel
theorem dX12_mark_82 : decode cX12_mark 82 = .ok (.aload_n 0, 1) := by decide +kernel
theorem dX12_mark_83 : decode cX12_mark 83 = .ok (.ldc2_w 76, 3) := by decide +kernel
theorem dX12_mark_86 : decode cX12_mark 86 = .ok (.invokevirtual 56, 3) := by decide +kernel
theorem dX12_mark_89 : decode cX12_mark 89 = .ok (.lreturn, 1) := by decide +kernel
theorem dX12_mark_90 : decode cX12_mark 90 = .ok (.aload_n 0, 1) := by decide +kernel
theorem dX12_mark_91 : decode cX12_mark 91 = .ok (.getfield 9, 3) := by decide +kernel
theorem dX12_mark_94 : decode cX12_mark 94 = .ok (.iconst 1, 1) := by decide +kernel
theorem dX12_mark_95 : decode cX12_mark 95 = .ok (.iaload, 1) := by decide +kernel
theorem dX12_mark_96 : decode cX12_mark 96 = .ok (.istore 7, 2) := by decide +kernel
theorem dX12_mark_98 : decode cX12_mark 98 = .ok (.iload 7, 2) := by decide +kernel
theorem dX12_mark_100 : decode cX12_mark 100 = .ok (.bipush 20, 2) := by decide +kernel
theorem dX12_mark_102 : decode cX12_mark 102 = .ok (.if_icmp .ne 11, 3) := by decide +kernel
theorem dX12_mark_105 : decode cX12_mark 105 = .ok (.aload_n 0, 1) := by decide +kernel
theorem dX12_mark_106 : decode cX12_mark 106 = .ok (.ldc2_w 64, 3) := by decide +kernel
theorem dX12_mark_109 : decode cX12_mark 109 = .ok (.invokevirtual 56, 3) := by decide +kernel
theorem dX12_mark_112 : decode cX12_mark 112 = .ok (.lreturn, 1) := by decide +kernel
theorem dX12_mark_113 : decode cX12_mark 113 = .ok (.aload_n 0, 1) := by decide +kernel
theorem dX12_mark_114 : decode cX12_mark 114 = .ok (.invokevirtual 66, 3) := by decide +kernel
theorem dX12_mark_117 : decode cX12_mark 117 = .ok (.aload_n 0, 1) := by decide +kernel
theorem dX12_mark_118 : decode cX12_mark 118 = .ok (.getfield 9, 3) := by decide +kernel
theorem dX12_mark_121 : decode cX12_mark 121 = .ok (.sipush 202, 3) := by decide +kernel
theorem dX12_mark_124 : decode cX12_mark 124 = .ok (.bipush 6, 2) := by decide +kernel
theorem dX12_mark_126 : decode cX12_mark 126 = .ok (.iload 7, 2) := by decide +kernel
theorem dX12_mark_128 : decode cX12_mark 128 = .ok (.imul, 1) := by decide +kernel
theorem dX12_mark_129 : decode cX12_mark 129 = .ok (.iadd, 1) := by decide +kernel
theorem dX12_mark_130 : decode cX12_mark 130 = .ok (.iload_n 1, 1) := by decide +kernel
theorem dX12_mark_131 : decode cX12_mark 131 = .ok (.iastore, 1) := by decide +kernel
theorem dX12_mark_132 : decode cX12_mark 132 = .ok (.aload_n 0, 1) := by decide +kernel
theorem dX12_mark_133 : decode cX12_mark 133 = .ok (.getfield 9, 3) := by decide +kernel
theorem dX12_mark_136 : decode cX12_mark 136 = .ok (.sipush 202, 3) := by decide +kernel
theorem dX12_mark_139 : decode cX12_mark 139 = .ok (.bipush 6, 2) := by decide +kernel
theorem dX12_mark_141 : decode cX12_mark 141 = .ok (.iload 7, 2) := by decide +kernel
theorem dX12_mark_143 : decode cX12_mark 143 = .ok (.imul, 1) := by decide +kernel
theorem dX12_mark_144 : decode cX12_mark 144 = .ok (.iadd, 1) := by decide +kernel
theorem dX12_mark_145 : decode cX12_mark 145 = .ok (.iconst 1, 1) := by decide +kernel
theorem dX12_mark_146 : decode cX12_mark 146 = .ok (.iadd, 1) := by decide +kernel
theorem dX12_mark_147 : decode cX12_mark 147 = .ok (.iload_n 2, 1) := by decide +kernel
theorem dX12_mark_148 : decode cX12_mark 148 = .ok (.iastore, 1) := by decide +kernel
theorem dX12_mark_149 : decode cX12_mark 149 = .ok (.aload_n 0, 1) := by decide +kernel
theorem dX12_mark_150 : decode cX12_mark 150 = .ok (.getfield 9, 3) := by decide +kernel
theorem dX12_mark_153 : decode cX12_mark 153 = .ok (.sipush 202, 3) := by decide +kernel
theorem dX12_mark_156 : decode cX12_mark 156 = .ok (.bipush 6, 2) := by decide +kernel
theorem dX12_mark_158 : decode cX12_mark 158 = .ok (.iload 7, 2) := by decide +kernel
theorem dX12_mark_160 : decode cX12_mark 160 = .ok (.imul, 1) := by decide +kernel
theorem dX12_mark_161 : decode cX12_mark 161 = .ok (.iadd, 1) := by decide +kernel
theorem dX12_mark_162 : decode cX12_mark 162 = .ok (.iconst 2, 1) := by decide +kernel
theorem dX12_mark_163 : decode cX12_mark 163 = .ok (.iadd, 1) := by decide +kernel
theorem dX12_mark_164 : decode cX12_mark 164 = .ok (.iload_n 3, 1) := by decide +kernel
theorem dX12_mark_165 : decode cX12_mark 165 = .ok (.iastore, 1) := by decide +kernel
theorem dX12_mark_166 : decode cX12_mark 166 = .ok (.aload_n 0, 1) := by decide +kernel
theorem dX12_mark_167 : decode cX12_mark 167 = .ok (.getfield 9, 3) := by decide +kernel
theorem dX12_mark_170 : decode cX12_mark 170 = .ok (.sipush 202, 3) := by decide +kernel
theorem dX12_mark_173 : decode cX12_mark 173 = .ok (.bipush 6, 2) := by decide +kernel
theorem dX12_mark_175 : decode cX12_mark 175 = .ok (.iload 7, 2) := by decide +kernel
theorem dX12_mark_177 : decode cX12_mark 177 = .ok (.imul, 1) := by decide +kernel
theorem dX12_mark_178 : decode cX12_mark 178 = .ok (.iadd, 1) := by decide +kernel
theorem dX12_mark_179 : decode cX12_mark 179 = .ok (.iconst 3, 1) := by decide +kernel
theorem dX12_mark_180 : decode cX12_mark 180 = .ok (.iadd, 1) := by decide +kernel
theorem dX12_mark_181 : decode cX12_mark 181 = .ok (.iload 4, 2) := by decide +kernel
theorem dX12_mark_183 : decode cX12_mark 183 = .ok (.iastore, 1) := by decide +kernel
theorem dX12_mark_184 : decode cX12_mark 184 = .ok (.aload_n 0, 1) := by decide +kernel
theorem dX12_mark_185 : decode cX12_mark 185 = .ok (.getfield 9, 3) := by decide +kernel
theorem dX12_mark_188 : decode cX12_mark 188 = .ok (.sipush 202, 3) := by decide +kernel
theorem dX12_mark_191 : decode cX12_mark 191 = .ok (.bipush 6, 2) := by decide +kernel
theorem dX12_mark_193 : decode cX12_mark 193 = .ok (.iload 7, 2) := by decide +kernel
theorem dX12_mark_195 : decode cX12_mark 195 = .ok (.imul, 1) := by decide +kernel
theorem dX12_mark_196 : decode cX12_mark 196 = .ok (.iadd, 1) := by decide +kernel
theorem dX12_mark_197 : decode cX12_mark 197 = .ok (.iconst 4, 1) := by decide +kernel
theorem dX12_mark_198 : decode cX12_mark 198 = .ok (.iadd, 1) := by decide +kernel
theorem dX12_mark_199 : decode cX12_mark 199 = .ok (.iload 5, 2) := by decide +kernel
theorem dX12_mark_201 : decode cX12_mark 201 = .ok (.iastore, 1) := by decide +kernel
theorem dX12_mark_202 : decode cX12_mark 202 = .ok (.aload_n 0, 1) := by decide +kernel
theorem dX12_mark_203 : decode cX12_mark 203 = .ok (.getfield 9, 3) := by decide +kernel
theorem dX12_mark_206 : decode cX12_mark 206 = .ok (.sipush 202, 3) := by decide +kernel
theorem dX12_mark_209 : decode cX12_mark 209 = .ok (.bipush 6, 2) := by decide +kernel
theorem dX12_mark_211 : decode cX12_mark 211 = .ok (.iload 7, 2) := by decide +kernel
theorem dX12_mark_213 : decode cX12_mark 213 = .ok (.imul, 1) := by decide +kernel
theorem dX12_mark_214 : decode cX12_mark 214 = .ok (.iadd, 1) := by decide +kernel
theorem dX12_mark_215 : decode cX12_mark 215 = .ok (.iconst 5, 1) := by decide +kernel
theorem dX12_mark_216 : decode cX12_mark 216 = .ok (.iadd, 1) := by decide +kernel
theorem dX12_mark_217 : decode cX12_mark 217 = .ok (.iload 6, 2) := by decide +kernel
theorem dX12_mark_219 : decode cX12_mark 219 = .ok (.iastore, 1) := by decide +kernel
theorem dX12_mark_220 : decode cX12_mark 220 = .ok (.aload_n 0, 1) := by decide +kernel
theorem dX12_mark_221 : decode cX12_mark 221 = .ok (.getfield 9, 3) := by decide +kernel
theorem dX12_mark_224 : decode cX12_mark 224 = .ok (.iconst 1, 1) := by decide +kernel
theorem dX12_mark_225 : decode cX12_mark 225 = .ok (.dup2, 1) := by decide +kernel
theorem dX12_mark_226 : decode cX12_mark 226 = .ok (.iaload, 1) := by decide +kernel
theorem dX12_mark_227 : decode cX12_mark 227 = .ok (.iconst 1, 1) := by decide +kernel
theorem dX12_mark_228 : decode cX12_mark 228 = .ok (.iadd, 1) := by decide +kernel
theorem dX12_mark_229 : decode cX12_mark 229 = .ok (.iastore, 1) := by decide +kernel
theorem dX12_mark_230 : decode cX12_mark 230 = .ok (.iload 7, 2) := by decide +kernel
theorem dX12_mark_232 : decode cX12_mark 232 = .ok (.i2l, 1) := by decide +kernel
theorem dX12_mark_233 : decode cX12_mark 233 = .ok (.lreturn, 1) := by decide +kernel
set_option maxRecDepth 20000 in
theorem ggX12_as_X12_isMark : GoodIn wsX12_as wsX12_isMark := goodIn_sub (fw_c (fw_t (fw_l (fw_t (fw_t (fw_t (fw_t (fw_t (fw_t fw_h)))))))) (fw_a (fw_c (fw_t (fw_l (fw_t (fw_t (fw_t (fw_t (fw_t (fw_t (fw_t fw_h))))))))) (fw_c (fw_t (fw_l (fw_t (fw_t (fw_t (fw_t (fw_t (fw_t (fw_t (fw_t fw_h)))))))))) (fw_c (fw_t (fw_l (fw_t (fw_t (fw_t (fw_t (fw_t (fw_t (fw_t (fw_t (fw_t fw_h))))))))))) (fw_c (fw_t (fw_l (fw_t (fw_t (fw_t (fw_t (fw_t fw_h))))))) (fw_c (fw_t (fw_l (fw_t (fw_t (fw_t (fw_t (fw_t (fw_t (fw_t (fw_t (fw_t (fw_t fw_h)))))))))))) fw_n))))) (fun _ h => fw_t (fw_r h)))) (by decide +kernel)
set_option maxRecDepth 20000 in
theorem gX12_as_X12_isMark : GoodIn wsX12_as (wsV RX12 124 RX12 yX12_isMark wsX12_isMark) := goodIn_app (goodIn_sub (fw_c (fw_t (fw_l (fw_t (fw_t fw_h)))) (fw_c (fw_t (fw_l (fw_t (fw_t (fw_t fw_h))))) (fw_c (fw_t (fw_l (fw_t (fw_t (fw_t (fw_t fw_h)))))) (fw_c (fw_t (fw_l (fw_t (fw_t (fw_t (fw_t (fw_t fw_h))))))) fw_n)))) (by decide +kernel)) ggX12_as_X12_isMark
set_option maxRecDepth 20000 in
theorem ggX12_as_X12_in : GoodIn wsX12_as wsX12_in := goodIn_sub (fw_c (fw_t (fw_l (fw_t (fw_t (fw_t (fw_t (fw_t (fw_t (fw_t (fw_t (fw_t (fw_t fw_h)))))))))))) (fw_n)) (by decide +kernel)
set_option maxRecDepth 20000 in
theorem gX12_as_X12_in : GoodIn wsX12_as (va_wsS RX12 60 yX12_in wsX12_in) := goodIn_app (goodIn_sub (fw_c (fw_t (fw_l (fw_t (fw_t (fw_t (fw_t (fw_t (fw_t (fw_t (fw_t fw_h)))))))))) (fw_c (fw_t (fw_l (fw_t (fw_t (fw_t (fw_t (fw_t (fw_t (fw_t (fw_t (fw_t fw_h))))))))))) (fw_c (fw_t (fw_l (fw_t (fw_t (fw_t (fw_t (fw_t fw_h))))))) fw_n))) (by decide +kernel)) ggX12_as_X12_in
set_option maxRecDepth 20000 in
theorem ggX12_as_X12_finds : GoodIn wsX12_as wsX12_finds := goodIn_sub (fw_c (fw_t (fw_l (fw_t (fw_t (fw_t (fw_t (fw_t (fw_t (fw_t (fw_t (fw_t (fw_t (fw_t (fw_t (fw_t (fw_t fw_h)))))))))))))))) (fw_a (fw_c (fw_t (fw_l (fw_t (fw_t (fw_t (fw_t (fw_t (fw_t (fw_t (fw_t (fw_t (fw_t (fw_t (fw_t (fw_t (fw_t (fw_t fw_h))))))))))))))))) fw_n) (fun _ h => fw_t (fw_r h)))) (by decide +kernel)
set_option maxRecDepth 20000 in
theorem gX12_as_X12_finds : GoodIn wsX12_as (wsV RX12 56 RX12 yX12_finds wsX12_finds) := goodIn_app (goodIn_sub (fw_c (fw_t (fw_l (fw_t (fw_t (fw_t (fw_t (fw_t (fw_t (fw_t (fw_t (fw_t (fw_t (fw_t fw_h))))))))))))) (fw_c (fw_t (fw_l (fw_t (fw_t (fw_t (fw_t (fw_t (fw_t (fw_t (fw_t (fw_t (fw_t (fw_t (fw_t fw_h)))))))))))))) (fw_c (fw_t (fw_l (fw_t (fw_t (fw_t (fw_t (fw_t (fw_t (fw_t (fw_t (fw_t (fw_t (fw_t (fw_t (fw_t fw_h))))))))))))))) (fw_c (fw_t (fw_l (fw_t (fw_t (fw_t (fw_t (fw_t fw_h))))))) fw_n)))) (by decide +kernel)) ggX12_as_X12_finds
set_option maxRecDepth 20000 in
theorem ggX12_as_X12_ofMark : GoodIn wsX12_as wsX12_ofMark := goodIn_sub (fw_c (fw_t (fw_l (fw_t (fw_t (fw_t (fw_t (fw_t (fw_t (fw_t (fw_t (fw_t (fw_t (fw_t (fw_t (fw_t (fw_t (fw_t (fw_t (fw_t (fw_t (fw_t fw_h))))))))))))))))))))) (fw_a (fw_c (fw_t (fw_l (fw_t (fw_t (fw_t (fw_t (fw_t (fw_t (fw_t fw_h))))))))) fw_n) (fun _ h => fw_t (fw_r h)))) (by decide +kernel)
set_option maxRecDepth 20000 in
theorem gX12_as_X12_ofMark : GoodIn wsX12_as (wsV RX12 127 RX12 yX12_ofMark wsX12_ofMark) := goodIn_app (goodIn_sub (fw_c (fw_t (fw_l (fw_t (fw_t (fw_t (fw_t (fw_t (fw_t (fw_t (fw_t (fw_t (fw_t (fw_t (fw_t (fw_t (fw_t (fw_t (fw_t fw_h)))))))))))))))))) (fw_c (fw_t (fw_l (fw_t (fw_t (fw_t (fw_t (fw_t (fw_t (fw_t (fw_t (fw_t (fw_t (fw_t (fw_t (fw_t (fw_t (fw_t (fw_t (fw_t fw_h))))))))))))))))))) (fw_c (fw_t (fw_l (fw_t (fw_t (fw_t (fw_t (fw_t (fw_t (fw_t (fw_t (fw_t (fw_t (fw_t (fw_t (fw_t (fw_t (fw_t (fw_t (fw_t (fw_t fw_h)))))))))))))))))))) (fw_c (fw_t (fw_l (fw_t (fw_t (fw_t (fw_t (fw_t fw_h))))))) fw_n)))) (by decide +kernel)) ggX12_as_X12_ofMark
set_option maxRecDepth 20000 in
theorem ggX12_as_X12_isRing : GoodIn wsX12_as wsX12_isRing := goodIn_sub (fw_c (fw_t (fw_l (fw_t (fw_t (fw_t (fw_t (fw_t (fw_t (fw_t (fw_t (fw_t (fw_t (fw_t (fw_t (fw_t (fw_t (fw_t (fw_t (fw_t (fw_t (fw_t (fw_t (fw_t (fw_t fw_h)))))))))))))))))))))))) (fw_n)) (by decide +kernel)
set_option maxRecDepth 20000 in
theorem gX12_as_X12_isRing : GoodIn wsX12_as (va_wsS RX12 121 yX12_isRing wsX12_isRing) := goodIn_app (goodIn_sub (fw_c (fw_t (fw_l (fw_t (fw_t (fw_t (fw_t (fw_t (fw_t (fw_t (fw_t (fw_t (fw_t (fw_t (fw_t (fw_t (fw_t (fw_t (fw_t (fw_t (fw_t (fw_t (fw_t fw_h)))))))))))))))))))))) (fw_c (fw_t (fw_l (fw_t (fw_t (fw_t (fw_t (fw_t (fw_t (fw_t (fw_t (fw_t (fw_t (fw_t (fw_t (fw_t (fw_t (fw_t (fw_t (fw_t (fw_t (fw_t (fw_t (fw_t fw_h))))))))))))))))))))))) (fw_c (fw_t (fw_l (fw_t (fw_t (fw_t (fw_t (fw_t fw_h))))))) fw_n))) (by decide +kernel)) ggX12_as_X12_isRing
theorem dX12_as_0 : decode cX12_as 0 = .ok (.aload_n 0, 1) := by decide +kernel
theorem dX12_as_1 : decode cX12_as 1 = .ok (.iload_n 1, 1) := by decide +kernel
theorem dX12_as_2 : decode cX12_as 2 = .ok (.invokevirtual 124, 3) := by decide +kernel
theorem dX12_as_5 : decode cX12_as 5 = .ok (.ifCond .eq 12, 3) := by decide +kernel
theorem dX12_as_8 : decode cX12_as 8 = .ok (.iload_n 2, 1) := by decide +kernel
theorem dX12_as_9 : decode cX12_as 9 = .ok (.iconst 0, 1) := by decide +kernel
theorem dX12_as_10 : decode cX12_as 10 = .ok (.iconst 3, 1) := by decide +kernel
theorem dX12_as_11 : decode cX12_as 11 = .ok (.invokestatic 60, 3) := by decide +kernel
theorem dX12_as_14 : decode cX12_as 14 = .ok (.ifCond .ne 11, 3) := by decide +kernel
theorem dX12_as_17 : decode cX12_as 17 = .ok (.aload_n 0, 1) := by decide +kernel
theorem dX12_as_18 : decode cX12_as 18 = .ok (.ldc2_w 76, 3) := by decide +kernel
theorem dX12_as_21 : decode cX12_as 21 = .ok (.invokevirtual 56, 3) := by decide +kernel
theorem dX12_as_24 : decode cX12_as 24 = .ok (.lreturn, 1) := by decide +kernel
theorem dX12_as_25 : decode cX12_as 25 = .ok (.aload_n 0, 1) := by decide +kernel
theorem dX12_as_26 : decode cX12_as 26 = .ok (.iload_n 1, 1) := by decide +kernel
theorem dX12_as_27 : decode cX12_as 27 = .ok (.iconst 1, 1) := by decide +kernel
theorem dX12_as_28 : decode cX12_as 28 = .ok (.invokevirtual 127, 3) := by decide +kernel
theorem dX12_as_31 : decode cX12_as 31 = .ok (.istore_n 3, 1) := by decide +kernel
theorem dX12_as_32 : decode cX12_as 32 = .ok (.iload_n 2, 1) := by decide +kernel
theorem dX12_as_33 : decode cX12_as 33 = .ok (.ifCond .eq 20, 3) := by decide +kernel
theorem dX12_as_36 : decode cX12_as 36 = .ok (.iload_n 3, 1) := by decide +kernel
theorem dX12_as_37 : decode cX12_as 37 = .ok (.iload_n 2, 1) := by decide +kernel
theorem dX12_as_38 : decode cX12_as 38 = .ok (.if_icmp .eq 15, 3) := by decide +kernel
theorem dX12_as_41 : decode cX12_as 41 = .ok (.iload_n 2, 1) := by decide +kernel
theorem dX12_as_42 : decode cX12_as 42 = .ok (.iconst 1, 1) := by decide +kernel
theorem dX12_as_43 : decode cX12_as 43 = .ok (.if_icmp .ne 15, 3) := by decide +kernel
theorem dX12_as_46 : decode cX12_as 46 = .ok (.iload_n 3, 1) := by decide +kernel
theorem dX12_as_47 : decode cX12_as 47 = .ok (.invokestatic 121, 3) := by decide +kernel
theorem dX12_as_50 : decode cX12_as 50 = .ok (.ifCond .eq 8, 3) := by decide +kernel
theorem dX12_as_53 : decode cX12_as 53 = .ok (.iload_n 1, 1) := by decide +kernel
theorem dX12_as_54 : decode cX12_as 54 = .ok (.i2l, 1) := by decide +kernel
theorem dX12_as_55 : decode cX12_as 55 = .ok (.goto 10, 3) := by decide +kernel
theorem dX12_as_58 : decode cX12_as 58 = .ok (.aload_n 0, 1) := by decide +kernel
theorem dX12_as_59 : decode cX12_as 59 = .ok (.ldc2_w 131, 3) := by decide +kernel
theorem dX12_as_62 : decode cX12_as 62 = .ok (.invokevirtual 56, 3) := by decide +kernel
theorem dX12_as_65 : decode cX12_as 65 = .ok (.lreturn, 1) := by decide +kernel
theorem dX12_cut_0 : decode cX12_cut 0 = .ok (.lload_n 0, 1) := by decide +kernel
theorem dX12_cut_1 : decode cX12_cut 1 = .ok (.lload_n 2, 1) := by decide +kernel
theorem dX12_cut_2 : decode cX12_cut 2 = .ok (.ldiv, 1) := by decide +kernel
theorem dX12_cut_3 : decode cX12_cut 3 = .ok (.lstore 4, 2) := by decide +kernel
theorem dX12_cut_5 : decode cX12_cut 5 = .ok (.lload_n 0, 1) := by decide +kernel
theorem dX12_cut_6 : decode cX12_cut 6 = .ok (.lload_n 2, 1) := by decide +kernel
theorem dX12_cut_7 : decode cX12_cut 7 = .ok (.lrem, 1) := by decide +kernel
theorem dX12_cut_8 : decode cX12_cut 8 = .ok (.lconst 0, 1) := by decide +kernel
theorem dX12_cut_9 : decode cX12_cut 9 = .ok (.lcmp, 1) := by decide +kernel
theorem dX12_cut_10 : decode cX12_cut 10 = .ok (.ifCond .eq 16, 3) := by decide +kernel
theorem dX12_cut_13 : decode cX12_cut 13 = .ok (.lload_n 0, 1) := by decide +kernel
theorem dX12_cut_14 : decode cX12_cut 14 = .ok (.lconst 0, 1) := by decide +kernel
theorem dX12_cut_15 : decode cX12_cut 15 = .ok (.lcmp, 1) := by decide +kernel
theorem dX12_cut_16 : decode cX12_cut 16 = .ok (.ifCond .ge 10, 3) := by decide +kernel
theorem dX12_cut_19 : decode cX12_cut 19 = .ok (.lload 4, 2) := by decide +kernel
theorem dX12_cut_21 : decode cX12_cut 21 = .ok (.lconst 1, 1) := by decide +kernel
theorem dX12_cut_22 : decode cX12_cut 22 = .ok (.lsub, 1) := by decide +kernel
theorem dX12_cut_23 : decode cX12_cut 23 = .ok (.goto 5, 3) := by decide +kernel
theorem dX12_cut_26 : decode cX12_cut 26 = .ok (.lload 4, 2) := by decide +kernel
theorem dX12_cut_28 : decode cX12_cut 28 = .ok (.lreturn, 1) := by decide +kernel
set_option maxRecDepth 20000 in
theorem ggX12_at_X12_isMark : GoodIn wsX12_at wsX12_isMark := goodIn_sub (fw_c (fw_t (fw_l (fw_l (fw_t (fw_t (fw_t (fw_t (fw_t (fw_t (fw_t (fw_t fw_h))))))))))) (fw_a (fw_c (fw_t (fw_l (fw_l (fw_t (fw_t (fw_t (fw_t (fw_t (fw_t (fw_t (fw_t (fw_t fw_h)))))))))))) (fw_c (fw_t (fw_l (fw_l (fw_t (fw_t (fw_t (fw_t (fw_t (fw_t (fw_t (fw_t (fw_t (fw_t fw_h))))))))))))) (fw_c (fw_t (fw_l (fw_l (fw_t (fw_t (fw_t (fw_t (fw_t (fw_t (fw_t (fw_t (fw_t (fw_t (fw_t fw_h)))))))))))))) (fw_c (fw_t (fw_l (fw_l (fw_t (fw_t (fw_t (fw_t (fw_t (fw_t (fw_t fw_h)))))))))) (fw_c (fw_t (fw_l (fw_l (fw_t (fw_t (fw_t (fw_t (fw_t (fw_t (fw_t (fw_t (fw_t (fw_t (fw_t (fw_t fw_h))))))))))))))) fw_n))))) (fun _ h => fw_t (fw_r h)))) (by decide +kernel)
set_option maxRecDepth 20000 in
theorem gX12_at_X12_isMark : GoodIn wsX12_at (wsV RX12 124 RX12 yX12_isMark wsX12_isMark) := goodIn_app (goodIn_sub (fw_c (fw_t (fw_l (fw_l (fw_t (fw_t (fw_t (fw_t fw_h))))))) (fw_c (fw_t (fw_l (fw_l (fw_t (fw_t (fw_t (fw_t (fw_t fw_h)))))))) (fw_c (fw_t (fw_l (fw_l (fw_t (fw_t (fw_t (fw_t (fw_t (fw_t fw_h))))))))) (fw_c (fw_t (fw_l (fw_l (fw_t (fw_t (fw_t (fw_t (fw_t (fw_t (fw_t fw_h)))))))))) fw_n)))) (by decide +kernel)) ggX12_at_X12_isMark
set_option maxRecDepth 20000 in
theorem ggX12_at_X12_finds : GoodIn wsX12_at wsX12_finds := goodIn_sub (fw_c (fw_t (fw_l (fw_l (fw_t (fw_t (fw_t (fw_t (fw_t (fw_t (fw_t (fw_t (fw_t (fw_t (fw_t (fw_t (fw_t (fw_t (fw_t (fw_t fw_h))))))))))))))))))) (fw_a (fw_c (fw_t (fw_l (fw_l (fw_t (fw_t (fw_t (fw_t (fw_t (fw_t (fw_t (fw_t (fw_t (fw_t (fw_t (fw_t (fw_t (fw_t (fw_t (fw_t (fw_t fw_h)))))))))))))))))))) fw_n) (fun _ h => fw_t (fw_r h)))) (by decide +kernel)
set_option maxRecDepth 20000 in
theorem gX12_at_X12_finds : GoodIn wsX12_at (wsV RX12 56 RX12 yX12_finds wsX12_finds) := goodIn_app (goodIn_sub (fw_c (fw_t (fw_l (fw_l (fw_t (fw_t (fw_t (fw_t (fw_t (fw_t (fw_t (fw_t (fw_t (fw_t (fw_t (fw_t (fw_t fw_h)))))))))))))))) (fw_c (fw_t (fw_l (fw_l (fw_t (fw_t (fw_t (fw_t (fw_t (fw_t (fw_t (fw_t (fw_t (fw_t (fw_t (fw_t (fw_t (fw_t fw_h))))))))))))))))) (fw_c (fw_t (fw_l (fw_l (fw_t (fw_t (fw_t (fw_t (fw_t (fw_t (fw_t (fw_t (fw_t (fw_t (fw_t (fw_t (fw_t (fw_t (fw_t fw_h)))))))))))))))))) (fw_c (fw_t (fw_l (fw_l (fw_t (fw_t (fw_t (fw_t (fw_t (fw_t (fw_t fw_h)))))))))) fw_n)))) (by decide +kernel)) ggX12_at_X12_finds
set_option maxRecDepth 20000 in
theorem ggX12_at_X12_ofMark : GoodIn wsX12_at wsX12_ofMark := goodIn_sub (fw_c (fw_t (fw_l (fw_l (fw_t (fw_t (fw_t (fw_t (fw_t (fw_t (fw_t (fw_t (fw_t (fw_t (fw_t (fw_t (fw_t (fw_t (fw_t (fw_t (fw_t (fw_t (fw_t (fw_t (fw_t fw_h)))))))))))))))))))))))) (fw_a (fw_c (fw_t (fw_l (fw_l (fw_t (fw_t (fw_t (fw_t (fw_t (fw_t (fw_t (fw_t (fw_t fw_h)))))))))))) fw_n) (fun _ h => fw_t (fw_r h)))) (by decide +kernel)
set_option maxRecDepth 20000 in
theorem gX12_at_X12_ofMark : GoodIn wsX12_at (wsV RX12 127 RX12 yX12_ofMark wsX12_ofMark) := goodIn_app (goodIn_sub (fw_c (fw_t (fw_l (fw_l (fw_t (fw_t (fw_t (fw_t (fw_t (fw_t (fw_t (fw_t (fw_t (fw_t (fw_t (fw_t (fw_t (fw_t (fw_t (fw_t (fw_t (fw_t fw_h))))))))))))))))))))) (fw_c (fw_t (fw_l (fw_l (fw_t (fw_t (fw_t (fw_t (fw_t (fw_t (fw_t (fw_t (fw_t (fw_t (fw_t (fw_t (fw_t (fw_t (fw_t (fw_t (fw_t (fw_t (fw_t fw_h)))))))))))))))))))))) (fw_c (fw_t (fw_l (fw_l (fw_t (fw_t (fw_t (fw_t (fw_t (fw_t (fw_t (fw_t (fw_t (fw_t (fw_t (fw_t (fw_t (fw_t (fw_t (fw_t (fw_t (fw_t (fw_t (fw_t fw_h))))))))))))))))))))))) (fw_c (fw_t (fw_l (fw_l (fw_t (fw_t (fw_t (fw_t (fw_t (fw_t (fw_t fw_h)))))))))) fw_n)))) (by decide +kernel)) ggX12_at_X12_ofMark
set_option maxRecDepth 20000 in
theorem ggX12_at_X12_leads : GoodIn wsX12_at wsX12_leads := goodIn_sub (fw_c (fw_t (fw_l (fw_r (fw_t fw_h)))) (fw_a (fw_c (fw_t (fw_l (fw_l (fw_t (fw_t (fw_t (fw_t (fw_t (fw_t (fw_t (fw_t (fw_t fw_h)))))))))))) (fw_c (fw_t (fw_l (fw_l (fw_t (fw_t fw_h))))) (fw_c (fw_t (fw_l (fw_r (fw_t (fw_t fw_h))))) (fw_c (fw_t (fw_l (fw_r (fw_t (fw_t (fw_t fw_h)))))) (fw_c (fw_t (fw_l (fw_r (fw_t (fw_t (fw_t (fw_t fw_h))))))) (fw_c (fw_t (fw_l (fw_r (fw_t (fw_t (fw_t (fw_t (fw_t fw_h)))))))) (fw_c (fw_t (fw_l (fw_r (fw_t (fw_t (fw_t (fw_t (fw_t (fw_t fw_h))))))))) (fw_c (fw_t (fw_l (fw_l (fw_t (fw_t (fw_t fw_h)))))) fw_n)))))))) (fun _ h => fw_t (fw_r h)))) (by decide +kernel)
set_option maxRecDepth 20000 in
theorem gX12_at_X12_leads : GoodIn wsX12_at (wsV RX12 104 RX12 yX12_leads wsX12_leads) := goodIn_app (goodIn_sub (fw_c (fw_t (fw_l (fw_l (fw_t (fw_t (fw_t (fw_t (fw_t (fw_t (fw_t (fw_t (fw_t (fw_t (fw_t (fw_t (fw_t (fw_t (fw_t (fw_t (fw_t (fw_t (fw_t (fw_t (fw_t (fw_t fw_h))))))))))))))))))))))))) (fw_c (fw_t (fw_l (fw_l (fw_t (fw_t (fw_t (fw_t (fw_t (fw_t (fw_t (fw_t (fw_t (fw_t (fw_t (fw_t (fw_t (fw_t (fw_t (fw_t (fw_t (fw_t (fw_t (fw_t (fw_t (fw_t (fw_t fw_h)))))))))))))))))))))))))) (fw_c (fw_t (fw_l (fw_r fw_h))) (fw_c (fw_t (fw_l (fw_l (fw_t (fw_t (fw_t (fw_t (fw_t (fw_t (fw_t fw_h)))))))))) fw_n)))) (by decide +kernel)) ggX12_at_X12_leads
set_option maxRecDepth 20000 in
theorem ggX12_at_X12_aboveAt : GoodIn wsX12_at wsX12_aboveAt := goodIn_sub (fw_c (fw_t (fw_l (fw_r (fw_t (fw_t (fw_t (fw_t (fw_t (fw_t (fw_t (fw_t (fw_t (fw_t fw_h))))))))))))) (fw_a (fw_c (fw_t (fw_l (fw_r (fw_t (fw_t (fw_t fw_h)))))) (fw_c (fw_t (fw_l (fw_l (fw_t (fw_t (fw_t fw_h)))))) (fw_c (fw_t (fw_l (fw_l (fw_t (fw_t fw_h))))) (fw_c (fw_t (fw_l (fw_r (fw_t (fw_t (fw_t (fw_t (fw_t fw_h)))))))) (fw_c (fw_t (fw_l (fw_r (fw_t (fw_t fw_h))))) fw_n))))) (fun _ h => fw_t (fw_r h)))) (by decide +kernel)
set_option maxRecDepth 20000 in
theorem gX12_at_X12_aboveAt : GoodIn wsX12_at (wsV RX12 108 RX12 yX12_aboveAt wsX12_aboveAt) := goodIn_app (goodIn_sub (fw_c (fw_t (fw_l (fw_r (fw_t (fw_t (fw_t (fw_t (fw_t (fw_t (fw_t fw_h)))))))))) (fw_c (fw_t (fw_l (fw_r (fw_t (fw_t (fw_t (fw_t (fw_t (fw_t (fw_t (fw_t fw_h))))))))))) (fw_c (fw_t (fw_l (fw_r (fw_t (fw_t (fw_t (fw_t (fw_t (fw_t (fw_t (fw_t (fw_t fw_h)))))))))))) (fw_c (fw_t (fw_l (fw_l (fw_t (fw_t (fw_t (fw_t (fw_t (fw_t (fw_t fw_h)))))))))) fw_n)))) (by decide +kernel)) ggX12_at_X12_aboveAt
set_option maxRecDepth 20000 in
theorem ggX12_at_X12_cut : GoodIn wsX12_at wsX12_cut := goodIn_sub (fw_c (fw_t (fw_l (fw_r (fw_t (fw_t (fw_t (fw_t (fw_t (fw_t (fw_t (fw_t (fw_t (fw_t (fw_t (fw_t (fw_t fw_h)))))))))))))))) (fw_n)) (by decide +kernel)
set_option maxRecDepth 20000 in
theorem gX12_at_X12_cut : GoodIn wsX12_at (va_wsS RX12 133 yX12_cut wsX12_cut) := goodIn_app (goodIn_sub (fw_c (fw_t (fw_l (fw_r (fw_t (fw_t (fw_t (fw_t (fw_t (fw_t (fw_t (fw_t (fw_t (fw_t (fw_t fw_h)))))))))))))) (fw_c (fw_t (fw_l (fw_r (fw_t (fw_t (fw_t (fw_t (fw_t (fw_t (fw_t (fw_t (fw_t (fw_t (fw_t (fw_t fw_h))))))))))))))) (fw_c (fw_t (fw_l (fw_l (fw_t (fw_t (fw_t (fw_t (fw_t (fw_t (fw_t fw_h)))))))))) fw_n))) (by decide +kernel)) ggX12_at_X12_cut
theorem dX12_at_0 : decode cX12_at 0 = .ok (.aload_n 0, 1) := by decide +kernel
theorem dX12_at_1 : decode cX12_at 1 = .ok (.iload_n 1, 1) := by decide +kernel
theorem dX12_at_2 : decode cX12_at 2 = .ok (.invokevirtual 124, 3) := by decide +kernel
theorem dX12_at_5 : decode cX12_at 5 = .ok (.ifCond .ne 11, 3) := by decide +kernel
theorem dX12_at_8 : decode cX12_at 8 = .ok (.aload_n 0, 1) := by decide +kernel
theorem dX12_at_9 : decode cX12_at 9 = .ok (.ldc2_w 76, 3) := by decide +kernel
theorem dX12_at_12 : decode cX12_at 12 = .ok (.invokevirtual 56, 3) := by decide +kernel
theorem dX12_at_15 : decode cX12_at 15 = .ok (.lreturn, 1) := by decide +kernel
theorem dX12_at_16 : decode cX12_at 16 = .ok (.aload_n 0, 1) := by decide +kernel
theorem dX12_at_17 : decode cX12_at 17 = .ok (.aload_n 0, 1) := by decide +kernel
theorem dX12_at_18 : decode cX12_at 18 = .ok (.iload_n 1, 1) := by decide +kernel
theorem dX12_at_19 : decode cX12_at 19 = .ok (.iconst 0, 1) := by decide +kernel
theorem dX12_at_20 : decode cX12_at 20 = .ok (.invokevirtual 127, 3) := by decide +kernel
theorem dX12_at_23 : decode cX12_at 23 = .ok (.iload_n 2, 1) := by decide +kernel
theorem dX12_at_24 : decode cX12_at 24 = .ok (.ifCond .eq 7, 3) := by decide +kernel
theorem dX12_at_27 : decode cX12_at 27 = .ok (.iconst 1, 1) := by decide +kernel
theorem dX12_at_28 : decode cX12_at 28 = .ok (.goto 4, 3) := by decide +kernel
theorem dX12_at_31 : decode cX12_at 31 = .ok (.iconst 0, 1) := by decide +kernel
theorem dX12_at_32 : decode cX12_at 32 = .ok (.invokevirtual 104, 3) := by decide +kernel
theorem dX12_at_35 : decode cX12_at 35 = .ok (.ifCond .ne 11, 3) := by decide +kernel
theorem dX12_at_38 : decode cX12_at 38 = .ok (.aload_n 0, 1) := by decide +kernel
theorem dX12_at_39 : decode cX12_at 39 = .ok (.ldc2_w 54, 3) := by decide +kernel
theorem dX12_at_42 : decode cX12_at 42 = .ok (.invokevirtual 56, 3) := by decide +kernel
theorem dX12_at_45 : decode cX12_at 45 = .ok (.lreturn, 1) := by decide +kernel
theorem dX12_at_46 : decode cX12_at 46 = .ok (.aload_n 0, 1) := by decide +kernel
theorem dX12_at_47 : decode cX12_at 47 = .ok (.aload_n 0, 1) := by decide +kernel
theorem dX12_at_48 : decode cX12_at 48 = .ok (.iload_n 1, 1) := by decide +kernel
theorem dX12_at_49 : decode cX12_at 49 = .ok (.iload_n 2, 1) := by decide +kernel
theorem dX12_at_50 : decode cX12_at 50 = .ok (.ifCond .eq 7, 3) := by decide +kernel
theorem dX12_at_53 : decode cX12_at 53 = .ok (.iconst 3, 1) := by decide +kernel
theorem dX12_at_54 : decode cX12_at 54 = .ok (.goto 4, 3) := by decide +kernel
theorem dX12_at_57 : decode cX12_at 57 = .ok (.iconst 2, 1) := by decide +kernel
theorem dX12_at_58 : decode cX12_at 58 = .ok (.invokevirtual 127, 3) := by decide +kernel
theorem dX12_at_61 : decode cX12_at 61 = .ok (.i2l, 1) := by decide +kernel
theorem dX12_at_62 : decode cX12_at 62 = .ok (.invokevirtual 108, 3) := by decide +kernel
theorem dX12_at_65 : decode cX12_at 65 = .ok (.aload_n 0, 1) := by decide +kernel
theorem dX12_at_66 : decode cX12_at 66 = .ok (.getfield 78, 3) := by decide +kernel
theorem dX12_at_69 : decode cX12_at 69 = .ok (.aload_n 0, 1) := by decide +kernel
theorem dX12_at_70 : decode cX12_at 70 = .ok (.getfield 97, 3) := by decide +kernel
theorem dX12_at_73 : decode cX12_at 73 = .ok (.lmul, 1) := by decide +kernel
theorem dX12_at_74 : decode cX12_at 74 = .ok (.invokestatic 133, 3) := by decide +kernel
theorem dX12_at_77 : decode cX12_at 77 = .ok (.lreturn, 1) := by decide +kernel
set_option maxRecDepth 20000 in
theorem ggX12_doAgree_X12_ofMark : GoodIn wsX12_doAgree wsX12_ofMark := goodIn_sub (fw_c (fw_t (fw_l (fw_t (fw_t (fw_t (fw_t (fw_t (fw_t (fw_t fw_h))))))))) (fw_a (fw_c (fw_t (fw_l (fw_t (fw_t (fw_t (fw_t (fw_t (fw_t (fw_t (fw_t fw_h)))))))))) fw_n) (fun _ h => fw_t (fw_r h)))) (by decide +kernel)
set_option maxRecDepth 20000 in
theorem gX12_doAgree_X12_ofMark : GoodIn wsX12_doAgree (wsV RX12 127 RX12 yX12_ofMark wsX12_ofMark) := goodIn_app (goodIn_sub (fw_c (fw_t (fw_l (fw_t (fw_t (fw_t fw_h))))) (fw_c (fw_t (fw_l (fw_t (fw_t (fw_t (fw_t fw_h)))))) (fw_c (fw_t (fw_l (fw_t (fw_t (fw_t (fw_t (fw_t fw_h))))))) (fw_c (fw_t (fw_l (fw_t (fw_t (fw_t (fw_t (fw_t (fw_t fw_h)))))))) fw_n)))) (by decide +kernel)) ggX12_doAgree_X12_ofMark
theorem dX12_doAgree_0 : decode cX12_doAgree 0 = .ok (.aload_n 0, 1) := by decide +kernel
theorem dX12_doAgree_1 : decode cX12_doAgree 1 = .ok (.iload_n 1, 1) := by decide +kernel
theorem dX12_doAgree_2 : decode cX12_doAgree 2 = .ok (.iconst 0, 1) := by decide +kernel
theorem dX12_doAgree_3 : decode cX12_doAgree 3 = .ok (.invokevirtual 127, 3) := by decide +kernel
theorem dX12_doAgree_6 : decode cX12_doAgree 6 = .ok (.aload_n 0, 1) := by decide +kernel
theorem dX12_doAgree_7 : decode cX12_doAgree 7 = .ok (.iload_n 2, 1) := by decide +kernel
theorem dX12_doAgree_8 : decode cX12_doAgree 8 = .ok (.iconst 0, 1) := by decide +kernel
theorem dX12_doAgree_9 : decode cX12_doAgree 9 = .ok (.invokevirtual 127, 3) := by decide +kernel
theorem dX12_doAgree_12 : decode cX12_doAgree 12 = .ok (.if_icmp .eq 40, 3) := by decide +kernel
theorem dX12_doAgree_15 : decode cX12_doAgree 15 = .ok (.aload_n 0, 1) := by decide +kernel
theorem dX12_doAgree_16 : decode cX12_doAgree 16 = .ok (.iload_n 1, 1) := by decide +kernel
theorem dX12_doAgree_17 : decode cX12_doAgree 17 = .ok (.iconst 1, 1) := by decide +kernel
theorem dX12_doAgree_18 : decode cX12_doAgree 18 = .ok (.invokevirtual 127, 3) := by decide +kernel
theorem dX12_doAgree_21 : decode cX12_doAgree 21 = .ok (.aload_n 0, 1) := by decide +kernel
theorem dX12_doAgree_22 : decode cX12_doAgree 22 = .ok (.iload_n 2, 1) := by decide +kernel
theorem dX12_doAgree_23 : decode cX12_doAgree 23 = .ok (.iconst 1, 1) := by decide +kernel
theorem dX12_doAgree_24 : decode cX12_doAgree 24 = .ok (.invokevirtual 127, 3) := by decide +kernel
theorem dX12_doAgree_27 : decode cX12_doAgree 27 = .ok (.if_icmp .ne 25, 3) := by decide +kernel
theorem dX12_doAgree_30 : decode cX12_doAgree 30 = .ok (.aload_n 0, 1) := by decide +kernel
theorem dX12_doAgree_31 : decode cX12_doAgree 31 = .ok (.getfield 32, 3) := by decide +kernel
theorem dX12_doAgree_34 : decode cX12_doAgree 34 = .ok (.iload_n 1, 1) := by decide +kernel
theorem dX12_doAgree_35 : decode cX12_doAgree 35 = .ok (.laload, 1) := by decide +kernel
theorem dX12_doAgree_36 : decode cX12_doAgree 36 = .ok (.lconst 0, 1) := by decide +kernel
theorem dX12_doAgree_37 : decode cX12_doAgree 37 = .ok (.lcmp, 1) := by decide +kernel
theorem dX12_doAgree_38 : decode cX12_doAgree 38 = .ok (.ifCond .lt 14, 3) := by decide +kernel
theorem dX12_doAgree_41 : decode cX12_doAgree 41 = .ok (.aload_n 0, 1) := by decide +kernel
theorem dX12_doAgree_42 : decode cX12_doAgree 42 = .ok (.getfield 32, 3) := by decide +kernel
theorem dX12_doAgree_45 : decode cX12_doAgree 45 = .ok (.iload_n 2, 1) := by decide +kernel
theorem dX12_doAgree_46 : decode cX12_doAgree 46 = .ok (.laload, 1) := by decide +kernel
theorem dX12_doAgree_47 : decode cX12_doAgree 47 = .ok (.lconst 0, 1) := by decide +kernel
theorem dX12_doAgree_48 : decode cX12_doAgree 48 = .ok (.lcmp, 1) := by decide +kernel
theorem dX12_doAgree_49 : decode cX12_doAgree 49 = .ok (.ifCond .ge 5, 3) := by decide +kernel
theorem dX12_doAgree_52 : decode cX12_doAgree 52 = .ok (.iconst 0, 1) := by decide +kernel
theorem dX12_doAgree_53 : decode cX12_doAgree 53 = .ok (.ireturn, 1) := by decide +kernel
theorem dX12_doAgree_54 : decode cX12_doAgree 54 = .ok (.aload_n 0, 1) := by decide +kernel
theorem dX12_doAgree_55 : decode cX12_doAgree 55 = .ok (.getfield 25, 3) := by decide +kernel
theorem dX12_doAgree_58 : decode cX12_doAgree 58 = .ok (.iload_n 1, 1) := by decide +kernel
theorem dX12_doAgree_59 : decode cX12_doAgree 59 = .ok (.laload, 1) := by decide +kernel
theorem dX12_doAgree_60 : decode cX12_doAgree 60 = .ok (.aload_n 0, 1) := by decide +kernel
theorem dX12_doAgree_61 : decode cX12_doAgree 61 = .ok (.getfield 25, 3) := by decide +kernel
theorem dX12_doAgree_64 : decode cX12_doAgree 64 = .ok (.iload_n 2, 1) := by decide +kernel
theorem dX12_doAgree_65 : decode cX12_doAgree 65 = .ok (.laload, 1) := by decide +kernel
theorem dX12_doAgree_66 : decode cX12_doAgree 66 = .ok (.lcmp, 1) := by decide +kernel
theorem dX12_doAgree_67 : decode cX12_doAgree 67 = .ok (.ifCond .le 19, 3) := by decide +kernel
theorem dX12_doAgree_70 : decode cX12_doAgree 70 = .ok (.aload_n 0, 1) := by decide +kernel
theorem dX12_doAgree_71 : decode cX12_doAgree 71 = .ok (.getfield 25, 3) := by decide +kernel
theorem dX12_doAgree_74 : decode cX12_doAgree 74 = .ok (.iload_n 1, 1) := by decide +kernel
theorem dX12_doAgree_75 : decode cX12_doAgree 75 = .ok (.laload, 1) := by decide +kernel
theorem dX12_doAgree_76 : decode cX12_doAgree 76 = .ok (.aload_n 0, 1) := by decide +kernel
theorem dX12_doAgree_77 : decode cX12_doAgree 77 = .ok (.getfield 25, 3) := by decide +kernel
theorem dX12_doAgree_80 : decode cX12_doAgree 80 = .ok (.iload_n 2, 1) := by decide +kernel
theorem dX12_doAgree_81 : decode cX12_doAgree 81 = .ok (.laload, 1) := by decide +kernel
theorem dX12_doAgree_82 : decode cX12_doAgree 82 = .ok (.lsub, 1) := by decide +kernel
theorem dX12_doAgree_83 : decode cX12_doAgree 83 = .ok (.goto 16, 3) := by decide +kernel
theorem dX12_doAgree_86 : decode cX12_doAgree 86 = .ok (.aload_n 0, 1) := by decide +kernel
theorem dX12_doAgree_87 : decode cX12_doAgree 87 = .ok (.getfield 25, 3) := by decide +kernel
theorem dX12_doAgree_90 : decode cX12_doAgree 90 = .ok (.iload_n 2, 1) := by decide +kernel
theorem dX12_doAgree_91 : decode cX12_doAgree 91 = .ok (.laload, 1) := by decide +kernel
theorem dX12_doAgree_92 : decode cX12_doAgree 92 = .ok (.aload_n 0, 1) := by decide +kernel
theorem dX12_doAgree_93 : decode cX12_doAgree 93 = .ok (.getfield 25, 3) := by decide +kernel
theorem dX12_doAgree_96 : decode cX12_doAgree 96 = .ok (.iload_n 1, 1) := by decide +kernel
theorem dX12_doAgree_97 : decode cX12_doAgree 97 = .ok (.laload, 1) := by decide +kernel
theorem dX12_doAgree_98 : decode cX12_doAgree 98 = .ok (.lsub, 1) := by decide +kernel
theorem dX12_doAgree_99 : decode cX12_doAgree 99 = .ok (.lstore_n 3, 1) := by decide +kernel
theorem dX12_doAgree_100 : decode cX12_doAgree 100 = .ok (.aload_n 0, 1) := by decide +kernel
theorem dX12_doAgree_101 : decode cX12_doAgree 101 = .ok (.getfield 29, 3) := by decide +kernel
theorem dX12_doAgree_104 : decode cX12_doAgree 104 = .ok (.iload_n 1, 1) := by decide +kernel
theorem dX12_doAgree_105 : decode cX12_doAgree 105 = .ok (.laload, 1) := by decide +kernel
theorem dX12_doAgree_106 : decode cX12_doAgree 106 = .ok (.aload_n 0, 1) := by decide +kernel
theorem dX12_doAgree_107 : decode cX12_doAgree 107 = .ok (.getfield 29, 3) := by decide +kernel
theorem dX12_doAgree_110 : decode cX12_doAgree 110 = .ok (.iload_n 2, 1) := by decide +kernel
theorem dX12_doAgree_111 : decode cX12_doAgree 111 = .ok (.laload, 1) := by decide +kernel
theorem dX12_doAgree_112 : decode cX12_doAgree 112 = .ok (.lcmp, 1) := by decide +kernel
theorem dX12_doAgree_113 : decode cX12_doAgree 113 = .ok (.ifCond .le 19, 3) := by decide +kernel
theorem dX12_doAgree_116 : decode cX12_doAgree 116 = .ok (.aload_n 0, 1) := by decide +kernel
theorem dX12_doAgree_117 : decode cX12_doAgree 117 = .ok (.getfield 29, 3) := by decide +kernel
theorem dX12_doAgree_120 : decode cX12_doAgree 120 = .ok (.iload_n 1, 1) := by decide +kernel
theorem dX12_doAgree_121 : decode cX12_doAgree 121 = .ok (.laload, 1) := by decide +kernel
theorem dX12_doAgree_122 : decode cX12_doAgree 122 = .ok (.aload_n 0, 1) := by decide +kernel
theorem dX12_doAgree_123 : decode cX12_doAgree 123 = .ok (.getfield 29, 3) := by decide +kernel
theorem dX12_doAgree_126 : decode cX12_doAgree 126 = .ok (.iload_n 2, 1) := by decide +kernel
theorem dX12_doAgree_127 : decode cX12_doAgree 127 = .ok (.laload, 1) := by decide +kernel
theorem dX12_doAgree_128 : decode cX12_doAgree 128 = .ok (.lsub, 1) := by decide +kernel
theorem dX12_doAgree_129 : decode cX12_doAgree 129 = .ok (.goto 16, 3) := by decide +kernel
theorem dX12_doAgree_132 : decode cX12_doAgree 132 = .ok (.aload_n 0, 1) := by decide +kernel
theorem dX12_doAgree_133 : decode cX12_doAgree 133 = .ok (.getfield 29, 3) := by decide +kernel
theorem dX12_doAgree_136 : decode cX12_doAgree 136 = .ok (.iload_n 2, 1) := by decide +kernel
theorem dX12_doAgree_137 : decode cX12_doAgree 137 = .ok (.laload, 1) := by decide +kernel
theorem dX12_doAgree_138 : decode cX12_doAgree 138 = .ok (.aload_n 0, 1) := by decide +kernel
theorem dX12_doAgree_139 : decode cX12_doAgree 139 = .ok (.getfield 29, 3) := by decide +kernel
theorem dX12_doAgree_142 : decode cX12_doAgree 142 = .ok (.iload_n 1, 1) := by decide +kernel
theorem dX12_doAgree_143 : decode cX12_doAgree 143 = .ok (.laload, 1) := by decide +kernel
theorem dX12_doAgree_144 : decode cX12_doAgree 144 = .ok (.lsub, 1) := by decide +kernel
theorem dX12_doAgree_145 : decode cX12_doAgree 145 = .ok (.lstore 5, 2) := by decide +kernel
theorem dX12_doAgree_147 : decode cX12_doAgree 147 = .ok (.lload_n 3, 1) := by decide +kernel
theorem dX12_doAgree_148 : decode cX12_doAgree 148 = .ok (.aload_n 0, 1) := by decide +kernel
theorem dX12_doAgree_149 : decode cX12_doAgree 149 = .ok (.getfield 32, 3) := by decide +kernel
theorem dX12_doAgree_152 : decode cX12_doAgree 152 = .ok (.iload_n 1, 1) := by decide +kernel
theorem dX12_doAgree_153 : decode cX12_doAgree 153 = .ok (.laload, 1) := by decide +kernel
theorem dX12_doAgree_154 : decode cX12_doAgree 154 = .ok (.aload_n 0, 1) := by decide +kernel
theorem dX12_doAgree_155 : decode cX12_doAgree 155 = .ok (.getfield 32, 3) := by decide +kernel
theorem dX12_doAgree_158 : decode cX12_doAgree 158 = .ok (.iload_n 2, 1) := by decide +kernel
theorem dX12_doAgree_159 : decode cX12_doAgree 159 = .ok (.laload, 1) := by decide +kernel
theorem dX12_doAgree_160 : decode cX12_doAgree 160 = .ok (.ladd, 1) := by decide +kernel
theorem dX12_doAgree_161 : decode cX12_doAgree 161 = .ok (.lcmp, 1) := by decide +kernel
theorem dX12_doAgree_162 : decode cX12_doAgree 162 = .ok (.ifCond .gt 26, 3) := by decide +kernel
theorem dX12_doAgree_165 : decode cX12_doAgree 165 = .ok (.lload 5, 2) := by decide +kernel
theorem dX12_doAgree_167 : decode cX12_doAgree 167 = .ok (.aload_n 0, 1) := by decide +kernel
theorem dX12_doAgree_168 : decode cX12_doAgree 168 = .ok (.getfield 32, 3) := by decide +kernel
theorem dX12_doAgree_171 : decode cX12_doAgree 171 = .ok (.iload_n 1, 1) := by decide +kernel
theorem dX12_doAgree_172 : decode cX12_doAgree 172 = .ok (.laload, 1) := by decide +kernel
theorem dX12_doAgree_173 : decode cX12_doAgree 173 = .ok (.aload_n 0, 1) := by decide +kernel
theorem dX12_doAgree_174 : decode cX12_doAgree 174 = .ok (.getfield 32, 3) := by decide +kernel
theorem dX12_doAgree_177 : decode cX12_doAgree 177 = .ok (.iload_n 2, 1) := by decide +kernel
theorem dX12_doAgree_178 : decode cX12_doAgree 178 = .ok (.laload, 1) := by decide +kernel
theorem dX12_doAgree_179 : decode cX12_doAgree 179 = .ok (.ladd, 1) := by decide +kernel
theorem dX12_doAgree_180 : decode cX12_doAgree 180 = .ok (.lcmp, 1) := by decide +kernel
theorem dX12_doAgree_181 : decode cX12_doAgree 181 = .ok (.ifCond .gt 7, 3) := by decide +kernel
theorem dX12_doAgree_184 : decode cX12_doAgree 184 = .ok (.iconst 1, 1) := by decide +kernel
theorem dX12_doAgree_185 : decode cX12_doAgree 185 = .ok (.goto 4, 3) := by decide +kernel
theorem dX12_doAgree_188 : decode cX12_doAgree 188 = .ok (.iconst 0, 1) := by decide +kernel
theorem dX12_doAgree_189 : decode cX12_doAgree 189 = .ok (.ireturn, 1) := by decide +kernel
set_option maxRecDepth 20000 in
theorem ggX12_findPlaces_X12_ofMark : GoodIn wsX12_findPlaces wsX12_ofMark := goodIn_sub (fw_c (fw_t (fw_l (fw_l (fw_t (fw_t (fw_t (fw_t (fw_t (fw_t (fw_t (fw_t (fw_t (fw_t fw_h))))))))))))) (fw_a (fw_c (fw_t (fw_l (fw_l fw_h))) fw_n) (fun _ h => fw_t (fw_r h)))) (by decide +kernel)
set_option maxRecDepth 20000 in
theorem gX12_findPlaces_X12_ofMark : GoodIn wsX12_findPlaces (wsV RX12 127 RX12 yX12_ofMark wsX12_ofMark) := goodIn_app (goodIn_sub (fw_c (fw_t (fw_l (fw_l (fw_t (fw_t (fw_t (fw_t (fw_t (fw_t fw_h))))))))) (fw_c (fw_t (fw_l (fw_l (fw_t (fw_t (fw_t (fw_t (fw_t (fw_t (fw_t fw_h)))))))))) (fw_c (fw_t (fw_l (fw_l (fw_t (fw_t (fw_t (fw_t (fw_t (fw_t (fw_t (fw_t fw_h))))))))))) (fw_c (fw_t (fw_l (fw_l (fw_t (fw_t (fw_t (fw_t (fw_t (fw_t (fw_t (fw_t (fw_t fw_h)))))))))))) fw_n)))) (by decide +kernel)) ggX12_findPlaces_X12_ofMark
set_option maxRecDepth 20000 in
theorem ggX12_findPlaces_X12_doubtOf : GoodIn wsX12_findPlaces wsX12_doubtOf := goodIn_sub (fw_c (fw_t (fw_l (fw_l (fw_t (fw_t (fw_t (fw_t (fw_t (fw_t (fw_t (fw_t (fw_t (fw_t (fw_t (fw_t (fw_t (fw_t fw_h))))))))))))))))) (fw_a (fw_c (fw_t (fw_l (fw_l (fw_t (fw_t (fw_t (fw_t (fw_t (fw_t (fw_t (fw_t (fw_t (fw_t (fw_t (fw_t (fw_t (fw_t (fw_t fw_h)))))))))))))))))) (fw_c (fw_t (fw_l (fw_l (fw_t (fw_t (fw_t fw_h)))))) (fw_c (fw_t (fw_l (fw_l (fw_t (fw_t (fw_t (fw_t fw_h))))))) (fw_c (fw_t (fw_l (fw_l fw_h))) (fw_c (fw_t (fw_l (fw_l (fw_t (fw_t (fw_t (fw_t (fw_t (fw_t (fw_t (fw_t (fw_t (fw_t (fw_t (fw_t (fw_t (fw_t (fw_t (fw_t fw_h))))))))))))))))))) (fw_c (fw_t (fw_l (fw_l (fw_t (fw_t (fw_t (fw_t (fw_t (fw_t (fw_t (fw_t (fw_t (fw_t (fw_t (fw_t (fw_t (fw_t (fw_t (fw_t (fw_t fw_h)))))))))))))))))))) (fw_c (fw_t (fw_l (fw_l (fw_t (fw_t (fw_t (fw_t (fw_t (fw_t (fw_t (fw_t (fw_t (fw_t (fw_t (fw_t (fw_t (fw_t (fw_t (fw_t (fw_t (fw_t fw_h))))))))))))))))))))) (fw_c (fw_t (fw_l (fw_l (fw_t (fw_t (fw_t (fw_t (fw_t (fw_t (fw_t (fw_t (fw_t fw_h)))))))))))) (fw_c (fw_t (fw_l (fw_l (fw_t (fw_t (fw_t (fw_t (fw_t (fw_t (fw_t (fw_t (fw_t (fw_t (fw_t (fw_t (fw_t (fw_t (fw_t (fw_t (fw_t (fw_t (fw_t fw_h)))))))))))))))))))))) (fw_c (fw_t (fw_l (fw_l (fw_t (fw_t (fw_t (fw_t (fw_t (fw_t (fw_t (fw_t (fw_t (fw_t (fw_t (fw_t (fw_t (fw_t (fw_t (fw_t (fw_t (fw_t (fw_t (fw_t fw_h))))))))))))))))))))))) (fw_c (fw_t (fw_l (fw_l (fw_t (fw_t (fw_t (fw_t (fw_t (fw_t (fw_t (fw_t (fw_t (fw_t (fw_t (fw_t (fw_t (fw_t (fw_t (fw_t (fw_t (fw_t (fw_t (fw_t (fw_t fw_h)))))))))))))))))))))))) (fw_c (fw_t (fw_l (fw_l (fw_t (fw_t (fw_t (fw_t (fw_t (fw_t (fw_t (fw_t (fw_t (fw_t (fw_t (fw_t (fw_t (fw_t (fw_t (fw_t (fw_t (fw_t (fw_t (fw_t (fw_t (fw_t fw_h))))))))))))))))))))))))) (fw_c (fw_t (fw_l (fw_l (fw_t (fw_t (fw_t (fw_t (fw_t (fw_t (fw_t (fw_t (fw_t (fw_t (fw_t (fw_t (fw_t (fw_t (fw_t (fw_t (fw_t (fw_t (fw_t (fw_t (fw_t (fw_t (fw_t fw_h)))))))))))))))))))))))))) (fw_c (fw_t (fw_l (fw_r fw_h))) (fw_c (fw_t (fw_l (fw_r (fw_t fw_h)))) (fw_c (fw_t (fw_l (fw_r (fw_t (fw_t fw_h))))) (fw_c (fw_t (fw_l (fw_r (fw_t (fw_t (fw_t fw_h)))))) (fw_c (fw_t (fw_l (fw_r (fw_t (fw_t (fw_t (fw_t fw_h))))))) fw_n)))))))))))))))))) (fun _ h => fw_t (fw_r h)))) (by decide +kernel)
set_option maxRecDepth 20000 in
theorem gX12_findPlaces_X12_doubtOf : GoodIn wsX12_findPlaces (wsV RX12 117 RX12 yX12_doubtOf wsX12_doubtOf) := goodIn_app (goodIn_sub (fw_c (fw_t (fw_l (fw_l (fw_t (fw_t (fw_t (fw_t (fw_t (fw_t (fw_t (fw_t (fw_t (fw_t (fw_t fw_h)))))))))))))) (fw_c (fw_t (fw_l (fw_l (fw_t (fw_t (fw_t (fw_t (fw_t (fw_t (fw_t (fw_t (fw_t (fw_t (fw_t (fw_t fw_h))))))))))))))) (fw_c (fw_t (fw_l (fw_l (fw_t (fw_t (fw_t (fw_t (fw_t (fw_t (fw_t (fw_t (fw_t (fw_t (fw_t (fw_t (fw_t fw_h)))))))))))))))) (fw_c (fw_t (fw_l (fw_l (fw_t (fw_t (fw_t (fw_t (fw_t (fw_t (fw_t (fw_t (fw_t fw_h)))))))))))) fw_n)))) (by decide +kernel)) ggX12_findPlaces_X12_doubtOf
set_option maxRecDepth 20000 in
theorem ggX12_findPlaces_X12_leads : GoodIn wsX12_findPlaces wsX12_leads := goodIn_sub (fw_c (fw_t (fw_l (fw_l (fw_t (fw_t (fw_t (fw_t (fw_t (fw_t (fw_t (fw_t (fw_t (fw_t (fw_t (fw_t (fw_t (fw_t (fw_t (fw_t (fw_t (fw_t (fw_t fw_h)))))))))))))))))))))) (fw_a (fw_c (fw_t (fw_l (fw_l fw_h))) (fw_c (fw_t (fw_l (fw_l (fw_t (fw_t (fw_t fw_h)))))) (fw_c (fw_t (fw_l (fw_l (fw_t (fw_t (fw_t (fw_t (fw_t (fw_t (fw_t (fw_t (fw_t (fw_t (fw_t (fw_t (fw_t (fw_t (fw_t (fw_t (fw_t (fw_t (fw_t (fw_t fw_h))))))))))))))))))))))) (fw_c (fw_t (fw_l (fw_l (fw_t (fw_t (fw_t (fw_t (fw_t (fw_t (fw_t (fw_t (fw_t (fw_t (fw_t (fw_t (fw_t (fw_t (fw_t (fw_t (fw_t (fw_t (fw_t (fw_t (fw_t fw_h)))))))))))))))))))))))) (fw_c (fw_t (fw_l (fw_l (fw_t (fw_t (fw_t (fw_t (fw_t (fw_t (fw_t (fw_t (fw_t (fw_t (fw_t (fw_t (fw_t (fw_t (fw_t (fw_t (fw_t (fw_t (fw_t (fw_t (fw_t (fw_t fw_h))))))))))))))))))))))))) (fw_c (fw_t (fw_l (fw_l (fw_t (fw_t (fw_t (fw_t (fw_t (fw_t (fw_t (fw_t (fw_t (fw_t (fw_t (fw_t (fw_t (fw_t (fw_t (fw_t (fw_t (fw_t (fw_t (fw_t (fw_t (fw_t (fw_t fw_h)))))))))))))))))))))))))) (fw_c (fw_t (fw_l (fw_r fw_h))) (fw_c (fw_t (fw_l (fw_l (fw_t (fw_t (fw_t (fw_t fw_h))))))) fw_n)))))))) (fun _ h => fw_t (fw_r h)))) (by decide +kernel)
set_option maxRecDepth 20000 in
theorem gX12_findPlaces_X12_leads : GoodIn wsX12_findPlaces (wsV RX12 104 RX12 yX12_leads wsX12_leads) := goodIn_app (goodIn_sub (fw_c (fw_t (fw_l (fw_l (fw_t (fw_t (fw_t (fw_t (fw_t (fw_t (fw_t (fw_t (fw_t (fw_t (fw_t (fw_t (fw_t (fw_t (fw_t (fw_t fw_h))))))))))))))))))) (fw_c (fw_t (fw_l (fw_l (fw_t (fw_t (fw_t (fw_t (fw_t (fw_t (fw_t (fw_t (fw_t (fw_t (fw_t (fw_t (fw_t (fw_t (fw_t (fw_t (fw_t fw_h)))))))))))))))))))) (fw_c (fw_t (fw_l (fw_l (fw_t (fw_t (fw_t (fw_t (fw_t (fw_t (fw_t (fw_t (fw_t (fw_t (fw_t (fw_t (fw_t (fw_t (fw_t (fw_t (fw_t (fw_t fw_h))))))))))))))))))))) (fw_c (fw_t (fw_l (fw_l (fw_t (fw_t (fw_t (fw_t (fw_t (fw_t (fw_t (fw_t (fw_t fw_h)))))))))))) fw_n)))) (by decide +kernel)) ggX12_findPlaces_X12_leads
set_option maxRecDepth 20000 in
theorem ggX12_findPlaces_X12_aboveAt : GoodIn wsX12_findPlaces wsX12_aboveAt := goodIn_sub (fw_c (fw_t (fw_l (fw_r (fw_t (fw_t (fw_t (fw_t fw_h))))))) (fw_a (fw_c (fw_t (fw_l (fw_l (fw_t (fw_t (fw_t (fw_t (fw_t (fw_t (fw_t (fw_t (fw_t (fw_t (fw_t (fw_t (fw_t (fw_t (fw_t (fw_t (fw_t (fw_t (fw_t (fw_t (fw_t fw_h)))))))))))))))))))))))) (fw_c (fw_t (fw_l (fw_l (fw_t (fw_t (fw_t (fw_t fw_h))))))) (fw_c (fw_t (fw_l (fw_l (fw_t (fw_t (fw_t fw_h)))))) (fw_c (fw_t (fw_l (fw_l (fw_t (fw_t (fw_t (fw_t (fw_t (fw_t (fw_t (fw_t (fw_t (fw_t (fw_t (fw_t (fw_t (fw_t (fw_t (fw_t (fw_t (fw_t (fw_t (fw_t (fw_t (fw_t (fw_t fw_h)))))))))))))))))))))))))) (fw_c (fw_t (fw_l (fw_l (fw_t (fw_t (fw_t (fw_t (fw_t (fw_t (fw_t (fw_t (fw_t (fw_t (fw_t (fw_t (fw_t (fw_t (fw_t (fw_t (fw_t (fw_t (fw_t (fw_t fw_h))))))))))))))))))))))) fw_n))))) (fun _ h => fw_t (fw_r h)))) (by decide +kernel)
set_option maxRecDepth 20000 in
theorem gX12_findPlaces_X12_aboveAt : GoodIn wsX12_findPlaces (wsV RX12 108 RX12 yX12_aboveAt wsX12_aboveAt) := goodIn_app (goodIn_sub (fw_c (fw_t (fw_l (fw_r (fw_t fw_h)))) (fw_c (fw_t (fw_l (fw_r (fw_t (fw_t fw_h))))) (fw_c (fw_t (fw_l (fw_r (fw_t (fw_t (fw_t fw_h)))))) (fw_c (fw_t (fw_l (fw_l (fw_t (fw_t (fw_t (fw_t (fw_t (fw_t (fw_t (fw_t (fw_t fw_h)))))))))))) fw_n)))) (by decide +kernel)) ggX12_findPlaces_X12_aboveAt
set_option maxRecDepth 20000 in
theorem ggX12_findPlaces_X12_cut : GoodIn wsX12_findPlaces wsX12_cut := goodIn_sub (fw_c (fw_t (fw_l (fw_r (fw_t (fw_t (fw_t (fw_t (fw_t (fw_t (fw_t fw_h)))))))))) (fw_n)) (by decide +kernel)
set_option maxRecDepth 20000 in
theorem gX12_findPlaces_X12_cut : GoodIn wsX12_findPlaces (va_wsS RX12 133 yX12_cut wsX12_cut) := goodIn_app (goodIn_sub (fw_c (fw_t (fw_l (fw_r (fw_t (fw_t (fw_t (fw_t (fw_t fw_h)))))))) (fw_c (fw_t (fw_l (fw_r (fw_t (fw_t (fw_t (fw_t (fw_t (fw_t fw_h))))))))) (fw_c (fw_t (fw_l (fw_l (fw_t (fw_t (fw_t (fw_t (fw_t (fw_t (fw_t (fw_t (fw_t fw_h)))))))))))) fw_n))) (by decide +kernel)) ggX12_findPlaces_X12_cut
theorem dX12_findPlaces_0 : decode cX12_findPlaces 0 = .ok (.iconst 0, 1) := by decide +kernel
theorem dX12_findPlaces_1 : decode cX12_findPlaces 1 = .ok (.istore_n 1, 1) := by decide +kernel
theorem dX12_findPlaces_2 : decode cX12_findPlaces 2 = .ok (.iload_n 1, 1) := by decide +kernel
theorem dX12_findPlaces_3 : decode cX12_findPlaces 3 = .ok (.aload_n 0, 1) := by decide +kernel
theorem dX12_findPlaces_4 : decode cX12_findPlaces 4 = .ok (.getfield 9, 3) := by decide +kernel
theorem dX12_findPlaces_7 : decode cX12_findPlaces 7 = .ok (.iconst 1, 1) := by decide +kernel
theorem dX12_findPlaces_8 : decode cX12_findPlaces 8 = .ok (.iaload, 1) := by decide +kernel
theorem dX12_findPlaces_9 : decode cX12_findPlaces 9 = .ok (.if_icmp .ge 103, 3) := by decide +kernel
theorem dX12_findPlaces_12 : decode cX12_findPlaces 12 = .ok (.aload_n 0, 1) := by decide +kernel
theorem dX12_findPlaces_13 : decode cX12_findPlaces 13 = .ok (.iload_n 1, 1) := by decide +kernel
theorem dX12_findPlaces_14 : decode cX12_findPlaces 14 = .ok (.iconst 0, 1) := by decide +kernel
theorem dX12_findPlaces_15 : decode cX12_findPlaces 15 = .ok (.invokevirtual 127, 3) := by decide +kernel
theorem dX12_findPlaces_18 : decode cX12_findPlaces 18 = .ok (.istore_n 2, 1) := by decide +kernel
theorem dX12_findPlaces_19 : decode cX12_findPlaces 19 = .ok (.aload_n 0, 1) := by decide +kernel
theorem dX12_findPlaces_20 : decode cX12_findPlaces 20 = .ok (.getfield 32, 3) := by decide +kernel
theorem dX12_findPlaces_23 : decode cX12_findPlaces 23 = .ok (.iload_n 1, 1) := by decide +kernel
theorem dX12_findPlaces_24 : decode cX12_findPlaces 24 = .ok (.aload_n 0, 1) := by decide +kernel
theorem dX12_findPlaces_25 : decode cX12_findPlaces 25 = .ok (.iload_n 2, 1) := by decide +kernel
theorem dX12_findPlaces_26 : decode cX12_findPlaces 26 = .ok (.invokevirtual 117, 3) := by decide +kernel
theorem dX12_findPlaces_29 : decode cX12_findPlaces 29 = .ok (.lastore, 1) := by decide +kernel
theorem dX12_findPlaces_30 : decode cX12_findPlaces 30 = .ok (.aload_n 0, 1) := by decide +kernel
theorem dX12_findPlaces_31 : decode cX12_findPlaces 31 = .ok (.iload_n 2, 1) := by decide +kernel
theorem dX12_findPlaces_32 : decode cX12_findPlaces 32 = .ok (.iconst 0, 1) := by decide +kernel
theorem dX12_findPlaces_33 : decode cX12_findPlaces 33 = .ok (.invokevirtual 104, 3) := by decide +kernel
theorem dX12_findPlaces_36 : decode cX12_findPlaces 36 = .ok (.ifCond .eq 32, 3) := by decide +kernel
theorem dX12_findPlaces_39 : decode cX12_findPlaces 39 = .ok (.aload_n 0, 1) := by decide +kernel
theorem dX12_findPlaces_40 : decode cX12_findPlaces 40 = .ok (.getfield 25, 3) := by decide +kernel
theorem dX12_findPlaces_43 : decode cX12_findPlaces 43 = .ok (.iload_n 1, 1) := by decide +kernel
theorem dX12_findPlaces_44 : decode cX12_findPlaces 44 = .ok (.aload_n 0, 1) := by decide +kernel
theorem dX12_findPlaces_45 : decode cX12_findPlaces 45 = .ok (.aload_n 0, 1) := by decide +kernel
theorem dX12_findPlaces_46 : decode cX12_findPlaces 46 = .ok (.iload_n 1, 1) := by decide +kernel
theorem dX12_findPlaces_47 : decode cX12_findPlaces 47 = .ok (.iconst 2, 1) := by decide +kernel
theorem dX12_findPlaces_48 : decode cX12_findPlaces 48 = .ok (.invokevirtual 127, 3) := by decide +kernel
theorem dX12_findPlaces_51 : decode cX12_findPlaces 51 = .ok (.i2l, 1) := by decide +kernel
theorem dX12_findPlaces_52 : decode cX12_findPlaces 52 = .ok (.invokevirtual 108, 3) := by decide +kernel
theorem dX12_findPlaces_55 : decode cX12_findPlaces 55 = .ok (.aload_n 0, 1) := by decide +kernel
theorem dX12_findPlaces_56 : decode cX12_findPlaces 56 = .ok (.getfield 78, 3) := by decide +kernel
theorem dX12_findPlaces_59 : decode cX12_findPlaces 59 = .ok (.aload_n 0, 1) := by decide +kernel
theorem dX12_findPlaces_60 : decode cX12_findPlaces 60 = .ok (.getfield 97, 3) := by decide +kernel
theorem dX12_findPlaces_63 : decode cX12_findPlaces 63 = .ok (.lmul, 1) := by decide +kernel
theorem dX12_findPlaces_64 : decode cX12_findPlaces 64 = .ok (.invokestatic 133, 3) := by decide +kernel
theorem dX12_findPlaces_67 : decode cX12_findPlaces 67 = .ok (.lastore, 1) := by decide +kernel
theorem dX12_findPlaces_68 : decode cX12_findPlaces 68 = .ok (.aload_n 0, 1) := by decide +kernel
theorem dX12_findPlaces_69 : decode cX12_findPlaces 69 = .ok (.iload_n 2, 1) := by decide +kernel
theorem dX12_findPlaces_70 : decode cX12_findPlaces 70 = .ok (.iconst 1, 1) := by decide +kernel
theorem dX12_findPlaces_71 : decode cX12_findPlaces 71 = .ok (.invokevirtual 104, 3) := by decide +kernel
theorem dX12_findPlaces_74 : decode cX12_findPlaces 74 = .ok (.ifCond .eq 32, 3) := by decide +kernel
theorem dX12_findPlaces_77 : decode cX12_findPlaces 77 = .ok (.aload_n 0, 1) := by decide +kernel
theorem dX12_findPlaces_78 : decode cX12_findPlaces 78 = .ok (.getfield 29, 3) := by decide +kernel
theorem dX12_findPlaces_81 : decode cX12_findPlaces 81 = .ok (.iload_n 1, 1) := by decide +kernel
theorem dX12_findPlaces_82 : decode cX12_findPlaces 82 = .ok (.aload_n 0, 1) := by decide +kernel
theorem dX12_findPlaces_83 : decode cX12_findPlaces 83 = .ok (.aload_n 0, 1) := by decide +kernel
theorem dX12_findPlaces_84 : decode cX12_findPlaces 84 = .ok (.iload_n 1, 1) := by decide +kernel
theorem dX12_findPlaces_85 : decode cX12_findPlaces 85 = .ok (.iconst 3, 1) := by decide +kernel
theorem dX12_findPlaces_86 : decode cX12_findPlaces 86 = .ok (.invokevirtual 127, 3) := by decide +kernel
theorem dX12_findPlaces_89 : decode cX12_findPlaces 89 = .ok (.i2l, 1) := by decide +kernel
theorem dX12_findPlaces_90 : decode cX12_findPlaces 90 = .ok (.invokevirtual 108, 3) := by decide +kernel
theorem dX12_findPlaces_93 : decode cX12_findPlaces 93 = .ok (.aload_n 0, 1) := by decide +kernel
theorem dX12_findPlaces_94 : decode cX12_findPlaces 94 = .ok (.getfield 78, 3) := by decide +kernel
theorem dX12_findPlaces_97 : decode cX12_findPlaces 97 = .ok (.aload_n 0, 1) := by decide +kernel
theorem dX12_findPlaces_98 : decode cX12_findPlaces 98 = .ok (.getfield 97, 3) := by decide +kernel
theorem dX12_findPlaces_101 : decode cX12_findPlaces 101 = .ok (.lmul, 1) := by decide +kernel
theorem dX12_findPlaces_102 : decode cX12_findPlaces 102 = .ok (.invokestatic 133, 3) := by decide +kernel
theorem dX12_findPlaces_105 : decode cX12_findPlaces 105 = .ok (.lastore, 1) := by decide +kernel
theorem dX12_findPlaces_106 : decode cX12_findPlaces 106 = .ok (.iinc 1 1, 3) := by decide +kernel
theorem dX12_findPlaces_109 : decode cX12_findPlaces 109 = .ok (.goto (-107), 3) := by decide +kernel
theorem dX12_findPlaces_112 : decode cX12_findPlaces 112 = .ok (.return_, 1) := by decide +kernel
set_option maxRecDepth 20000 in
theorem ggX12_findGroups_X12_findPlaces : GoodIn wsX12_findGroups wsX12_findPlaces := goodIn_sub (fw_c (fw_t (fw_l (fw_l (fw_t (fw_t (fw_t (fw_t (fw_t (fw_t (fw_t fw_h)))))))))) (fw_a (fw_a (fw_c (fw_t (fw_l (fw_l (fw_t fw_h)))) (fw_c (fw_t (fw_l (fw_l (fw_t (fw_t (fw_t (fw_t (fw_t (fw_t (fw_t (fw_t fw_h))))))))))) (fw_c (fw_t (fw_l (fw_l (fw_t (fw_t (fw_t (fw_t (fw_t (fw_t (fw_t (fw_t (fw_t fw_h)))))))))))) (fw_c (fw_t (fw_l (fw_l (fw_t (fw_t (fw_t (fw_t (fw_t (fw_t (fw_t (fw_t (fw_t (fw_t fw_h))))))))))))) (fw_c (fw_t (fw_l (fw_l (fw_t (fw_t (fw_t (fw_t (fw_t (fw_t (fw_t (fw_t (fw_t (fw_t (fw_t fw_h)))))))))))))) (fw_c (fw_t (fw_l (fw_l (fw_t (fw_t (fw_t (fw_t (fw_t (fw_t (fw_t (fw_t (fw_t (fw_t (fw_t (fw_t fw_h))))))))))))))) (fw_c (fw_t (fw_l (fw_l (fw_t (fw_t (fw_t (fw_t (fw_t (fw_t (fw_t (fw_t (fw_t (fw_t (fw_t (fw_t (fw_t fw_h)))))))))))))))) (fw_c (fw_t (fw_l (fw_l (fw_t (fw_t (fw_t (fw_t (fw_t (fw_t (fw_t (fw_t (fw_t (fw_t (fw_t (fw_t (fw_t (fw_t fw_h))))))))))))))))) (fw_c (fw_t (fw_l (fw_l (fw_t (fw_t (fw_t (fw_t (fw_t (fw_t (fw_t (fw_t (fw_t (fw_t (fw_t (fw_t (fw_t (fw_t (fw_t fw_h)))))))))))))))))) (fw_c (fw_t (fw_l (fw_l (fw_t (fw_t (fw_t (fw_t (fw_t (fw_t fw_h))))))))) (fw_c (fw_t (fw_l (fw_l (fw_t (fw_t (fw_t (fw_t (fw_t (fw_t (fw_t (fw_t (fw_t (fw_t (fw_t (fw_t (fw_t (fw_t (fw_t (fw_t fw_h))))))))))))))))))) (fw_c (fw_t (fw_l (fw_l (fw_t (fw_t (fw_t (fw_t (fw_t (fw_t (fw_t (fw_t (fw_t (fw_t (fw_t (fw_t (fw_t (fw_t (fw_t (fw_t (fw_t fw_h)))))))))))))))))))) (fw_c (fw_t (fw_l (fw_l (fw_t (fw_t (fw_t (fw_t (fw_t (fw_t (fw_t (fw_t (fw_t (fw_t (fw_t (fw_t (fw_t (fw_t (fw_t (fw_t (fw_t (fw_t fw_h))))))))))))))))))))) (fw_c (fw_t (fw_l (fw_l (fw_t (fw_t (fw_t (fw_t (fw_t (fw_t (fw_t (fw_t (fw_t (fw_t (fw_t (fw_t (fw_t (fw_t (fw_t (fw_t (fw_t (fw_t (fw_t fw_h)))))))))))))))))))))) (fw_c (fw_t (fw_l (fw_l (fw_t (fw_t (fw_t (fw_t (fw_t (fw_t (fw_t (fw_t (fw_t (fw_t (fw_t (fw_t (fw_t (fw_t (fw_t (fw_t (fw_t (fw_t (fw_t (fw_t fw_h))))))))))))))))))))))) (fw_c (fw_t (fw_l (fw_l (fw_t (fw_t (fw_t (fw_t (fw_t (fw_t (fw_t (fw_t (fw_t (fw_t (fw_t (fw_t (fw_t (fw_t (fw_t (fw_t (fw_t (fw_t (fw_t (fw_t (fw_t fw_h)))))))))))))))))))))))) (fw_c (fw_t (fw_l (fw_l (fw_t (fw_t (fw_t (fw_t (fw_t (fw_t (fw_t (fw_t (fw_t (fw_t (fw_t (fw_t (fw_t (fw_t (fw_t (fw_t (fw_t (fw_t (fw_t (fw_t (fw_t (fw_t fw_h))))))))))))))))))))))))) (fw_c (fw_t (fw_l (fw_l (fw_t (fw_t (fw_t (fw_t (fw_t (fw_t (fw_t (fw_t (fw_t (fw_t (fw_t (fw_t (fw_t (fw_t (fw_t (fw_t (fw_t (fw_t (fw_t (fw_t (fw_t (fw_t (fw_t fw_h)))))))))))))))))))))))))) (fw_c (fw_t (fw_l (fw_r fw_h))) (fw_c (fw_t (fw_l (fw_r (fw_t fw_h)))) (fw_c (fw_t (fw_l (fw_r (fw_t (fw_t fw_h))))) (fw_c (fw_t (fw_l (fw_r (fw_t (fw_t (fw_t fw_h)))))) (fw_c (fw_t (fw_l (fw_r (fw_t (fw_t (fw_t (fw_t fw_h))))))) (fw_c (fw_t (fw_l (fw_r (fw_t (fw_t (fw_t (fw_t (fw_t fw_h)))))))) fw_n)))))))))))))))))))))))) (fw_c (fw_t (fw_l (fw_r (fw_t (fw_t (fw_t (fw_t (fw_t (fw_t fw_h))))))))) (fw_c (fw_t (fw_l (fw_r (fw_t (fw_t (fw_t (fw_t (fw_t (fw_t (fw_t fw_h)))))))))) (fw_c (fw_t (fw_l (fw_r (fw_t (fw_t (fw_t (fw_t (fw_t (fw_t (fw_t (fw_t fw_h))))))))))) (fw_c (fw_t (fw_l (fw_r (fw_t (fw_t (fw_t (fw_t (fw_t (fw_t (fw_t (fw_t (fw_t fw_h)))))))))))) (fw_c (fw_t (fw_l (fw_r (fw_t (fw_t (fw_t (fw_t (fw_t (fw_t (fw_t (fw_t (fw_t (fw_t fw_h))))))))))))) (fw_c (fw_t (fw_l (fw_r (fw_t (fw_t (fw_t (fw_t (fw_t (fw_t (fw_t (fw_t (fw_t (fw_t (fw_t fw_h)))))))))))))) (fw_c (fw_t (fw_l (fw_r (fw_t (fw_t (fw_t (fw_t (fw_t (fw_t (fw_t (fw_t (fw_t (fw_t (fw_t (fw_t fw_h))))))))))))))) (fw_c (fw_t (fw_l (fw_r (fw_t (fw_t (fw_t (fw_t (fw_t (fw_t (fw_t (fw_t (fw_t (fw_t (fw_t (fw_t (fw_t fw_h)))))))))))))))) fw_n))))))))) (fun _ h => fw_t (fw_r h)))) (by decide +kernel)
set_option maxRecDepth 20000 in
theorem gX12_findGroups_X12_findPlaces : GoodIn wsX12_findGroups (wsV RX12 136 RX12 yX12_findPlaces wsX12_findPlaces) := goodIn_app (goodIn_sub (fw_c (fw_t (fw_l (fw_l (fw_t (fw_t (fw_t fw_h)))))) (fw_c (fw_t (fw_l (fw_l (fw_t (fw_t (fw_t (fw_t fw_h))))))) (fw_c (fw_t (fw_l (fw_l (fw_t (fw_t (fw_t (fw_t (fw_t fw_h)))))))) (fw_c (fw_t (fw_l (fw_l (fw_t (fw_t (fw_t (fw_t (fw_t (fw_t fw_h))))))))) fw_n)))) (by decide +kernel)) ggX12_findGroups_X12_findPlaces
set_option maxRecDepth 20000 in
theorem ggX12_findGroups_X12_spreads : GoodIn wsX12_findGroups wsX12_spreads := goodIn_sub (fw_c (fw_t (fw_l (fw_r (fw_t (fw_t (fw_t (fw_t (fw_t (fw_t (fw_t (fw_t (fw_t (fw_t (fw_t (fw_t (fw_t (fw_t (fw_t (fw_t (fw_t fw_h)))))))))))))))))))) (fw_a (fw_c (fw_t (fw_l (fw_l (fw_t fw_h)))) (fw_c (fw_t (fw_l (fw_l (fw_t (fw_t fw_h))))) (fw_c (fw_t (fw_l (fw_r (fw_t (fw_t (fw_t (fw_t (fw_t (fw_t (fw_t (fw_t (fw_t (fw_t (fw_t (fw_t (fw_t (fw_t (fw_t (fw_t (fw_t (fw_t fw_h))))))))))))))))))))) (fw_c (fw_t (fw_l (fw_r (fw_t (fw_t (fw_t (fw_t (fw_t (fw_t (fw_t (fw_t (fw_t (fw_t (fw_t (fw_t (fw_t (fw_t (fw_t (fw_t (fw_t (fw_t (fw_t fw_h)))))))))))))))))))))) (fw_c (fw_t (fw_l (fw_r (fw_t (fw_t (fw_t (fw_t (fw_t (fw_t (fw_t (fw_t (fw_t (fw_t (fw_t (fw_t (fw_t (fw_t (fw_t (fw_t (fw_t (fw_t (fw_t (fw_t fw_h))))))))))))))))))))))) (fw_c (fw_t (fw_l (fw_l (fw_t (fw_t (fw_t (fw_t (fw_t (fw_t fw_h))))))))) (fw_c (fw_t (fw_l (fw_r (fw_t (fw_t (fw_t (fw_t (fw_t (fw_t (fw_t (fw_t (fw_t (fw_t (fw_t (fw_t (fw_t (fw_t (fw_t (fw_t (fw_t (fw_t (fw_t (fw_t (fw_t fw_h)))))))))))))))))))))))) (fw_c (fw_t (fw_l (fw_l (fw_t (fw_t (fw_t (fw_t (fw_t (fw_t (fw_t (fw_t fw_h))))))))))) (fw_c (fw_t (fw_l (fw_l (fw_t (fw_t (fw_t (fw_t (fw_t (fw_t (fw_t (fw_t (fw_t fw_h)))))))))))) (fw_c (fw_t (fw_l (fw_l (fw_t (fw_t (fw_t (fw_t (fw_t (fw_t (fw_t (fw_t (fw_t (fw_t (fw_t (fw_t fw_h))))))))))))))) (fw_c (fw_t (fw_l (fw_l (fw_t (fw_t (fw_t (fw_t (fw_t (fw_t (fw_t (fw_t (fw_t (fw_t (fw_t (fw_t (fw_t fw_h)))))))))))))))) (fw_c (fw_t (fw_l (fw_l (fw_t (fw_t (fw_t (fw_t (fw_t (fw_t (fw_t (fw_t (fw_t (fw_t (fw_t (fw_t (fw_t (fw_t fw_h))))))))))))))))) (fw_c (fw_t (fw_l (fw_l (fw_t (fw_t (fw_t (fw_t (fw_t (fw_t (fw_t (fw_t (fw_t (fw_t (fw_t (fw_t (fw_t (fw_t (fw_t fw_h)))))))))))))))))) (fw_c (fw_t (fw_l (fw_l (fw_t (fw_t (fw_t (fw_t (fw_t (fw_t (fw_t (fw_t (fw_t (fw_t (fw_t (fw_t (fw_t (fw_t (fw_t (fw_t fw_h))))))))))))))))))) fw_n)))))))))))))) (fun _ h => fw_t (fw_r h)))) (by decide +kernel)
set_option maxRecDepth 20000 in
theorem gX12_findGroups_X12_spreads : GoodIn wsX12_findGroups (wsV RX12 142 RX12 yX12_spreads wsX12_spreads) := goodIn_app (goodIn_sub (fw_c (fw_t (fw_l (fw_r (fw_t (fw_t (fw_t (fw_t (fw_t (fw_t (fw_t (fw_t (fw_t (fw_t (fw_t (fw_t (fw_t (fw_t fw_h))))))))))))))))) (fw_c (fw_t (fw_l (fw_r (fw_t (fw_t (fw_t (fw_t (fw_t (fw_t (fw_t (fw_t (fw_t (fw_t (fw_t (fw_t (fw_t (fw_t (fw_t fw_h)))))))))))))))))) (fw_c (fw_t (fw_l (fw_r (fw_t (fw_t (fw_t (fw_t (fw_t (fw_t (fw_t (fw_t (fw_t (fw_t (fw_t (fw_t (fw_t (fw_t (fw_t (fw_t fw_h))))))))))))))))))) (fw_c (fw_t (fw_l (fw_l (fw_t (fw_t (fw_t (fw_t (fw_t (fw_t fw_h))))))))) fw_n)))) (by decide +kernel)) ggX12_findGroups_X12_spreads
theorem dX12_findGroups_0 : decode cX12_findGroups 0 = .ok (.aload_n 0, 1) := by decide +kernel
theorem dX12_findGroups_1 : decode cX12_findGroups 1 = .ok (.invokevirtual 136, 3) := by decide +kernel
theorem dX12_findGroups_4 : decode cX12_findGroups 4 = .ok (.aload_n 0, 1) := by decide +kernel
theorem dX12_findGroups_5 : decode cX12_findGroups 5 = .ok (.iconst 0, 1) := by decide +kernel
theorem dX12_findGroups_6 : decode cX12_findGroups 6 = .ok (.putfield 139, 3) := by decide +kernel
theorem dX12_findGroups_9 : decode cX12_findGroups 9 = .ok (.iconst 0, 1) := by decide +kernel
theorem dX12_findGroups_10 : decode cX12_findGroups 10 = .ok (.istore_n 1, 1) := by decide +kernel
theorem dX12_findGroups_11 : decode cX12_findGroups 11 = .ok (.iload_n 1, 1) := by decide +kernel
theorem dX12_findGroups_12 : decode cX12_findGroups 12 = .ok (.aload_n 0, 1) := by decide +kernel
theorem dX12_findGroups_13 : decode cX12_findGroups 13 = .ok (.getfield 9, 3) := by decide +kernel
theorem dX12_findGroups_16 : decode cX12_findGroups 16 = .ok (.iconst 1, 1) := by decide +kernel
theorem dX12_findGroups_17 : decode cX12_findGroups 17 = .ok (.iaload, 1) := by decide +kernel
theorem dX12_findGroups_18 : decode cX12_findGroups 18 = .ok (.if_icmp .ge 16, 3) := by decide +kernel
theorem dX12_findGroups_21 : decode cX12_findGroups 21 = .ok (.aload_n 0, 1) := by decide +kernel
theorem dX12_findGroups_22 : decode cX12_findGroups 22 = .ok (.getfield 35, 3) := by decide +kernel
theorem dX12_findGroups_25 : decode cX12_findGroups 25 = .ok (.iload_n 1, 1) := by decide +kernel
theorem dX12_findGroups_26 : decode cX12_findGroups 26 = .ok (.iconst (-1), 1) := by decide +kernel
theorem dX12_findGroups_27 : decode cX12_findGroups 27 = .ok (.iastore, 1) := by decide +kernel
theorem dX12_findGroups_28 : decode cX12_findGroups 28 = .ok (.iinc 1 1, 3) := by decide +kernel
theorem dX12_findGroups_31 : decode cX12_findGroups 31 = .ok (.goto (-20), 3) := by decide +kernel
theorem dX12_findGroups_34 : decode cX12_findGroups 34 = .ok (.iconst 0, 1) := by decide +kernel
theorem dX12_findGroups_35 : decode cX12_findGroups 35 = .ok (.istore_n 1, 1) := by decide +kernel
theorem dX12_findGroups_36 : decode cX12_findGroups 36 = .ok (.iload_n 1, 1) := by decide +kernel
theorem dX12_findGroups_37 : decode cX12_findGroups 37 = .ok (.aload_n 0, 1) := by decide +kernel
theorem dX12_findGroups_38 : decode cX12_findGroups 38 = .ok (.getfield 9, 3) := by decide +kernel
theorem dX12_findGroups_41 : decode cX12_findGroups 41 = .ok (.iconst 1, 1) := by decide +kernel
theorem dX12_findGroups_42 : decode cX12_findGroups 42 = .ok (.iaload, 1) := by decide +kernel
theorem dX12_findGroups_43 : decode cX12_findGroups 43 = .ok (.if_icmp .ge 49, 3) := by decide +kernel
theorem dX12_findGroups_46 : decode cX12_findGroups 46 = .ok (.aload_n 0, 1) := by decide +kernel
theorem dX12_findGroups_47 : decode cX12_findGroups 47 = .ok (.getfield 35, 3) := by decide +kernel
theorem dX12_findGroups_50 : decode cX12_findGroups 50 = .ok (.iload_n 1, 1) := by decide +kernel
theorem dX12_findGroups_51 : decode cX12_findGroups 51 = .ok (.iaload, 1) := by decide +kernel
theorem dX12_findGroups_52 : decode cX12_findGroups 52 = .ok (.ifCond .lt 6, 3) := by decide +kernel
theorem dX12_findGroups_55 : decode cX12_findGroups 55 = .ok (.goto 31, 3) := by decide +kernel
theorem dX12_findGroups_58 : decode cX12_findGroups 58 = .ok (.aload_n 0, 1) := by decide +kernel
theorem dX12_findGroups_59 : decode cX12_findGroups 59 = .ok (.getfield 35, 3) := by decide +kernel
theorem dX12_findGroups_62 : decode cX12_findGroups 62 = .ok (.iload_n 1, 1) := by decide +kernel
theorem dX12_findGroups_63 : decode cX12_findGroups 63 = .ok (.aload_n 0, 1) := by decide +kernel
theorem dX12_findGroups_64 : decode cX12_findGroups 64 = .ok (.getfield 139, 3) := by decide +kernel
theorem dX12_findGroups_67 : decode cX12_findGroups 67 = .ok (.iastore, 1) := by decide +kernel
theorem dX12_findGroups_68 : decode cX12_findGroups 68 = .ok (.aload_n 0, 1) := by decide +kernel
theorem dX12_findGroups_69 : decode cX12_findGroups 69 = .ok (.aload_n 0, 1) := by decide +kernel
theorem dX12_findGroups_70 : decode cX12_findGroups 70 = .ok (.getfield 139, 3) := by decide +kernel
theorem dX12_findGroups_73 : decode cX12_findGroups 73 = .ok (.invokevirtual 142, 3) := by decide +kernel
theorem dX12_findGroups_76 : decode cX12_findGroups 76 = .ok (.aload_n 0, 1) := by decide +kernel
theorem dX12_findGroups_77 : decode cX12_findGroups 77 = .ok (.dup, 1) := by decide +kernel
theorem dX12_findGroups_78 : decode cX12_findGroups 78 = .ok (.getfield 139, 3) := by decide +kernel
theorem dX12_findGroups_81 : decode cX12_findGroups 81 = .ok (.iconst 1, 1) := by decide +kernel
theorem dX12_findGroups_82 : decode cX12_findGroups 82 = .ok (.iadd, 1) := by decide +kernel
theorem dX12_findGroups_83 : decode cX12_findGroups 83 = .ok (.putfield 139, 3) := by decide +kernel
theorem dX12_findGroups_86 : decode cX12_findGroups 86 = .ok (.iinc 1 1, 3) := by decide +kernel
theorem dX12_findGroups_89 : decode cX12_findGroups 89 = .ok (.goto (-53), 3) := by decide +kernel
theorem dX12_findGroups_92 : decode cX12_findGroups 92 = .ok (.return_, 1) := by decide +kernel
set_option maxRecDepth 20000 in
theorem ggX12_spreads_X12_doAgree : GoodIn wsX12_spreads wsX12_doAgree := goodIn_sub (fw_c (fw_t (fw_l (fw_t (fw_t (fw_t (fw_t (fw_t (fw_t fw_h)))))))) (fw_a (fw_c (fw_t (fw_l (fw_t (fw_t (fw_t (fw_t (fw_t (fw_t (fw_t fw_h))))))))) (fw_c (fw_t (fw_l (fw_t (fw_t (fw_t (fw_t (fw_t (fw_t (fw_t (fw_t fw_h)))))))))) (fw_c (fw_t (fw_l (fw_t (fw_t (fw_t (fw_t (fw_t (fw_t (fw_t (fw_t (fw_t fw_h))))))))))) (fw_c (fw_t (fw_l (fw_t (fw_t (fw_t (fw_t (fw_t (fw_t (fw_t (fw_t (fw_t (fw_t fw_h)))))))))))) (fw_c (fw_t (fw_l (fw_t (fw_t (fw_t (fw_t (fw_t (fw_t (fw_t (fw_t (fw_t (fw_t (fw_t fw_h))))))))))))) (fw_c (fw_t (fw_l (fw_t (fw_t (fw_t (fw_t (fw_t (fw_t (fw_t (fw_t (fw_t (fw_t (fw_t (fw_t fw_h)))))))))))))) (fw_c (fw_t (fw_l (fw_t (fw_t (fw_t (fw_t (fw_t fw_h))))))) (fw_c (fw_t (fw_l (fw_t (fw_t (fw_t (fw_t (fw_t (fw_t (fw_t (fw_t (fw_t (fw_t (fw_t (fw_t (fw_t fw_h))))))))))))))) (fw_c (fw_t (fw_l fw_h)) fw_n))))))))) (fun _ h => fw_t (fw_r h)))) (by decide +kernel)
set_option maxRecDepth 20000 in
theorem gX12_spreads_X12_doAgree : GoodIn wsX12_spreads (wsV RX12 146 RX12 yX12_doAgree wsX12_doAgree) := goodIn_app (goodIn_sub (fw_c (fw_t (fw_l (fw_t (fw_t fw_h)))) (fw_c (fw_t (fw_l (fw_t (fw_t (fw_t fw_h))))) (fw_c (fw_t (fw_l (fw_t (fw_t (fw_t (fw_t fw_h)))))) (fw_c (fw_t (fw_l (fw_t (fw_t (fw_t (fw_t (fw_t fw_h))))))) fw_n)))) (by decide +kernel)) ggX12_spreads_X12_doAgree
theorem dX12_spreads_0 : decode cX12_spreads 0 = .ok (.iconst 1, 1) := by decide +kernel
theorem dX12_spreads_1 : decode cX12_spreads 1 = .ok (.istore_n 2, 1) := by decide +kernel
theorem dX12_spreads_2 : decode cX12_spreads 2 = .ok (.iload_n 2, 1) := by decide +kernel
theorem dX12_spreads_3 : decode cX12_spreads 3 = .ok (.ifCond .eq 89, 3) := by decide +kernel
theorem dX12_spreads_6 : decode cX12_spreads 6 = .ok (.iconst 0, 1) := by decide +kernel
theorem dX12_spreads_7 : decode cX12_spreads 7 = .ok (.istore_n 2, 1) := by decide +kernel
theorem dX12_spreads_8 : decode cX12_spreads 8 = .ok (.iconst 0, 1) := by decide +kernel
theorem dX12_spreads_9 : decode cX12_spreads 9 = .ok (.istore_n 3, 1) := by decide +kernel
theorem dX12_spreads_10 : decode cX12_spreads 10 = .ok (.iload_n 3, 1) := by decide +kernel
theorem dX12_spreads_11 : decode cX12_spreads 11 = .ok (.aload_n 0, 1) := by decide +kernel
theorem dX12_spreads_12 : decode cX12_spreads 12 = .ok (.getfield 9, 3) := by decide +kernel
theorem dX12_spreads_15 : decode cX12_spreads 15 = .ok (.iconst 1, 1) := by decide +kernel
theorem dX12_spreads_16 : decode cX12_spreads 16 = .ok (.iaload, 1) := by decide +kernel
theorem dX12_spreads_17 : decode cX12_spreads 17 = .ok (.if_icmp .ge 72, 3) := by decide +kernel
theorem dX12_spreads_20 : decode cX12_spreads 20 = .ok (.iconst 0, 1) := by decide +kernel
theorem dX12_spreads_21 : decode cX12_spreads 21 = .ok (.istore 4, 2) := by decide +kernel
theorem dX12_spreads_23 : decode cX12_spreads 23 = .ok (.iload 4, 2) := by decide +kernel
theorem dX12_spreads_25 : decode cX12_spreads 25 = .ok (.aload_n 0, 1) := by decide +kernel
theorem dX12_spreads_26 : decode cX12_spreads 26 = .ok (.getfield 9, 3) := by decide +kernel
theorem dX12_spreads_29 : decode cX12_spreads 29 = .ok (.iconst 1, 1) := by decide +kernel
theorem dX12_spreads_30 : decode cX12_spreads 30 = .ok (.iaload, 1) := by decide +kernel
theorem dX12_spreads_31 : decode cX12_spreads 31 = .ok (.if_icmp .ge 52, 3) := by decide +kernel
theorem dX12_spreads_34 : decode cX12_spreads 34 = .ok (.aload_n 0, 1) := by decide +kernel
theorem dX12_spreads_35 : decode cX12_spreads 35 = .ok (.getfield 35, 3) := by decide +kernel
theorem dX12_spreads_38 : decode cX12_spreads 38 = .ok (.iload_n 3, 1) := by decide +kernel
theorem dX12_spreads_39 : decode cX12_spreads 39 = .ok (.iaload, 1) := by decide +kernel
theorem dX12_spreads_40 : decode cX12_spreads 40 = .ok (.iload_n 1, 1) := by decide +kernel
theorem dX12_spreads_41 : decode cX12_spreads 41 = .ok (.if_icmp .ne 36, 3) := by decide +kernel
theorem dX12_spreads_44 : decode cX12_spreads 44 = .ok (.aload_n 0, 1) := by decide +kernel
theorem dX12_spreads_45 : decode cX12_spreads 45 = .ok (.getfield 35, 3) := by decide +kernel
theorem dX12_spreads_48 : decode cX12_spreads 48 = .ok (.iload 4, 2) := by decide +kernel
theorem dX12_spreads_50 : decode cX12_spreads 50 = .ok (.iaload, 1) := by decide +kernel
