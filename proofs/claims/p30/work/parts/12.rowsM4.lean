theorem dX12_put_49 : decode cX12_put 49 = .ok (.ldc2_w 76, 3) := by decide +kernel
theorem dX12_put_52 : decode cX12_put 52 = .ok (.invokevirtual 56, 3) := by decide +kernel
theorem dX12_put_55 : decode cX12_put 55 = .ok (.lreturn, 1) := by decide +kernel
theorem dX12_put_56 : decode cX12_put 56 = .ok (.aload_n 0, 1) := by decide +kernel
theorem dX12_put_57 : decode cX12_put 57 = .ok (.getfield 22, 3) := by decide +kernel
theorem dX12_put_60 : decode cX12_put 60 = .ok (.bipush 16, 2) := by decide +kernel
theorem dX12_put_62 : decode cX12_put 62 = .ok (.iload_n 1, 1) := by decide +kernel
theorem dX12_put_63 : decode cX12_put 63 = .ok (.imul, 1) := by decide +kernel
theorem dX12_put_64 : decode cX12_put 64 = .ok (.iload_n 2, 1) := by decide +kernel
theorem dX12_put_65 : decode cX12_put 65 = .ok (.iadd, 1) := by decide +kernel
theorem dX12_put_66 : decode cX12_put 66 = .ok (.aload_n 0, 1) := by decide +kernel
theorem dX12_put_67 : decode cX12_put 67 = .ok (.getfield 16, 3) := by decide +kernel
theorem dX12_put_70 : decode cX12_put 70 = .ok (.iload_n 1, 1) := by decide +kernel
theorem dX12_put_71 : decode cX12_put 71 = .ok (.iaload, 1) := by decide +kernel
theorem dX12_put_72 : decode cX12_put 72 = .ok (.bipush 8, 2) := by decide +kernel
theorem dX12_put_74 : decode cX12_put 74 = .ok (.if_icmp .ne 8, 3) := by decide +kernel
theorem dX12_put_77 : decode cX12_put 77 = .ok (.iload_n 3, 1) := by decide +kernel
theorem dX12_put_78 : decode cX12_put 78 = .ok (.i2b, 1) := by decide +kernel
theorem dX12_put_79 : decode cX12_put 79 = .ok (.goto 20, 3) := by decide +kernel
theorem dX12_put_82 : decode cX12_put 82 = .ok (.aload_n 0, 1) := by decide +kernel
theorem dX12_put_83 : decode cX12_put 83 = .ok (.getfield 16, 3) := by decide +kernel
theorem dX12_put_86 : decode cX12_put 86 = .ok (.iload_n 1, 1) := by decide +kernel
theorem dX12_put_87 : decode cX12_put 87 = .ok (.iaload, 1) := by decide +kernel
theorem dX12_put_88 : decode cX12_put 88 = .ok (.bipush 16, 2) := by decide +kernel
theorem dX12_put_90 : decode cX12_put 90 = .ok (.if_icmp .ne 8, 3) := by decide +kernel
theorem dX12_put_93 : decode cX12_put 93 = .ok (.iload_n 3, 1) := by decide +kernel
theorem dX12_put_94 : decode cX12_put 94 = .ok (.i2s, 1) := by decide +kernel
theorem dX12_put_95 : decode cX12_put 95 = .ok (.goto 4, 3) := by decide +kernel
theorem dX12_put_98 : decode cX12_put 98 = .ok (.iload_n 3, 1) := by decide +kernel
theorem dX12_put_99 : decode cX12_put 99 = .ok (.iastore, 1) := by decide +kernel
theorem dX12_put_100 : decode cX12_put 100 = .ok (.lconst 0, 1) := by decide +kernel
theorem dX12_put_101 : decode cX12_put 101 = .ok (.lreturn, 1) := by decide +kernel
set_option maxRecDepth 20000 in
theorem ggX12_copy_X12_isSheet : GoodIn wsX12_copy wsX12_isSheet := goodIn_sub (fw_c (fw_t (fw_l (fw_t (fw_t (fw_t (fw_t (fw_t (fw_t (fw_t (fw_t (fw_t (fw_t fw_h)))))))))))) (fw_c (fw_t (fw_l (fw_t (fw_t (fw_t (fw_t (fw_t (fw_t (fw_t (fw_t (fw_t (fw_t (fw_t fw_h))))))))))))) (fw_c (fw_t (fw_l (fw_t (fw_t (fw_t (fw_t (fw_t (fw_t (fw_t (fw_t (fw_t (fw_t (fw_t (fw_t fw_h)))))))))))))) (fw_c (fw_t (fw_l (fw_t (fw_t (fw_t (fw_t (fw_t (fw_t (fw_t (fw_t (fw_t fw_h))))))))))) (fw_c (fw_t (fw_l (fw_t (fw_t (fw_t (fw_t (fw_t (fw_t (fw_t (fw_t (fw_t (fw_t (fw_t (fw_t (fw_t fw_h))))))))))))))) fw_n))))) (by decide +kernel)
set_option maxRecDepth 20000 in
theorem gX12_copy_X12_isSheet : GoodIn wsX12_copy (va_wsS RX12 194 yX12_isSheet wsX12_isSheet) := goodIn_app (goodIn_sub (fw_c (fw_t (fw_l (fw_t (fw_t (fw_t (fw_t (fw_t (fw_t (fw_t fw_h))))))))) (fw_c (fw_t (fw_l (fw_t (fw_t (fw_t (fw_t (fw_t (fw_t (fw_t (fw_t fw_h)))))))))) (fw_c (fw_t (fw_l (fw_t (fw_t (fw_t (fw_t (fw_t (fw_t (fw_t (fw_t (fw_t fw_h))))))))))) fw_n))) (by decide +kernel)) ggX12_copy_X12_isSheet
set_option maxRecDepth 20000 in
theorem ggX12_copy_X12_finds : GoodIn wsX12_copy wsX12_finds := goodIn_sub (fw_c (fw_t (fw_l (fw_t (fw_t (fw_t (fw_t (fw_t (fw_t (fw_t (fw_t (fw_t (fw_t (fw_t (fw_t (fw_t (fw_t (fw_t (fw_t (fw_t fw_h))))))))))))))))))) (fw_a (fw_c (fw_t (fw_l (fw_t (fw_t (fw_t (fw_t (fw_t (fw_t (fw_t (fw_t (fw_t (fw_t (fw_t (fw_t (fw_t (fw_t (fw_t (fw_t (fw_t (fw_t fw_h)))))))))))))))))))) fw_n) (fun _ h => fw_t (fw_r h)))) (by decide +kernel)
set_option maxRecDepth 20000 in
theorem gX12_copy_X12_finds : GoodIn wsX12_copy (wsV RX12 56 RX12 yX12_finds wsX12_finds) := goodIn_app (goodIn_sub (fw_c (fw_t (fw_l (fw_t (fw_t (fw_t (fw_t (fw_t (fw_t (fw_t (fw_t (fw_t (fw_t (fw_t (fw_t (fw_t (fw_t fw_h)))))))))))))))) (fw_c (fw_t (fw_l (fw_t (fw_t (fw_t (fw_t (fw_t (fw_t (fw_t (fw_t (fw_t (fw_t (fw_t (fw_t (fw_t (fw_t (fw_t fw_h))))))))))))))))) (fw_c (fw_t (fw_l (fw_t (fw_t (fw_t (fw_t (fw_t (fw_t (fw_t (fw_t (fw_t (fw_t (fw_t (fw_t (fw_t (fw_t (fw_t (fw_t fw_h)))))))))))))))))) (fw_c (fw_t (fw_l (fw_t (fw_t (fw_t (fw_t (fw_t (fw_t (fw_t (fw_t (fw_t fw_h))))))))))) fw_n)))) (by decide +kernel)) ggX12_copy_X12_finds
theorem dX12_copy_0 : decode cX12_copy 0 = .ok (.iload_n 1, 1) := by decide +kernel
theorem dX12_copy_1 : decode cX12_copy 1 = .ok (.invokestatic 194, 3) := by decide +kernel
theorem dX12_copy_4 : decode cX12_copy 4 = .ok (.ifCond .eq 10, 3) := by decide +kernel
theorem dX12_copy_7 : decode cX12_copy 7 = .ok (.iload_n 3, 1) := by decide +kernel
theorem dX12_copy_8 : decode cX12_copy 8 = .ok (.invokestatic 194, 3) := by decide +kernel
theorem dX12_copy_11 : decode cX12_copy 11 = .ok (.ifCond .ne 11, 3) := by decide +kernel
theorem dX12_copy_14 : decode cX12_copy 14 = .ok (.aload_n 0, 1) := by decide +kernel
theorem dX12_copy_15 : decode cX12_copy 15 = .ok (.ldc2_w 76, 3) := by decide +kernel
theorem dX12_copy_18 : decode cX12_copy 18 = .ok (.invokevirtual 56, 3) := by decide +kernel
theorem dX12_copy_21 : decode cX12_copy 21 = .ok (.lreturn, 1) := by decide +kernel
theorem dX12_copy_22 : decode cX12_copy 22 = .ok (.aload_n 0, 1) := by decide +kernel
theorem dX12_copy_23 : decode cX12_copy 23 = .ok (.getfield 16, 3) := by decide +kernel
theorem dX12_copy_26 : decode cX12_copy 26 = .ok (.iload_n 1, 1) := by decide +kernel
theorem dX12_copy_27 : decode cX12_copy 27 = .ok (.iaload, 1) := by decide +kernel
theorem dX12_copy_28 : decode cX12_copy 28 = .ok (.ifCond .eq 12, 3) := by decide +kernel
theorem dX12_copy_31 : decode cX12_copy 31 = .ok (.aload_n 0, 1) := by decide +kernel
theorem dX12_copy_32 : decode cX12_copy 32 = .ok (.getfield 16, 3) := by decide +kernel
theorem dX12_copy_35 : decode cX12_copy 35 = .ok (.iload_n 3, 1) := by decide +kernel
theorem dX12_copy_36 : decode cX12_copy 36 = .ok (.iaload, 1) := by decide +kernel
theorem dX12_copy_37 : decode cX12_copy 37 = .ok (.ifCond .ne 11, 3) := by decide +kernel
theorem dX12_copy_40 : decode cX12_copy 40 = .ok (.aload_n 0, 1) := by decide +kernel
theorem dX12_copy_41 : decode cX12_copy 41 = .ok (.ldc2_w 199, 3) := by decide +kernel
theorem dX12_copy_44 : decode cX12_copy 44 = .ok (.invokevirtual 56, 3) := by decide +kernel
theorem dX12_copy_47 : decode cX12_copy 47 = .ok (.lreturn, 1) := by decide +kernel
theorem dX12_copy_48 : decode cX12_copy 48 = .ok (.aload_n 0, 1) := by decide +kernel
theorem dX12_copy_49 : decode cX12_copy 49 = .ok (.getfield 16, 3) := by decide +kernel
theorem dX12_copy_52 : decode cX12_copy 52 = .ok (.iload_n 1, 1) := by decide +kernel
theorem dX12_copy_53 : decode cX12_copy 53 = .ok (.iaload, 1) := by decide +kernel
theorem dX12_copy_54 : decode cX12_copy 54 = .ok (.aload_n 0, 1) := by decide +kernel
theorem dX12_copy_55 : decode cX12_copy 55 = .ok (.getfield 16, 3) := by decide +kernel
theorem dX12_copy_58 : decode cX12_copy 58 = .ok (.iload_n 3, 1) := by decide +kernel
theorem dX12_copy_59 : decode cX12_copy 59 = .ok (.iaload, 1) := by decide +kernel
theorem dX12_copy_60 : decode cX12_copy 60 = .ok (.if_icmp .eq 11, 3) := by decide +kernel
theorem dX12_copy_63 : decode cX12_copy 63 = .ok (.aload_n 0, 1) := by decide +kernel
theorem dX12_copy_64 : decode cX12_copy 64 = .ok (.ldc2_w 131, 3) := by decide +kernel
theorem dX12_copy_67 : decode cX12_copy 67 = .ok (.invokevirtual 56, 3) := by decide +kernel
theorem dX12_copy_70 : decode cX12_copy 70 = .ok (.lreturn, 1) := by decide +kernel
theorem dX12_copy_71 : decode cX12_copy 71 = .ok (.iload_n 2, 1) := by decide +kernel
theorem dX12_copy_72 : decode cX12_copy 72 = .ok (.ifCond .lt 48, 3) := by decide +kernel
theorem dX12_copy_75 : decode cX12_copy 75 = .ok (.iload 4, 2) := by decide +kernel
theorem dX12_copy_77 : decode cX12_copy 77 = .ok (.ifCond .lt 43, 3) := by decide +kernel
theorem dX12_copy_80 : decode cX12_copy 80 = .ok (.iload 5, 2) := by decide +kernel
theorem dX12_copy_82 : decode cX12_copy 82 = .ok (.ifCond .lt 38, 3) := by decide +kernel
theorem dX12_copy_85 : decode cX12_copy 85 = .ok (.iload_n 2, 1) := by decide +kernel
theorem dX12_copy_86 : decode cX12_copy 86 = .ok (.i2l, 1) := by decide +kernel
theorem dX12_copy_87 : decode cX12_copy 87 = .ok (.iload 5, 2) := by decide +kernel
theorem dX12_copy_89 : decode cX12_copy 89 = .ok (.i2l, 1) := by decide +kernel
theorem dX12_copy_90 : decode cX12_copy 90 = .ok (.ladd, 1) := by decide +kernel
theorem dX12_copy_91 : decode cX12_copy 91 = .ok (.aload_n 0, 1) := by decide +kernel
theorem dX12_copy_92 : decode cX12_copy 92 = .ok (.getfield 19, 3) := by decide +kernel
theorem dX12_copy_95 : decode cX12_copy 95 = .ok (.iload_n 1, 1) := by decide +kernel
theorem dX12_copy_96 : decode cX12_copy 96 = .ok (.iaload, 1) := by decide +kernel
theorem dX12_copy_97 : decode cX12_copy 97 = .ok (.i2l, 1) := by decide +kernel
theorem dX12_copy_98 : decode cX12_copy 98 = .ok (.lcmp, 1) := by decide +kernel
theorem dX12_copy_99 : decode cX12_copy 99 = .ok (.ifCond .gt 21, 3) := by decide +kernel
theorem dX12_copy_102 : decode cX12_copy 102 = .ok (.iload 4, 2) := by decide +kernel
theorem dX12_copy_104 : decode cX12_copy 104 = .ok (.i2l, 1) := by decide +kernel
theorem dX12_copy_105 : decode cX12_copy 105 = .ok (.iload 5, 2) := by decide +kernel
theorem dX12_copy_107 : decode cX12_copy 107 = .ok (.i2l, 1) := by decide +kernel
theorem dX12_copy_108 : decode cX12_copy 108 = .ok (.ladd, 1) := by decide +kernel
theorem dX12_copy_109 : decode cX12_copy 109 = .ok (.aload_n 0, 1) := by decide +kernel
theorem dX12_copy_110 : decode cX12_copy 110 = .ok (.getfield 19, 3) := by decide +kernel
theorem dX12_copy_113 : decode cX12_copy 113 = .ok (.iload_n 3, 1) := by decide +kernel
theorem dX12_copy_114 : decode cX12_copy 114 = .ok (.iaload, 1) := by decide +kernel
theorem dX12_copy_115 : decode cX12_copy 115 = .ok (.i2l, 1) := by decide +kernel
theorem dX12_copy_116 : decode cX12_copy 116 = .ok (.lcmp, 1) := by decide +kernel
theorem dX12_copy_117 : decode cX12_copy 117 = .ok (.ifCond .le 11, 3) := by decide +kernel
theorem dX12_copy_120 : decode cX12_copy 120 = .ok (.aload_n 0, 1) := by decide +kernel
theorem dX12_copy_121 : decode cX12_copy 121 = .ok (.ldc2_w 76, 3) := by decide +kernel
theorem dX12_copy_124 : decode cX12_copy 124 = .ok (.invokevirtual 56, 3) := by decide +kernel
theorem dX12_copy_127 : decode cX12_copy 127 = .ok (.lreturn, 1) := by decide +kernel
theorem dX12_copy_128 : decode cX12_copy 128 = .ok (.iconst 0, 1) := by decide +kernel
theorem dX12_copy_129 : decode cX12_copy 129 = .ok (.istore 6, 2) := by decide +kernel
theorem dX12_copy_131 : decode cX12_copy 131 = .ok (.iload 6, 2) := by decide +kernel
theorem dX12_copy_133 : decode cX12_copy 133 = .ok (.iload 5, 2) := by decide +kernel
theorem dX12_copy_135 : decode cX12_copy 135 = .ok (.if_icmp .ge 30, 3) := by decide +kernel
theorem dX12_copy_138 : decode cX12_copy 138 = .ok (.aload_n 0, 1) := by decide +kernel
theorem dX12_copy_139 : decode cX12_copy 139 = .ok (.getfield 41, 3) := by decide +kernel
theorem dX12_copy_142 : decode cX12_copy 142 = .ok (.iload 6, 2) := by decide +kernel
theorem dX12_copy_144 : decode cX12_copy 144 = .ok (.aload_n 0, 1) := by decide +kernel
theorem dX12_copy_145 : decode cX12_copy 145 = .ok (.getfield 22, 3) := by decide +kernel
theorem dX12_copy_148 : decode cX12_copy 148 = .ok (.bipush 16, 2) := by decide +kernel
theorem dX12_copy_150 : decode cX12_copy 150 = .ok (.iload_n 1, 1) := by decide +kernel
theorem dX12_copy_151 : decode cX12_copy 151 = .ok (.imul, 1) := by decide +kernel
theorem dX12_copy_152 : decode cX12_copy 152 = .ok (.iload_n 2, 1) := by decide +kernel
theorem dX12_copy_153 : decode cX12_copy 153 = .ok (.iadd, 1) := by decide +kernel
theorem dX12_copy_154 : decode cX12_copy 154 = .ok (.iload 6, 2) := by decide +kernel
theorem dX12_copy_156 : decode cX12_copy 156 = .ok (.iadd, 1) := by decide +kernel
theorem dX12_copy_157 : decode cX12_copy 157 = .ok (.iaload, 1) := by decide +kernel
theorem dX12_copy_158 : decode cX12_copy 158 = .ok (.iastore, 1) := by decide +kernel
theorem dX12_copy_159 : decode cX12_copy 159 = .ok (.iinc 6 1, 3) := by decide +kernel
theorem dX12_copy_162 : decode cX12_copy 162 = .ok (.goto (-31), 3) := by decide +kernel
theorem dX12_copy_165 : decode cX12_copy 165 = .ok (.iconst 0, 1) := by decide +kernel
theorem dX12_copy_166 : decode cX12_copy 166 = .ok (.istore 6, 2) := by decide +kernel
theorem dX12_copy_168 : decode cX12_copy 168 = .ok (.iload 6, 2) := by decide +kernel
theorem dX12_copy_170 : decode cX12_copy 170 = .ok (.iload 5, 2) := by decide +kernel
theorem dX12_copy_172 : decode cX12_copy 172 = .ok (.if_icmp .ge 31, 3) := by decide +kernel
theorem dX12_copy_175 : decode cX12_copy 175 = .ok (.aload_n 0, 1) := by decide +kernel
theorem dX12_copy_176 : decode cX12_copy 176 = .ok (.getfield 22, 3) := by decide +kernel
theorem dX12_copy_179 : decode cX12_copy 179 = .ok (.bipush 16, 2) := by decide +kernel
theorem dX12_copy_181 : decode cX12_copy 181 = .ok (.iload_n 3, 1) := by decide +kernel
theorem dX12_copy_182 : decode cX12_copy 182 = .ok (.imul, 1) := by decide +kernel
theorem dX12_copy_183 : decode cX12_copy 183 = .ok (.iload 4, 2) := by decide +kernel
theorem dX12_copy_185 : decode cX12_copy 185 = .ok (.iadd, 1) := by decide +kernel
theorem dX12_copy_186 : decode cX12_copy 186 = .ok (.iload 6, 2) := by decide +kernel
theorem dX12_copy_188 : decode cX12_copy 188 = .ok (.iadd, 1) := by decide +kernel
theorem dX12_copy_189 : decode cX12_copy 189 = .ok (.aload_n 0, 1) := by decide +kernel
theorem dX12_copy_190 : decode cX12_copy 190 = .ok (.getfield 41, 3) := by decide +kernel
theorem dX12_copy_193 : decode cX12_copy 193 = .ok (.iload 6, 2) := by decide +kernel
theorem dX12_copy_195 : decode cX12_copy 195 = .ok (.iaload, 1) := by decide +kernel
theorem dX12_copy_196 : decode cX12_copy 196 = .ok (.iastore, 1) := by decide +kernel
theorem dX12_copy_197 : decode cX12_copy 197 = .ok (.iinc 6 1, 3) := by decide +kernel
theorem dX12_copy_200 : decode cX12_copy 200 = .ok (.goto (-32), 3) := by decide +kernel
theorem dX12_copy_203 : decode cX12_copy 203 = .ok (.iload 5, 2) := by decide +kernel
theorem dX12_copy_205 : decode cX12_copy 205 = .ok (.i2l, 1) := by decide +kernel
theorem dX12_copy_206 : decode cX12_copy 206 = .ok (.lreturn, 1) := by decide +kernel
set_option maxRecDepth 20000 in
theorem ggX12_text_X12_isSheet : GoodIn wsX12_text wsX12_isSheet := goodIn_sub (fw_c (fw_t (fw_l (fw_l (fw_t (fw_t (fw_t (fw_t (fw_t (fw_t (fw_t (fw_t (fw_t (fw_t fw_h))))))))))))) (fw_c (fw_t (fw_l (fw_l (fw_t (fw_t (fw_t (fw_t (fw_t (fw_t (fw_t (fw_t (fw_t (fw_t (fw_t fw_h)))))))))))))) (fw_c (fw_t (fw_l (fw_l (fw_t (fw_t (fw_t (fw_t (fw_t (fw_t (fw_t (fw_t (fw_t (fw_t (fw_t (fw_t fw_h))))))))))))))) (fw_c (fw_t (fw_l (fw_l (fw_t (fw_t (fw_t (fw_t (fw_t (fw_t (fw_t (fw_t (fw_t fw_h)))))))))))) (fw_c (fw_t (fw_l (fw_l (fw_t (fw_t (fw_t (fw_t (fw_t (fw_t (fw_t (fw_t (fw_t (fw_t (fw_t (fw_t (fw_t fw_h)))))))))))))))) fw_n))))) (by decide +kernel)
set_option maxRecDepth 20000 in
theorem gX12_text_X12_isSheet : GoodIn wsX12_text (va_wsS RX12 194 yX12_isSheet wsX12_isSheet) := goodIn_app (goodIn_sub (fw_c (fw_t (fw_l (fw_l (fw_t (fw_t (fw_t (fw_t (fw_t (fw_t (fw_t fw_h)))))))))) (fw_c (fw_t (fw_l (fw_l (fw_t (fw_t (fw_t (fw_t (fw_t (fw_t (fw_t (fw_t fw_h))))))))))) (fw_c (fw_t (fw_l (fw_l (fw_t (fw_t (fw_t (fw_t (fw_t (fw_t (fw_t (fw_t (fw_t fw_h)))))))))))) fw_n))) (by decide +kernel)) ggX12_text_X12_isSheet
set_option maxRecDepth 20000 in
theorem ggX12_text_X12_finds : GoodIn wsX12_text wsX12_finds := goodIn_sub (fw_c (fw_t (fw_l (fw_l (fw_t (fw_t (fw_t (fw_t (fw_t (fw_t (fw_t (fw_t (fw_t (fw_t (fw_t (fw_t (fw_t (fw_t (fw_t (fw_t (fw_t fw_h)))))))))))))))))))) (fw_a (fw_c (fw_t (fw_l (fw_l (fw_t (fw_t (fw_t (fw_t (fw_t (fw_t (fw_t (fw_t (fw_t (fw_t (fw_t (fw_t (fw_t (fw_t (fw_t (fw_t (fw_t (fw_t fw_h))))))))))))))))))))) fw_n) (fun _ h => fw_t (fw_r h)))) (by decide +kernel)
set_option maxRecDepth 20000 in
theorem gX12_text_X12_finds : GoodIn wsX12_text (wsV RX12 56 RX12 yX12_finds wsX12_finds) := goodIn_app (goodIn_sub (fw_c (fw_t (fw_l (fw_l (fw_t (fw_t (fw_t (fw_t (fw_t (fw_t (fw_t (fw_t (fw_t (fw_t (fw_t (fw_t (fw_t (fw_t fw_h))))))))))))))))) (fw_c (fw_t (fw_l (fw_l (fw_t (fw_t (fw_t (fw_t (fw_t (fw_t (fw_t (fw_t (fw_t (fw_t (fw_t (fw_t (fw_t (fw_t (fw_t fw_h)))))))))))))))))) (fw_c (fw_t (fw_l (fw_l (fw_t (fw_t (fw_t (fw_t (fw_t (fw_t (fw_t (fw_t (fw_t (fw_t (fw_t (fw_t (fw_t (fw_t (fw_t (fw_t fw_h))))))))))))))))))) (fw_c (fw_t (fw_l (fw_l (fw_t (fw_t (fw_t (fw_t (fw_t (fw_t (fw_t (fw_t (fw_t fw_h)))))))))))) fw_n)))) (by decide +kernel)) ggX12_text_X12_finds
set_option maxRecDepth 20000 in
theorem ggX12_text_X12_isSign : GoodIn wsX12_text wsX12_isSign := goodIn_sub (fw_c (fw_t (fw_l (fw_l (fw_t (fw_t (fw_t (fw_t (fw_t (fw_t (fw_t (fw_t (fw_t (fw_t (fw_t (fw_t (fw_t (fw_t (fw_t (fw_t (fw_t (fw_t (fw_t (fw_t (fw_t fw_h)))))))))))))))))))))))) (fw_c (fw_t (fw_l (fw_l (fw_t (fw_t (fw_t (fw_t (fw_t (fw_t (fw_t (fw_t (fw_t (fw_t (fw_t fw_h)))))))))))))) (fw_c (fw_t (fw_l (fw_l (fw_t (fw_t (fw_t (fw_t (fw_t (fw_t (fw_t (fw_t (fw_t (fw_t (fw_t (fw_t fw_h))))))))))))))) (fw_c (fw_t (fw_l (fw_l (fw_t (fw_t (fw_t (fw_t (fw_t (fw_t (fw_t (fw_t (fw_t fw_h)))))))))))) (fw_c (fw_t (fw_l (fw_l (fw_t (fw_t (fw_t (fw_t (fw_t (fw_t (fw_t (fw_t (fw_t (fw_t (fw_t (fw_t (fw_t fw_h)))))))))))))))) fw_n))))) (by decide +kernel)
set_option maxRecDepth 20000 in
theorem gX12_text_X12_isSign : GoodIn wsX12_text (va_wsS RX12 155 yX12_isSign wsX12_isSign) := goodIn_app (goodIn_sub (fw_c (fw_t (fw_l (fw_l (fw_t (fw_t (fw_t (fw_t (fw_t (fw_t (fw_t (fw_t (fw_t (fw_t (fw_t (fw_t (fw_t (fw_t (fw_t (fw_t (fw_t (fw_t (fw_t fw_h)))))))))))))))))))))) (fw_c (fw_t (fw_l (fw_l (fw_t (fw_t (fw_t (fw_t (fw_t (fw_t (fw_t (fw_t (fw_t (fw_t (fw_t (fw_t (fw_t (fw_t (fw_t (fw_t (fw_t (fw_t (fw_t (fw_t fw_h))))))))))))))))))))))) (fw_c (fw_t (fw_l (fw_l (fw_t (fw_t (fw_t (fw_t (fw_t (fw_t (fw_t (fw_t (fw_t fw_h)))))))))))) fw_n))) (by decide +kernel)) ggX12_text_X12_isSign
set_option maxRecDepth 20000 in
theorem ggX12_text_X12_keep : GoodIn wsX12_text wsX12_keep := goodIn_sub (fw_c (fw_t (fw_l (fw_r (fw_t fw_h)))) (fw_a (fw_c (fw_t (fw_l (fw_r (fw_t (fw_t fw_h))))) (fw_c (fw_t (fw_l (fw_r (fw_t (fw_t (fw_t fw_h)))))) (fw_c (fw_t (fw_l (fw_l (fw_t (fw_t (fw_t (fw_t (fw_t (fw_t fw_h))))))))) (fw_c (fw_t (fw_l (fw_r (fw_t (fw_t (fw_t (fw_t fw_h))))))) fw_n)))) (fun _ h => fw_t (fw_r h)))) (by decide +kernel)
set_option maxRecDepth 20000 in
theorem gX12_text_X12_keep : GoodIn wsX12_text (wsV RX12 66 RX12 yX12_keep wsX12_keep) := goodIn_app (goodIn_sub (fw_c (fw_t (fw_l (fw_l (fw_t (fw_t (fw_t (fw_t (fw_t (fw_t (fw_t (fw_t (fw_t (fw_t (fw_t (fw_t (fw_t (fw_t (fw_t (fw_t (fw_t (fw_t (fw_t (fw_t (fw_t (fw_t fw_h))))))))))))))))))))))))) (fw_c (fw_t (fw_l (fw_l (fw_t (fw_t (fw_t (fw_t (fw_t (fw_t (fw_t (fw_t (fw_t (fw_t (fw_t (fw_t (fw_t (fw_t (fw_t (fw_t (fw_t (fw_t (fw_t (fw_t (fw_t (fw_t (fw_t fw_h)))))))))))))))))))))))))) (fw_c (fw_t (fw_l (fw_r fw_h))) (fw_c (fw_t (fw_l (fw_l (fw_t (fw_t (fw_t (fw_t (fw_t (fw_t (fw_t (fw_t (fw_t fw_h)))))))))))) fw_n)))) (by decide +kernel)) ggX12_text_X12_keep
theorem dX12_text_0 : decode cX12_text 0 = .ok (.iload_n 1, 1) := by decide +kernel
theorem dX12_text_1 : decode cX12_text 1 = .ok (.invokestatic 194, 3) := by decide +kernel
theorem dX12_text_4 : decode cX12_text 4 = .ok (.ifCond .ne 11, 3) := by decide +kernel
theorem dX12_text_7 : decode cX12_text 7 = .ok (.aload_n 0, 1) := by decide +kernel
theorem dX12_text_8 : decode cX12_text 8 = .ok (.ldc2_w 76, 3) := by decide +kernel
theorem dX12_text_11 : decode cX12_text 11 = .ok (.invokevirtual 56, 3) := by decide +kernel
theorem dX12_text_14 : decode cX12_text 14 = .ok (.lreturn, 1) := by decide +kernel
theorem dX12_text_15 : decode cX12_text 15 = .ok (.aload_n 0, 1) := by decide +kernel
theorem dX12_text_16 : decode cX12_text 16 = .ok (.getfield 16, 3) := by decide +kernel
theorem dX12_text_19 : decode cX12_text 19 = .ok (.iload_n 1, 1) := by decide +kernel
theorem dX12_text_20 : decode cX12_text 20 = .ok (.iaload, 1) := by decide +kernel
theorem dX12_text_21 : decode cX12_text 21 = .ok (.ifCond .ne 11, 3) := by decide +kernel
theorem dX12_text_24 : decode cX12_text 24 = .ok (.aload_n 0, 1) := by decide +kernel
theorem dX12_text_25 : decode cX12_text 25 = .ok (.ldc2_w 199, 3) := by decide +kernel
theorem dX12_text_28 : decode cX12_text 28 = .ok (.invokevirtual 56, 3) := by decide +kernel
theorem dX12_text_31 : decode cX12_text 31 = .ok (.lreturn, 1) := by decide +kernel
theorem dX12_text_32 : decode cX12_text 32 = .ok (.aload_n 0, 1) := by decide +kernel
theorem dX12_text_33 : decode cX12_text 33 = .ok (.getfield 19, 3) := by decide +kernel
theorem dX12_text_36 : decode cX12_text 36 = .ok (.iload_n 1, 1) := by decide +kernel
theorem dX12_text_37 : decode cX12_text 37 = .ok (.iaload, 1) := by decide +kernel
theorem dX12_text_38 : decode cX12_text 38 = .ok (.bipush 12, 2) := by decide +kernel
theorem dX12_text_40 : decode cX12_text 40 = .ok (.if_icmp .le 11, 3) := by decide +kernel
theorem dX12_text_43 : decode cX12_text 43 = .ok (.aload_n 0, 1) := by decide +kernel
theorem dX12_text_44 : decode cX12_text 44 = .ok (.ldc2_w 197, 3) := by decide +kernel
theorem dX12_text_47 : decode cX12_text 47 = .ok (.invokevirtual 56, 3) := by decide +kernel
theorem dX12_text_50 : decode cX12_text 50 = .ok (.lreturn, 1) := by decide +kernel
theorem dX12_text_51 : decode cX12_text 51 = .ok (.iconst 0, 1) := by decide +kernel
theorem dX12_text_52 : decode cX12_text 52 = .ok (.istore_n 2, 1) := by decide +kernel
theorem dX12_text_53 : decode cX12_text 53 = .ok (.iload_n 2, 1) := by decide +kernel
theorem dX12_text_54 : decode cX12_text 54 = .ok (.aload_n 0, 1) := by decide +kernel
theorem dX12_text_55 : decode cX12_text 55 = .ok (.getfield 19, 3) := by decide +kernel
theorem dX12_text_58 : decode cX12_text 58 = .ok (.iload_n 1, 1) := by decide +kernel
theorem dX12_text_59 : decode cX12_text 59 = .ok (.iaload, 1) := by decide +kernel
theorem dX12_text_60 : decode cX12_text 60 = .ok (.if_icmp .ge 34, 3) := by decide +kernel
theorem dX12_text_63 : decode cX12_text 63 = .ok (.aload_n 0, 1) := by decide +kernel
theorem dX12_text_64 : decode cX12_text 64 = .ok (.getfield 22, 3) := by decide +kernel
theorem dX12_text_67 : decode cX12_text 67 = .ok (.bipush 16, 2) := by decide +kernel
theorem dX12_text_69 : decode cX12_text 69 = .ok (.iload_n 1, 1) := by decide +kernel
theorem dX12_text_70 : decode cX12_text 70 = .ok (.imul, 1) := by decide +kernel
theorem dX12_text_71 : decode cX12_text 71 = .ok (.iload_n 2, 1) := by decide +kernel
theorem dX12_text_72 : decode cX12_text 72 = .ok (.iadd, 1) := by decide +kernel
theorem dX12_text_73 : decode cX12_text 73 = .ok (.iaload, 1) := by decide +kernel
theorem dX12_text_74 : decode cX12_text 74 = .ok (.invokestatic 155, 3) := by decide +kernel
theorem dX12_text_77 : decode cX12_text 77 = .ok (.ifCond .ne 11, 3) := by decide +kernel
theorem dX12_text_80 : decode cX12_text 80 = .ok (.aload_n 0, 1) := by decide +kernel
theorem dX12_text_81 : decode cX12_text 81 = .ok (.ldc2_w 76, 3) := by decide +kernel
theorem dX12_text_84 : decode cX12_text 84 = .ok (.invokevirtual 56, 3) := by decide +kernel
theorem dX12_text_87 : decode cX12_text 87 = .ok (.lreturn, 1) := by decide +kernel
theorem dX12_text_88 : decode cX12_text 88 = .ok (.iinc 2 1, 3) := by decide +kernel
theorem dX12_text_91 : decode cX12_text 91 = .ok (.goto (-38), 3) := by decide +kernel
theorem dX12_text_94 : decode cX12_text 94 = .ok (.aload_n 0, 1) := by decide +kernel
theorem dX12_text_95 : decode cX12_text 95 = .ok (.invokevirtual 66, 3) := by decide +kernel
theorem dX12_text_98 : decode cX12_text 98 = .ok (.aload_n 0, 1) := by decide +kernel
theorem dX12_text_99 : decode cX12_text 99 = .ok (.getfield 9, 3) := by decide +kernel
theorem dX12_text_102 : decode cX12_text 102 = .ok (.iconst 2, 1) := by decide +kernel
theorem dX12_text_103 : decode cX12_text 103 = .ok (.aload_n 0, 1) := by decide +kernel
theorem dX12_text_104 : decode cX12_text 104 = .ok (.getfield 19, 3) := by decide +kernel
theorem dX12_text_107 : decode cX12_text 107 = .ok (.iload_n 1, 1) := by decide +kernel
theorem dX12_text_108 : decode cX12_text 108 = .ok (.iaload, 1) := by decide +kernel
theorem dX12_text_109 : decode cX12_text 109 = .ok (.iastore, 1) := by decide +kernel
theorem dX12_text_110 : decode cX12_text 110 = .ok (.iconst 0, 1) := by decide +kernel
theorem dX12_text_111 : decode cX12_text 111 = .ok (.istore_n 2, 1) := by decide +kernel
theorem dX12_text_112 : decode cX12_text 112 = .ok (.iload_n 2, 1) := by decide +kernel
theorem dX12_text_113 : decode cX12_text 113 = .ok (.aload_n 0, 1) := by decide +kernel
theorem dX12_text_114 : decode cX12_text 114 = .ok (.getfield 19, 3) := by decide +kernel
theorem dX12_text_117 : decode cX12_text 117 = .ok (.iload_n 1, 1) := by decide +kernel
theorem dX12_text_118 : decode cX12_text 118 = .ok (.iaload, 1) := by decide +kernel
theorem dX12_text_119 : decode cX12_text 119 = .ok (.if_icmp .ge 30, 3) := by decide +kernel
theorem dX12_text_122 : decode cX12_text 122 = .ok (.aload_n 0, 1) := by decide +kernel
theorem dX12_text_123 : decode cX12_text 123 = .ok (.getfield 9, 3) := by decide +kernel
theorem dX12_text_126 : decode cX12_text 126 = .ok (.sipush 322, 3) := by decide +kernel
theorem dX12_text_129 : decode cX12_text 129 = .ok (.iload_n 2, 1) := by decide +kernel
theorem dX12_text_130 : decode cX12_text 130 = .ok (.iadd, 1) := by decide +kernel
theorem dX12_text_131 : decode cX12_text 131 = .ok (.aload_n 0, 1) := by decide +kernel
theorem dX12_text_132 : decode cX12_text 132 = .ok (.getfield 22, 3) := by decide +kernel
theorem dX12_text_135 : decode cX12_text 135 = .ok (.bipush 16, 2) := by decide +kernel
theorem dX12_text_137 : decode cX12_text 137 = .ok (.iload_n 1, 1) := by decide +kernel
theorem dX12_text_138 : decode cX12_text 138 = .ok (.imul, 1) := by decide +kernel
theorem dX12_text_139 : decode cX12_text 139 = .ok (.iload_n 2, 1) := by decide +kernel
theorem dX12_text_140 : decode cX12_text 140 = .ok (.iadd, 1) := by decide +kernel
theorem dX12_text_141 : decode cX12_text 141 = .ok (.iaload, 1) := by decide +kernel
theorem dX12_text_142 : decode cX12_text 142 = .ok (.iastore, 1) := by decide +kernel
theorem dX12_text_143 : decode cX12_text 143 = .ok (.iinc 2 1, 3) := by decide +kernel
theorem dX12_text_146 : decode cX12_text 146 = .ok (.goto (-34), 3) := by decide +kernel
theorem dX12_text_149 : decode cX12_text 149 = .ok (.aload_n 0, 1) := by decide +kernel
theorem dX12_text_150 : decode cX12_text 150 = .ok (.getfield 19, 3) := by decide +kernel
theorem dX12_text_153 : decode cX12_text 153 = .ok (.iload_n 1, 1) := by decide +kernel
theorem dX12_text_154 : decode cX12_text 154 = .ok (.iaload, 1) := by decide +kernel
theorem dX12_text_155 : decode cX12_text 155 = .ok (.i2l, 1) := by decide +kernel
theorem dX12_text_156 : decode cX12_text 156 = .ok (.lreturn, 1) := by decide +kernel
set_option maxRecDepth 20000 in
theorem ggX12_all_X12_finds : GoodIn wsX12_all wsX12_finds := goodIn_sub (fw_c (fw_t (fw_l (fw_t (fw_t (fw_t (fw_t (fw_t (fw_t (fw_t fw_h))))))))) (fw_a (fw_c (fw_t (fw_l (fw_t fw_h))) fw_n) (fun _ h => fw_t (fw_r h)))) (by decide +kernel)
set_option maxRecDepth 20000 in
theorem gX12_all_X12_finds : GoodIn wsX12_all (wsV RX12 56 RX12 yX12_finds wsX12_finds) := goodIn_app (goodIn_sub (fw_c (fw_t (fw_l (fw_t (fw_t (fw_t fw_h))))) (fw_c (fw_t (fw_l (fw_t (fw_t (fw_t (fw_t fw_h)))))) (fw_c (fw_t (fw_l (fw_t (fw_t (fw_t (fw_t (fw_t fw_h))))))) (fw_c (fw_t (fw_l (fw_t (fw_t (fw_t (fw_t (fw_t (fw_t fw_h)))))))) fw_n)))) (by decide +kernel)) ggX12_all_X12_finds
theorem dX12_all_0 : decode cX12_all 0 = .ok (.iload_n 1, 1) := by decide +kernel
theorem dX12_all_1 : decode cX12_all 1 = .ok (.tableswitch 73 0 4 #[35, 43, 51, 59, 67], 35) := by decide +kernel
theorem dX12_all_36 : decode cX12_all 36 = .ok (.aload_n 0, 1) := by decide +kernel
theorem dX12_all_37 : decode cX12_all 37 = .ok (.getfield 9, 3) := by decide +kernel
theorem dX12_all_40 : decode cX12_all 40 = .ok (.iconst 0, 1) := by decide +kernel
theorem dX12_all_41 : decode cX12_all 41 = .ok (.iaload, 1) := by decide +kernel
theorem dX12_all_42 : decode cX12_all 42 = .ok (.i2l, 1) := by decide +kernel
theorem dX12_all_43 : decode cX12_all 43 = .ok (.lreturn, 1) := by decide +kernel
theorem dX12_all_44 : decode cX12_all 44 = .ok (.aload_n 0, 1) := by decide +kernel
theorem dX12_all_45 : decode cX12_all 45 = .ok (.getfield 9, 3) := by decide +kernel
theorem dX12_all_48 : decode cX12_all 48 = .ok (.iconst 1, 1) := by decide +kernel
theorem dX12_all_49 : decode cX12_all 49 = .ok (.iaload, 1) := by decide +kernel
theorem dX12_all_50 : decode cX12_all 50 = .ok (.i2l, 1) := by decide +kernel
theorem dX12_all_51 : decode cX12_all 51 = .ok (.lreturn, 1) := by decide +kernel
theorem dX12_all_52 : decode cX12_all 52 = .ok (.aload_n 0, 1) := by decide +kernel
theorem dX12_all_53 : decode cX12_all 53 = .ok (.getfield 9, 3) := by decide +kernel
theorem dX12_all_56 : decode cX12_all 56 = .ok (.iconst 3, 1) := by decide +kernel
theorem dX12_all_57 : decode cX12_all 57 = .ok (.iaload, 1) := by decide +kernel
theorem dX12_all_58 : decode cX12_all 58 = .ok (.i2l, 1) := by decide +kernel
theorem dX12_all_59 : decode cX12_all 59 = .ok (.lreturn, 1) := by decide +kernel
theorem dX12_all_60 : decode cX12_all 60 = .ok (.aload_n 0, 1) := by decide +kernel
theorem dX12_all_61 : decode cX12_all 61 = .ok (.getfield 9, 3) := by decide +kernel
theorem dX12_all_64 : decode cX12_all 64 = .ok (.iconst 2, 1) := by decide +kernel
theorem dX12_all_65 : decode cX12_all 65 = .ok (.iaload, 1) := by decide +kernel
theorem dX12_all_66 : decode cX12_all 66 = .ok (.i2l, 1) := by decide +kernel
theorem dX12_all_67 : decode cX12_all 67 = .ok (.lreturn, 1) := by decide +kernel
theorem dX12_all_68 : decode cX12_all 68 = .ok (.aload_n 0, 1) := by decide +kernel
theorem dX12_all_69 : decode cX12_all 69 = .ok (.getfield 44, 3) := by decide +kernel
theorem dX12_all_72 : decode cX12_all 72 = .ok (.i2l, 1) := by decide +kernel
theorem dX12_all_73 : decode cX12_all 73 = .ok (.lreturn, 1) := by decide +kernel
theorem dX12_all_74 : decode cX12_all 74 = .ok (.aload_n 0, 1) := by decide +kernel
theorem dX12_all_75 : decode cX12_all 75 = .ok (.ldc2_w 76, 3) := by decide +kernel
theorem dX12_all_78 : decode cX12_all 78 = .ok (.invokevirtual 56, 3) := by decide +kernel
theorem dX12_all_81 : decode cX12_all 81 = .ok (.lreturn, 1) := by decide +kernel
