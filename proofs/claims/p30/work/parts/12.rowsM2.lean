theorem dX12_spreads_51 : decode cX12_spreads 51 = .ok (.ifCond .ge 26, 3) := by decide +kernel
theorem dX12_spreads_54 : decode cX12_spreads 54 = .ok (.aload_n 0, 1) := by decide +kernel
theorem dX12_spreads_55 : decode cX12_spreads 55 = .ok (.iload_n 3, 1) := by decide +kernel
theorem dX12_spreads_56 : decode cX12_spreads 56 = .ok (.iload 4, 2) := by decide +kernel
theorem dX12_spreads_58 : decode cX12_spreads 58 = .ok (.invokevirtual 146, 3) := by decide +kernel
theorem dX12_spreads_61 : decode cX12_spreads 61 = .ok (.ifCond .ne 6, 3) := by decide +kernel
theorem dX12_spreads_64 : decode cX12_spreads 64 = .ok (.goto 13, 3) := by decide +kernel
theorem dX12_spreads_67 : decode cX12_spreads 67 = .ok (.aload_n 0, 1) := by decide +kernel
theorem dX12_spreads_68 : decode cX12_spreads 68 = .ok (.getfield 35, 3) := by decide +kernel
theorem dX12_spreads_71 : decode cX12_spreads 71 = .ok (.iload 4, 2) := by decide +kernel
theorem dX12_spreads_73 : decode cX12_spreads 73 = .ok (.iload_n 1, 1) := by decide +kernel
theorem dX12_spreads_74 : decode cX12_spreads 74 = .ok (.iastore, 1) := by decide +kernel
theorem dX12_spreads_75 : decode cX12_spreads 75 = .ok (.iconst 1, 1) := by decide +kernel
theorem dX12_spreads_76 : decode cX12_spreads 76 = .ok (.istore_n 2, 1) := by decide +kernel
theorem dX12_spreads_77 : decode cX12_spreads 77 = .ok (.iinc 4 1, 3) := by decide +kernel
theorem dX12_spreads_80 : decode cX12_spreads 80 = .ok (.goto (-57), 3) := by decide +kernel
theorem dX12_spreads_83 : decode cX12_spreads 83 = .ok (.iinc 3 1, 3) := by decide +kernel
theorem dX12_spreads_86 : decode cX12_spreads 86 = .ok (.goto (-76), 3) := by decide +kernel
theorem dX12_spreads_89 : decode cX12_spreads 89 = .ok (.goto (-87), 3) := by decide +kernel
theorem dX12_spreads_92 : decode cX12_spreads 92 = .ok (.return_, 1) := by decide +kernel
set_option maxRecDepth 20000 in
theorem ggX12_agree_X12_isMark : GoodIn wsX12_agree wsX12_isMark := goodIn_sub (fw_c (fw_t (fw_l (fw_l (fw_t (fw_t (fw_t (fw_t (fw_t fw_h)))))))) (fw_a (fw_c (fw_t (fw_l (fw_l (fw_t (fw_t (fw_t (fw_t (fw_t (fw_t fw_h))))))))) (fw_c (fw_t (fw_l (fw_l (fw_t (fw_t (fw_t (fw_t (fw_t (fw_t (fw_t fw_h)))))))))) (fw_c (fw_t (fw_l (fw_l (fw_t (fw_t (fw_t (fw_t (fw_t (fw_t (fw_t (fw_t fw_h))))))))))) (fw_c (fw_t (fw_l (fw_l (fw_t (fw_t (fw_t (fw_t fw_h))))))) (fw_c (fw_t (fw_l (fw_l (fw_t (fw_t (fw_t (fw_t (fw_t (fw_t (fw_t (fw_t (fw_t fw_h)))))))))))) fw_n))))) (fun _ h => fw_t (fw_r h)))) (by decide +kernel)
set_option maxRecDepth 20000 in
theorem gX12_agree_X12_isMark : GoodIn wsX12_agree (wsV RX12 124 RX12 yX12_isMark wsX12_isMark) := goodIn_app (goodIn_sub (fw_c (fw_t (fw_l (fw_l (fw_t fw_h)))) (fw_c (fw_t (fw_l (fw_l (fw_t (fw_t fw_h))))) (fw_c (fw_t (fw_l (fw_l (fw_t (fw_t (fw_t fw_h)))))) (fw_c (fw_t (fw_l (fw_l (fw_t (fw_t (fw_t (fw_t fw_h))))))) fw_n)))) (by decide +kernel)) ggX12_agree_X12_isMark
set_option maxRecDepth 20000 in
theorem ggX12_agree_X12_finds : GoodIn wsX12_agree wsX12_finds := goodIn_sub (fw_c (fw_t (fw_l (fw_l (fw_t (fw_t (fw_t (fw_t (fw_t (fw_t (fw_t (fw_t (fw_t (fw_t (fw_t (fw_t (fw_t fw_h)))))))))))))))) (fw_a (fw_c (fw_t (fw_l (fw_l (fw_t (fw_t (fw_t (fw_t (fw_t (fw_t (fw_t (fw_t (fw_t (fw_t (fw_t (fw_t (fw_t (fw_t fw_h))))))))))))))))) fw_n) (fun _ h => fw_t (fw_r h)))) (by decide +kernel)
set_option maxRecDepth 20000 in
theorem gX12_agree_X12_finds : GoodIn wsX12_agree (wsV RX12 56 RX12 yX12_finds wsX12_finds) := goodIn_app (goodIn_sub (fw_c (fw_t (fw_l (fw_l (fw_t (fw_t (fw_t (fw_t (fw_t (fw_t (fw_t (fw_t (fw_t (fw_t fw_h))))))))))))) (fw_c (fw_t (fw_l (fw_l (fw_t (fw_t (fw_t (fw_t (fw_t (fw_t (fw_t (fw_t (fw_t (fw_t (fw_t fw_h)))))))))))))) (fw_c (fw_t (fw_l (fw_l (fw_t (fw_t (fw_t (fw_t (fw_t (fw_t (fw_t (fw_t (fw_t (fw_t (fw_t (fw_t fw_h))))))))))))))) (fw_c (fw_t (fw_l (fw_l (fw_t (fw_t (fw_t (fw_t fw_h))))))) fw_n)))) (by decide +kernel)) ggX12_agree_X12_finds
set_option maxRecDepth 20000 in
theorem ggX12_agree_X12_findPlaces : GoodIn wsX12_agree wsX12_findPlaces := goodIn_sub (fw_c (fw_t (fw_l (fw_l (fw_t (fw_t (fw_t (fw_t (fw_t (fw_t (fw_t (fw_t (fw_t (fw_t (fw_t (fw_t (fw_t (fw_t (fw_t (fw_t (fw_t (fw_t fw_h))))))))))))))))))))) (fw_a (fw_a (fw_c (fw_t (fw_l (fw_l (fw_t (fw_t (fw_t (fw_t (fw_t (fw_t fw_h))))))))) (fw_c (fw_t (fw_l (fw_l (fw_t (fw_t (fw_t (fw_t (fw_t (fw_t (fw_t (fw_t (fw_t (fw_t (fw_t (fw_t (fw_t (fw_t (fw_t (fw_t (fw_t (fw_t (fw_t fw_h)))))))))))))))))))))) (fw_c (fw_t (fw_l (fw_l (fw_t (fw_t (fw_t (fw_t (fw_t (fw_t (fw_t (fw_t (fw_t (fw_t (fw_t (fw_t (fw_t (fw_t (fw_t (fw_t (fw_t (fw_t (fw_t (fw_t fw_h))))))))))))))))))))))) (fw_c (fw_t (fw_l (fw_l (fw_t (fw_t (fw_t (fw_t (fw_t (fw_t (fw_t (fw_t (fw_t (fw_t (fw_t (fw_t (fw_t (fw_t (fw_t (fw_t (fw_t (fw_t (fw_t (fw_t (fw_t fw_h)))))))))))))))))))))))) (fw_c (fw_t (fw_l (fw_l (fw_t (fw_t (fw_t (fw_t (fw_t (fw_t (fw_t (fw_t (fw_t (fw_t (fw_t (fw_t (fw_t (fw_t (fw_t (fw_t (fw_t (fw_t (fw_t (fw_t (fw_t (fw_t fw_h))))))))))))))))))))))))) (fw_c (fw_t (fw_l (fw_l (fw_t (fw_t (fw_t (fw_t (fw_t (fw_t (fw_t (fw_t (fw_t (fw_t (fw_t (fw_t (fw_t (fw_t (fw_t (fw_t (fw_t (fw_t (fw_t (fw_t (fw_t (fw_t (fw_t fw_h)))))))))))))))))))))))))) (fw_c (fw_t (fw_l (fw_r (fw_l fw_h)))) (fw_c (fw_t (fw_l (fw_r (fw_l (fw_t fw_h))))) (fw_c (fw_t (fw_l (fw_r (fw_l (fw_t (fw_t fw_h)))))) (fw_c (fw_t (fw_l (fw_l (fw_t (fw_t (fw_t (fw_t fw_h))))))) (fw_c (fw_t (fw_l (fw_r (fw_l (fw_t (fw_t (fw_t fw_h))))))) (fw_c (fw_t (fw_l (fw_r (fw_l (fw_t (fw_t (fw_t (fw_t fw_h)))))))) (fw_c (fw_t (fw_l (fw_r (fw_l (fw_t (fw_t (fw_t (fw_t (fw_t fw_h))))))))) (fw_c (fw_t (fw_l (fw_r (fw_l (fw_t (fw_t (fw_t (fw_t (fw_t (fw_t fw_h)))))))))) (fw_c (fw_t (fw_l (fw_r (fw_l (fw_t (fw_t (fw_t (fw_t (fw_t (fw_t (fw_t fw_h))))))))))) (fw_c (fw_t (fw_l (fw_r (fw_l (fw_t (fw_t (fw_t (fw_t (fw_t (fw_t (fw_t (fw_t fw_h)))))))))))) (fw_c (fw_t (fw_l (fw_r (fw_l (fw_t (fw_t (fw_t (fw_t (fw_t (fw_t (fw_t (fw_t (fw_t fw_h))))))))))))) (fw_c (fw_t (fw_l (fw_r (fw_l (fw_t (fw_t (fw_t (fw_t (fw_t (fw_t (fw_t (fw_t (fw_t (fw_t fw_h)))))))))))))) (fw_c (fw_t (fw_l (fw_r (fw_l (fw_t (fw_t (fw_t (fw_t (fw_t (fw_t (fw_t (fw_t (fw_t (fw_t (fw_t fw_h))))))))))))))) (fw_c (fw_t (fw_l (fw_r (fw_l (fw_t (fw_t (fw_t (fw_t (fw_t (fw_t (fw_t (fw_t (fw_t (fw_t (fw_t (fw_t fw_h)))))))))))))))) (fw_c (fw_t (fw_l (fw_r (fw_l (fw_t (fw_t (fw_t (fw_t (fw_t (fw_t (fw_t (fw_t (fw_t (fw_t (fw_t (fw_t (fw_t fw_h))))))))))))))))) (fw_c (fw_t (fw_l (fw_r (fw_l (fw_t (fw_t (fw_t (fw_t (fw_t (fw_t (fw_t (fw_t (fw_t (fw_t (fw_t (fw_t (fw_t (fw_t fw_h)))))))))))))))))) (fw_c (fw_t (fw_l (fw_r (fw_l (fw_t (fw_t (fw_t (fw_t (fw_t (fw_t (fw_t (fw_t (fw_t (fw_t (fw_t (fw_t (fw_t (fw_t (fw_t fw_h))))))))))))))))))) (fw_c (fw_t (fw_l (fw_r (fw_l (fw_t (fw_t (fw_t (fw_t (fw_t (fw_t (fw_t (fw_t (fw_t (fw_t (fw_t (fw_t (fw_t (fw_t (fw_t (fw_t fw_h)))))))))))))))))))) fw_n)))))))))))))))))))))))) (fw_c (fw_t (fw_l (fw_r (fw_l (fw_t (fw_t (fw_t (fw_t (fw_t (fw_t (fw_t (fw_t (fw_t (fw_t (fw_t (fw_t (fw_t (fw_t (fw_t (fw_t (fw_t fw_h))))))))))))))))))))) (fw_c (fw_t (fw_l (fw_r (fw_l (fw_t (fw_t (fw_t (fw_t (fw_t (fw_t (fw_t (fw_t (fw_t (fw_t (fw_t (fw_t (fw_t (fw_t (fw_t (fw_t (fw_t (fw_t fw_h)))))))))))))))))))))) (fw_c (fw_t (fw_l (fw_r (fw_l (fw_t (fw_t (fw_t (fw_t (fw_t (fw_t (fw_t (fw_t (fw_t (fw_t (fw_t (fw_t (fw_t (fw_t (fw_t (fw_t (fw_t (fw_t (fw_t fw_h))))))))))))))))))))))) (fw_c (fw_t (fw_l (fw_r (fw_l (fw_t (fw_t (fw_t (fw_t (fw_t (fw_t (fw_t (fw_t (fw_t (fw_t (fw_t (fw_t (fw_t (fw_t (fw_t (fw_t (fw_t (fw_t (fw_t (fw_t fw_h)))))))))))))))))))))))) (fw_c (fw_t (fw_l (fw_r (fw_l (fw_t (fw_t (fw_t (fw_t (fw_t (fw_t (fw_t (fw_t (fw_t (fw_t (fw_t (fw_t (fw_t (fw_t (fw_t (fw_t (fw_t (fw_t (fw_t (fw_t (fw_t fw_h))))))))))))))))))))))))) (fw_c (fw_t (fw_l (fw_r (fw_l (fw_t (fw_t (fw_t (fw_t (fw_t (fw_t (fw_t (fw_t (fw_t (fw_t (fw_t (fw_t (fw_t (fw_t (fw_t (fw_t (fw_t (fw_t (fw_t (fw_t (fw_t (fw_t fw_h)))))))))))))))))))))))))) (fw_c (fw_t (fw_l (fw_r (fw_l (fw_t (fw_t (fw_t (fw_t (fw_t (fw_t (fw_t (fw_t (fw_t (fw_t (fw_t (fw_t (fw_t (fw_t (fw_t (fw_t (fw_t (fw_t (fw_t (fw_t (fw_t (fw_t (fw_t fw_h))))))))))))))))))))))))))) (fw_c (fw_t (fw_l (fw_r (fw_r fw_h)))) fw_n))))))))) (fun _ h => fw_t (fw_r h)))) (by decide +kernel)
set_option maxRecDepth 20000 in
theorem gX12_agree_X12_findPlaces : GoodIn wsX12_agree (wsV RX12 136 RX12 yX12_findPlaces wsX12_findPlaces) := goodIn_app (goodIn_sub (fw_c (fw_t (fw_l (fw_l (fw_t (fw_t (fw_t (fw_t (fw_t (fw_t (fw_t (fw_t (fw_t (fw_t (fw_t (fw_t (fw_t (fw_t (fw_t fw_h)))))))))))))))))) (fw_c (fw_t (fw_l (fw_l (fw_t (fw_t (fw_t (fw_t (fw_t (fw_t (fw_t (fw_t (fw_t (fw_t (fw_t (fw_t (fw_t (fw_t (fw_t (fw_t fw_h))))))))))))))))))) (fw_c (fw_t (fw_l (fw_l (fw_t (fw_t (fw_t (fw_t (fw_t (fw_t (fw_t (fw_t (fw_t (fw_t (fw_t (fw_t (fw_t (fw_t (fw_t (fw_t (fw_t fw_h)))))))))))))))))))) (fw_c (fw_t (fw_l (fw_l (fw_t (fw_t (fw_t (fw_t fw_h))))))) fw_n)))) (by decide +kernel)) ggX12_agree_X12_findPlaces
set_option maxRecDepth 20000 in
theorem ggX12_agree_X12_doAgree : GoodIn wsX12_agree wsX12_doAgree := goodIn_sub (fw_c (fw_t (fw_l (fw_r (fw_r (fw_t (fw_t (fw_t (fw_t fw_h)))))))) (fw_a (fw_c (fw_t (fw_l (fw_l (fw_t (fw_t (fw_t (fw_t (fw_t (fw_t (fw_t (fw_t (fw_t (fw_t (fw_t (fw_t (fw_t (fw_t (fw_t (fw_t (fw_t (fw_t (fw_t fw_h)))))))))))))))))))))) (fw_c (fw_t (fw_l (fw_l (fw_t (fw_t (fw_t (fw_t (fw_t (fw_t (fw_t (fw_t (fw_t (fw_t (fw_t (fw_t (fw_t (fw_t (fw_t (fw_t (fw_t (fw_t (fw_t (fw_t fw_h))))))))))))))))))))))) (fw_c (fw_t (fw_l (fw_l (fw_t (fw_t (fw_t (fw_t (fw_t (fw_t (fw_t (fw_t (fw_t (fw_t (fw_t (fw_t (fw_t (fw_t (fw_t (fw_t (fw_t (fw_t (fw_t (fw_t (fw_t (fw_t (fw_t fw_h)))))))))))))))))))))))))) (fw_c (fw_t (fw_l (fw_r (fw_l fw_h)))) (fw_c (fw_t (fw_l (fw_r (fw_l (fw_t fw_h))))) (fw_c (fw_t (fw_l (fw_r (fw_l (fw_t (fw_t fw_h)))))) (fw_c (fw_t (fw_l (fw_l (fw_t (fw_t (fw_t (fw_t fw_h))))))) (fw_c (fw_t (fw_l (fw_r (fw_l (fw_t (fw_t (fw_t fw_h))))))) (fw_c (fw_t (fw_l (fw_l (fw_t (fw_t (fw_t (fw_t (fw_t (fw_t fw_h))))))))) fw_n))))))))) (fun _ h => fw_t (fw_r h)))) (by decide +kernel)
set_option maxRecDepth 20000 in
theorem gX12_agree_X12_doAgree : GoodIn wsX12_agree (wsV RX12 146 RX12 yX12_doAgree wsX12_doAgree) := goodIn_app (goodIn_sub (fw_c (fw_t (fw_l (fw_r (fw_r (fw_t fw_h))))) (fw_c (fw_t (fw_l (fw_r (fw_r (fw_t (fw_t fw_h)))))) (fw_c (fw_t (fw_l (fw_r (fw_r (fw_t (fw_t (fw_t fw_h))))))) (fw_c (fw_t (fw_l (fw_l (fw_t (fw_t (fw_t (fw_t fw_h))))))) fw_n)))) (by decide +kernel)) ggX12_agree_X12_doAgree
theorem dX12_agree_0 : decode cX12_agree 0 = .ok (.aload_n 0, 1) := by decide +kernel
theorem dX12_agree_1 : decode cX12_agree 1 = .ok (.iload_n 1, 1) := by decide +kernel
theorem dX12_agree_2 : decode cX12_agree 2 = .ok (.invokevirtual 124, 3) := by decide +kernel
theorem dX12_agree_5 : decode cX12_agree 5 = .ok (.ifCond .eq 11, 3) := by decide +kernel
theorem dX12_agree_8 : decode cX12_agree 8 = .ok (.aload_n 0, 1) := by decide +kernel
theorem dX12_agree_9 : decode cX12_agree 9 = .ok (.iload_n 2, 1) := by decide +kernel
theorem dX12_agree_10 : decode cX12_agree 10 = .ok (.invokevirtual 124, 3) := by decide +kernel
theorem dX12_agree_13 : decode cX12_agree 13 = .ok (.ifCond .ne 11, 3) := by decide +kernel
theorem dX12_agree_16 : decode cX12_agree 16 = .ok (.aload_n 0, 1) := by decide +kernel
theorem dX12_agree_17 : decode cX12_agree 17 = .ok (.ldc2_w 76, 3) := by decide +kernel
theorem dX12_agree_20 : decode cX12_agree 20 = .ok (.invokevirtual 56, 3) := by decide +kernel
theorem dX12_agree_23 : decode cX12_agree 23 = .ok (.lreturn, 1) := by decide +kernel
theorem dX12_agree_24 : decode cX12_agree 24 = .ok (.aload_n 0, 1) := by decide +kernel
theorem dX12_agree_25 : decode cX12_agree 25 = .ok (.invokevirtual 136, 3) := by decide +kernel
theorem dX12_agree_28 : decode cX12_agree 28 = .ok (.aload_n 0, 1) := by decide +kernel
theorem dX12_agree_29 : decode cX12_agree 29 = .ok (.iload_n 1, 1) := by decide +kernel
theorem dX12_agree_30 : decode cX12_agree 30 = .ok (.iload_n 2, 1) := by decide +kernel
theorem dX12_agree_31 : decode cX12_agree 31 = .ok (.invokevirtual 146, 3) := by decide +kernel
theorem dX12_agree_34 : decode cX12_agree 34 = .ok (.ifCond .eq 7, 3) := by decide +kernel
theorem dX12_agree_37 : decode cX12_agree 37 = .ok (.lconst 1, 1) := by decide +kernel
theorem dX12_agree_38 : decode cX12_agree 38 = .ok (.goto 4, 3) := by decide +kernel
theorem dX12_agree_41 : decode cX12_agree 41 = .ok (.lconst 0, 1) := by decide +kernel
theorem dX12_agree_42 : decode cX12_agree 42 = .ok (.lreturn, 1) := by decide +kernel
set_option maxRecDepth 20000 in
theorem ggX12_group_X12_isMark : GoodIn wsX12_group wsX12_isMark := goodIn_sub (fw_c (fw_t (fw_l (fw_l (fw_t (fw_t (fw_t (fw_t (fw_t (fw_t fw_h))))))))) (fw_a (fw_c (fw_t (fw_l (fw_l (fw_t (fw_t (fw_t (fw_t (fw_t (fw_t (fw_t fw_h)))))))))) (fw_c (fw_t (fw_l (fw_l (fw_t (fw_t (fw_t (fw_t (fw_t (fw_t (fw_t (fw_t fw_h))))))))))) (fw_c (fw_t (fw_l (fw_l (fw_t (fw_t (fw_t (fw_t (fw_t (fw_t (fw_t (fw_t (fw_t fw_h)))))))))))) (fw_c (fw_t (fw_l (fw_l (fw_t (fw_t (fw_t (fw_t (fw_t fw_h)))))))) (fw_c (fw_t (fw_l (fw_l (fw_t (fw_t (fw_t (fw_t (fw_t (fw_t (fw_t (fw_t (fw_t (fw_t fw_h))))))))))))) fw_n))))) (fun _ h => fw_t (fw_r h)))) (by decide +kernel)
set_option maxRecDepth 20000 in
theorem gX12_group_X12_isMark : GoodIn wsX12_group (wsV RX12 124 RX12 yX12_isMark wsX12_isMark) := goodIn_app (goodIn_sub (fw_c (fw_t (fw_l (fw_l (fw_t (fw_t fw_h))))) (fw_c (fw_t (fw_l (fw_l (fw_t (fw_t (fw_t fw_h)))))) (fw_c (fw_t (fw_l (fw_l (fw_t (fw_t (fw_t (fw_t fw_h))))))) (fw_c (fw_t (fw_l (fw_l (fw_t (fw_t (fw_t (fw_t (fw_t fw_h)))))))) fw_n)))) (by decide +kernel)) ggX12_group_X12_isMark
set_option maxRecDepth 20000 in
theorem ggX12_group_X12_finds : GoodIn wsX12_group wsX12_finds := goodIn_sub (fw_c (fw_t (fw_l (fw_l (fw_t (fw_t (fw_t (fw_t (fw_t (fw_t (fw_t (fw_t (fw_t (fw_t (fw_t (fw_t (fw_t (fw_t fw_h))))))))))))))))) (fw_a (fw_c (fw_t (fw_l (fw_l (fw_t (fw_t (fw_t (fw_t (fw_t (fw_t (fw_t (fw_t (fw_t (fw_t (fw_t (fw_t (fw_t (fw_t (fw_t fw_h)))))))))))))))))) fw_n) (fun _ h => fw_t (fw_r h)))) (by decide +kernel)
set_option maxRecDepth 20000 in
theorem gX12_group_X12_finds : GoodIn wsX12_group (wsV RX12 56 RX12 yX12_finds wsX12_finds) := goodIn_app (goodIn_sub (fw_c (fw_t (fw_l (fw_l (fw_t (fw_t (fw_t (fw_t (fw_t (fw_t (fw_t (fw_t (fw_t (fw_t (fw_t fw_h)))))))))))))) (fw_c (fw_t (fw_l (fw_l (fw_t (fw_t (fw_t (fw_t (fw_t (fw_t (fw_t (fw_t (fw_t (fw_t (fw_t (fw_t fw_h))))))))))))))) (fw_c (fw_t (fw_l (fw_l (fw_t (fw_t (fw_t (fw_t (fw_t (fw_t (fw_t (fw_t (fw_t (fw_t (fw_t (fw_t (fw_t fw_h)))))))))))))))) (fw_c (fw_t (fw_l (fw_l (fw_t (fw_t (fw_t (fw_t (fw_t fw_h)))))))) fw_n)))) (by decide +kernel)) ggX12_group_X12_finds
set_option maxRecDepth 20000 in
theorem ggX12_group_X12_findGroups : GoodIn wsX12_group wsX12_findGroups := goodIn_sub (fw_c (fw_t (fw_l (fw_l (fw_t (fw_t (fw_t (fw_t (fw_t (fw_t (fw_t (fw_t (fw_t (fw_t (fw_t (fw_t (fw_t (fw_t (fw_t (fw_t (fw_t (fw_t (fw_t fw_h)))))))))))))))))))))) (fw_a (fw_a (fw_c (fw_t (fw_l (fw_l (fw_t (fw_t (fw_t (fw_t (fw_t (fw_t (fw_t (fw_t (fw_t (fw_t (fw_t (fw_t (fw_t (fw_t (fw_t (fw_t (fw_t (fw_t (fw_t (fw_t fw_h))))))))))))))))))))))) (fw_c (fw_t (fw_l (fw_l (fw_t (fw_t (fw_t (fw_t (fw_t (fw_t (fw_t fw_h)))))))))) (fw_c (fw_t (fw_l (fw_l (fw_t fw_h)))) (fw_c (fw_t (fw_l (fw_l (fw_t (fw_t (fw_t (fw_t (fw_t (fw_t (fw_t (fw_t (fw_t (fw_t (fw_t (fw_t (fw_t (fw_t (fw_t (fw_t (fw_t (fw_t (fw_t (fw_t (fw_t fw_h)))))))))))))))))))))))) (fw_c (fw_t (fw_l (fw_l (fw_t (fw_t (fw_t (fw_t (fw_t (fw_t (fw_t (fw_t (fw_t (fw_t (fw_t (fw_t (fw_t (fw_t (fw_t (fw_t (fw_t (fw_t (fw_t (fw_t (fw_t (fw_t fw_h))))))))))))))))))))))))) (fw_c (fw_t (fw_l (fw_l (fw_t (fw_t (fw_t (fw_t (fw_t (fw_t (fw_t (fw_t (fw_t (fw_t (fw_t (fw_t (fw_t (fw_t (fw_t (fw_t (fw_t (fw_t (fw_t (fw_t (fw_t (fw_t (fw_t fw_h)))))))))))))))))))))))))) (fw_c (fw_t (fw_l (fw_l (fw_t (fw_t (fw_t (fw_t (fw_t fw_h)))))))) (fw_c (fw_t (fw_l (fw_r (fw_l fw_h)))) (fw_c (fw_t (fw_l (fw_r (fw_l (fw_t fw_h))))) (fw_c (fw_t (fw_l (fw_r (fw_l (fw_t (fw_t fw_h)))))) (fw_c (fw_t (fw_l (fw_r (fw_l (fw_t (fw_t (fw_t fw_h))))))) (fw_c (fw_t (fw_l (fw_r (fw_l (fw_t (fw_t (fw_t (fw_t fw_h)))))))) (fw_c (fw_t (fw_l (fw_r (fw_l (fw_t (fw_t (fw_t (fw_t (fw_t fw_h))))))))) (fw_c (fw_t (fw_l (fw_r (fw_l (fw_t (fw_t (fw_t (fw_t (fw_t (fw_t fw_h)))))))))) (fw_c (fw_t (fw_l (fw_r (fw_l (fw_t (fw_t (fw_t (fw_t (fw_t (fw_t (fw_t fw_h))))))))))) (fw_c (fw_t (fw_l (fw_r (fw_l (fw_t (fw_t (fw_t (fw_t (fw_t (fw_t (fw_t (fw_t fw_h)))))))))))) (fw_c (fw_t (fw_l (fw_r (fw_l (fw_t (fw_t (fw_t (fw_t (fw_t (fw_t (fw_t (fw_t (fw_t fw_h))))))))))))) (fw_c (fw_t (fw_l (fw_r (fw_l (fw_t (fw_t (fw_t (fw_t (fw_t (fw_t (fw_t (fw_t (fw_t (fw_t fw_h)))))))))))))) (fw_c (fw_t (fw_l (fw_r (fw_l (fw_t (fw_t (fw_t (fw_t (fw_t (fw_t (fw_t (fw_t (fw_t (fw_t (fw_t fw_h))))))))))))))) (fw_c (fw_t (fw_l (fw_r (fw_l (fw_t (fw_t (fw_t (fw_t (fw_t (fw_t (fw_t (fw_t (fw_t (fw_t (fw_t (fw_t fw_h)))))))))))))))) (fw_c (fw_t (fw_l (fw_r (fw_l (fw_t (fw_t (fw_t (fw_t (fw_t (fw_t (fw_t (fw_t (fw_t (fw_t (fw_t (fw_t (fw_t fw_h))))))))))))))))) (fw_c (fw_t (fw_l (fw_r (fw_l (fw_t (fw_t (fw_t (fw_t (fw_t (fw_t (fw_t (fw_t (fw_t (fw_t (fw_t (fw_t (fw_t (fw_t fw_h)))))))))))))))))) (fw_c (fw_t (fw_l (fw_r (fw_l (fw_t (fw_t (fw_t (fw_t (fw_t (fw_t (fw_t (fw_t (fw_t (fw_t (fw_t (fw_t (fw_t (fw_t (fw_t fw_h))))))))))))))))))) (fw_c (fw_t (fw_l (fw_r (fw_l (fw_t (fw_t (fw_t (fw_t (fw_t (fw_t (fw_t (fw_t (fw_t (fw_t (fw_t (fw_t (fw_t (fw_t (fw_t (fw_t fw_h)))))))))))))))))))) fw_n)))))))))))))))))))))))) (fw_c (fw_t (fw_l (fw_r (fw_l (fw_t (fw_t (fw_t (fw_t (fw_t (fw_t (fw_t (fw_t (fw_t (fw_t (fw_t (fw_t (fw_t (fw_t (fw_t (fw_t (fw_t fw_h))))))))))))))))))))) (fw_c (fw_t (fw_l (fw_r (fw_l (fw_t (fw_t (fw_t (fw_t (fw_t (fw_t (fw_t (fw_t (fw_t (fw_t (fw_t (fw_t (fw_t (fw_t (fw_t (fw_t (fw_t (fw_t fw_h)))))))))))))))))))))) (fw_c (fw_t (fw_l (fw_r (fw_l (fw_t (fw_t (fw_t (fw_t (fw_t (fw_t (fw_t (fw_t (fw_t (fw_t (fw_t (fw_t (fw_t (fw_t (fw_t (fw_t (fw_t (fw_t (fw_t fw_h))))))))))))))))))))))) (fw_c (fw_t (fw_l (fw_r (fw_l (fw_t (fw_t (fw_t (fw_t (fw_t (fw_t (fw_t (fw_t (fw_t (fw_t (fw_t (fw_t (fw_t (fw_t (fw_t (fw_t (fw_t (fw_t (fw_t (fw_t fw_h)))))))))))))))))))))))) (fw_c (fw_t (fw_l (fw_r (fw_l (fw_t (fw_t (fw_t (fw_t (fw_t (fw_t (fw_t (fw_t (fw_t (fw_t (fw_t (fw_t (fw_t (fw_t (fw_t (fw_t (fw_t (fw_t (fw_t (fw_t (fw_t fw_h))))))))))))))))))))))))) (fw_c (fw_t (fw_l (fw_r (fw_l (fw_t (fw_t (fw_t (fw_t (fw_t (fw_t (fw_t (fw_t (fw_t (fw_t (fw_t (fw_t (fw_t (fw_t (fw_t (fw_t (fw_t (fw_t (fw_t (fw_t (fw_t (fw_t fw_h)))))))))))))))))))))))))) (fw_c (fw_t (fw_l (fw_r (fw_l (fw_t (fw_t (fw_t (fw_t (fw_t (fw_t (fw_t (fw_t (fw_t (fw_t (fw_t (fw_t (fw_t (fw_t (fw_t (fw_t (fw_t (fw_t (fw_t (fw_t (fw_t (fw_t (fw_t fw_h))))))))))))))))))))))))))) (fw_c (fw_t (fw_l (fw_r (fw_r fw_h)))) (fw_c (fw_t (fw_l (fw_r (fw_r (fw_t fw_h))))) (fw_c (fw_t (fw_l (fw_r (fw_r (fw_t (fw_t fw_h)))))) (fw_c (fw_t (fw_l (fw_r (fw_r (fw_t (fw_t (fw_t fw_h))))))) (fw_c (fw_t (fw_l (fw_r (fw_r (fw_t (fw_t (fw_t (fw_t fw_h)))))))) (fw_c (fw_t (fw_l (fw_r (fw_r (fw_t (fw_t (fw_t (fw_t (fw_t fw_h))))))))) (fw_c (fw_t (fw_l (fw_r (fw_r (fw_t (fw_t (fw_t (fw_t (fw_t (fw_t fw_h)))))))))) (fw_c (fw_t (fw_l (fw_r (fw_r (fw_t (fw_t (fw_t (fw_t (fw_t (fw_t (fw_t fw_h))))))))))) (fw_c (fw_t (fw_l (fw_r (fw_r (fw_t (fw_t (fw_t (fw_t (fw_t (fw_t (fw_t (fw_t fw_h)))))))))))) (fw_c (fw_t (fw_l (fw_r (fw_r (fw_t (fw_t (fw_t (fw_t (fw_t (fw_t (fw_t (fw_t (fw_t fw_h))))))))))))) (fw_c (fw_t (fw_l (fw_r (fw_r (fw_t (fw_t (fw_t (fw_t (fw_t (fw_t (fw_t (fw_t (fw_t (fw_t fw_h)))))))))))))) (fw_c (fw_t (fw_l (fw_r (fw_r (fw_t (fw_t (fw_t (fw_t (fw_t (fw_t (fw_t (fw_t (fw_t (fw_t (fw_t fw_h))))))))))))))) (fw_c (fw_t (fw_l (fw_r (fw_r (fw_t (fw_t (fw_t (fw_t (fw_t (fw_t (fw_t (fw_t (fw_t (fw_t (fw_t (fw_t fw_h)))))))))))))))) (fw_c (fw_t (fw_l (fw_r (fw_r (fw_t (fw_t (fw_t (fw_t (fw_t (fw_t (fw_t (fw_t (fw_t (fw_t (fw_t (fw_t (fw_t fw_h))))))))))))))))) (fw_c (fw_t (fw_l (fw_r (fw_r (fw_t (fw_t (fw_t (fw_t (fw_t (fw_t (fw_t (fw_t (fw_t (fw_t (fw_t (fw_t (fw_t (fw_t fw_h)))))))))))))))))) fw_n))))))))))))))))))))))) (fun _ h => fw_t (fw_r h)))) (by decide +kernel)
set_option maxRecDepth 20000 in
theorem gX12_group_X12_findGroups : GoodIn wsX12_group (wsV RX12 149 RX12 yX12_findGroups wsX12_findGroups) := goodIn_app (goodIn_sub (fw_c (fw_t (fw_l (fw_l (fw_t (fw_t (fw_t (fw_t (fw_t (fw_t (fw_t (fw_t (fw_t (fw_t (fw_t (fw_t (fw_t (fw_t (fw_t (fw_t fw_h))))))))))))))))))) (fw_c (fw_t (fw_l (fw_l (fw_t (fw_t (fw_t (fw_t (fw_t (fw_t (fw_t (fw_t (fw_t (fw_t (fw_t (fw_t (fw_t (fw_t (fw_t (fw_t (fw_t fw_h)))))))))))))))))))) (fw_c (fw_t (fw_l (fw_l (fw_t (fw_t (fw_t (fw_t (fw_t (fw_t (fw_t (fw_t (fw_t (fw_t (fw_t (fw_t (fw_t (fw_t (fw_t (fw_t (fw_t (fw_t fw_h))))))))))))))))))))) (fw_c (fw_t (fw_l (fw_l (fw_t (fw_t (fw_t (fw_t (fw_t fw_h)))))))) fw_n)))) (by decide +kernel)) ggX12_group_X12_findGroups
theorem dX12_group_0 : decode cX12_group 0 = .ok (.aload_n 0, 1) := by decide +kernel
theorem dX12_group_1 : decode cX12_group 1 = .ok (.iload_n 1, 1) := by decide +kernel
theorem dX12_group_2 : decode cX12_group 2 = .ok (.invokevirtual 124, 3) := by decide +kernel
theorem dX12_group_5 : decode cX12_group 5 = .ok (.ifCond .ne 11, 3) := by decide +kernel
theorem dX12_group_8 : decode cX12_group 8 = .ok (.aload_n 0, 1) := by decide +kernel
theorem dX12_group_9 : decode cX12_group 9 = .ok (.ldc2_w 76, 3) := by decide +kernel
theorem dX12_group_12 : decode cX12_group 12 = .ok (.invokevirtual 56, 3) := by decide +kernel
theorem dX12_group_15 : decode cX12_group 15 = .ok (.lreturn, 1) := by decide +kernel
theorem dX12_group_16 : decode cX12_group 16 = .ok (.aload_n 0, 1) := by decide +kernel
theorem dX12_group_17 : decode cX12_group 17 = .ok (.invokevirtual 149, 3) := by decide +kernel
theorem dX12_group_20 : decode cX12_group 20 = .ok (.aload_n 0, 1) := by decide +kernel
theorem dX12_group_21 : decode cX12_group 21 = .ok (.getfield 35, 3) := by decide +kernel
theorem dX12_group_24 : decode cX12_group 24 = .ok (.iload_n 1, 1) := by decide +kernel
theorem dX12_group_25 : decode cX12_group 25 = .ok (.iaload, 1) := by decide +kernel
theorem dX12_group_26 : decode cX12_group 26 = .ok (.i2l, 1) := by decide +kernel
theorem dX12_group_27 : decode cX12_group 27 = .ok (.lreturn, 1) := by decide +kernel
set_option maxRecDepth 20000 in
theorem ggX12_groups_X12_findGroups : GoodIn wsX12_groups wsX12_findGroups := goodIn_sub (fw_c (fw_t (fw_l (fw_l (fw_t (fw_t (fw_t (fw_t (fw_t fw_h)))))))) (fw_a (fw_a (fw_c (fw_t (fw_l (fw_l fw_h))) (fw_c (fw_t (fw_l (fw_l (fw_t (fw_t (fw_t (fw_t (fw_t (fw_t fw_h))))))))) (fw_c (fw_t (fw_l (fw_l (fw_t (fw_t (fw_t (fw_t (fw_t (fw_t (fw_t fw_h)))))))))) (fw_c (fw_t (fw_l (fw_l (fw_t (fw_t (fw_t (fw_t (fw_t (fw_t (fw_t (fw_t fw_h))))))))))) (fw_c (fw_t (fw_l (fw_l (fw_t (fw_t (fw_t (fw_t (fw_t (fw_t (fw_t (fw_t (fw_t fw_h)))))))))))) (fw_c (fw_t (fw_l (fw_l (fw_t (fw_t (fw_t (fw_t (fw_t (fw_t (fw_t (fw_t (fw_t (fw_t fw_h))))))))))))) (fw_c (fw_t (fw_l (fw_l (fw_t (fw_t (fw_t (fw_t fw_h))))))) (fw_c (fw_t (fw_l (fw_l (fw_t (fw_t (fw_t (fw_t (fw_t (fw_t (fw_t (fw_t (fw_t (fw_t (fw_t fw_h)))))))))))))) (fw_c (fw_t (fw_l (fw_l (fw_t (fw_t (fw_t (fw_t (fw_t (fw_t (fw_t (fw_t (fw_t (fw_t (fw_t (fw_t fw_h))))))))))))))) (fw_c (fw_t (fw_l (fw_l (fw_t (fw_t (fw_t (fw_t (fw_t (fw_t (fw_t (fw_t (fw_t (fw_t (fw_t (fw_t (fw_t fw_h)))))))))))))))) (fw_c (fw_t (fw_l (fw_l (fw_t (fw_t (fw_t (fw_t (fw_t (fw_t (fw_t (fw_t (fw_t (fw_t (fw_t (fw_t (fw_t (fw_t fw_h))))))))))))))))) (fw_c (fw_t (fw_l (fw_l (fw_t (fw_t (fw_t (fw_t (fw_t (fw_t (fw_t (fw_t (fw_t (fw_t (fw_t (fw_t (fw_t (fw_t (fw_t fw_h)))))))))))))))))) (fw_c (fw_t (fw_l (fw_l (fw_t (fw_t (fw_t (fw_t (fw_t (fw_t (fw_t (fw_t (fw_t (fw_t (fw_t (fw_t (fw_t (fw_t (fw_t (fw_t fw_h))))))))))))))))))) (fw_c (fw_t (fw_l (fw_l (fw_t (fw_t (fw_t (fw_t (fw_t (fw_t (fw_t (fw_t (fw_t (fw_t (fw_t (fw_t (fw_t (fw_t (fw_t (fw_t (fw_t fw_h)))))))))))))))))))) (fw_c (fw_t (fw_l (fw_l (fw_t (fw_t (fw_t (fw_t (fw_t (fw_t (fw_t (fw_t (fw_t (fw_t (fw_t (fw_t (fw_t (fw_t (fw_t (fw_t (fw_t (fw_t fw_h))))))))))))))))))))) (fw_c (fw_t (fw_l (fw_l (fw_t (fw_t (fw_t (fw_t (fw_t (fw_t (fw_t (fw_t (fw_t (fw_t (fw_t (fw_t (fw_t (fw_t (fw_t (fw_t (fw_t (fw_t (fw_t fw_h)))))))))))))))))))))) (fw_c (fw_t (fw_l (fw_l (fw_t (fw_t (fw_t (fw_t (fw_t (fw_t (fw_t (fw_t (fw_t (fw_t (fw_t (fw_t (fw_t (fw_t (fw_t (fw_t (fw_t (fw_t (fw_t (fw_t fw_h))))))))))))))))))))))) (fw_c (fw_t (fw_l (fw_l (fw_t (fw_t (fw_t (fw_t (fw_t (fw_t (fw_t (fw_t (fw_t (fw_t (fw_t (fw_t (fw_t (fw_t (fw_t (fw_t (fw_t (fw_t (fw_t (fw_t (fw_t fw_h)))))))))))))))))))))))) (fw_c (fw_t (fw_l (fw_l (fw_t (fw_t (fw_t (fw_t (fw_t (fw_t (fw_t (fw_t (fw_t (fw_t (fw_t (fw_t (fw_t (fw_t (fw_t (fw_t (fw_t (fw_t (fw_t (fw_t (fw_t (fw_t fw_h))))))))))))))))))))))))) (fw_c (fw_t (fw_l (fw_l (fw_t (fw_t (fw_t (fw_t (fw_t (fw_t (fw_t (fw_t (fw_t (fw_t (fw_t (fw_t (fw_t (fw_t (fw_t (fw_t (fw_t (fw_t (fw_t (fw_t (fw_t (fw_t (fw_t fw_h)))))))))))))))))))))))))) (fw_c (fw_t (fw_l (fw_r (fw_l fw_h)))) (fw_c (fw_t (fw_l (fw_r (fw_l (fw_t fw_h))))) (fw_c (fw_t (fw_l (fw_r (fw_l (fw_t (fw_t fw_h)))))) (fw_c (fw_t (fw_l (fw_r (fw_l (fw_t (fw_t (fw_t fw_h))))))) fw_n)))))))))))))))))))))))) (fw_c (fw_t (fw_l (fw_r (fw_l (fw_t (fw_t (fw_t (fw_t fw_h)))))))) (fw_c (fw_t (fw_l (fw_r (fw_l (fw_t (fw_t (fw_t (fw_t (fw_t fw_h))))))))) (fw_c (fw_t (fw_l (fw_r (fw_l (fw_t (fw_t (fw_t (fw_t (fw_t (fw_t fw_h)))))))))) (fw_c (fw_t (fw_l (fw_r (fw_l (fw_t (fw_t (fw_t (fw_t (fw_t (fw_t (fw_t fw_h))))))))))) (fw_c (fw_t (fw_l (fw_r (fw_l (fw_t (fw_t (fw_t (fw_t (fw_t (fw_t (fw_t (fw_t fw_h)))))))))))) (fw_c (fw_t (fw_l (fw_r (fw_l (fw_t (fw_t (fw_t (fw_t (fw_t (fw_t (fw_t (fw_t (fw_t fw_h))))))))))))) (fw_c (fw_t (fw_l (fw_r (fw_l (fw_t (fw_t (fw_t (fw_t (fw_t (fw_t (fw_t (fw_t (fw_t (fw_t fw_h)))))))))))))) (fw_c (fw_t (fw_l (fw_r (fw_l (fw_t (fw_t (fw_t (fw_t (fw_t (fw_t (fw_t (fw_t (fw_t (fw_t (fw_t fw_h))))))))))))))) (fw_c (fw_t (fw_l (fw_r (fw_l (fw_t (fw_t (fw_t (fw_t (fw_t (fw_t (fw_t (fw_t (fw_t (fw_t (fw_t (fw_t fw_h)))))))))))))))) (fw_c (fw_t (fw_l (fw_r (fw_l (fw_t (fw_t (fw_t (fw_t (fw_t (fw_t (fw_t (fw_t (fw_t (fw_t (fw_t (fw_t (fw_t fw_h))))))))))))))))) (fw_c (fw_t (fw_l (fw_r (fw_l (fw_t (fw_t (fw_t (fw_t (fw_t (fw_t (fw_t (fw_t (fw_t (fw_t (fw_t (fw_t (fw_t (fw_t fw_h)))))))))))))))))) (fw_c (fw_t (fw_l (fw_r (fw_l (fw_t (fw_t (fw_t (fw_t (fw_t (fw_t (fw_t (fw_t (fw_t (fw_t (fw_t (fw_t (fw_t (fw_t (fw_t fw_h))))))))))))))))))) (fw_c (fw_t (fw_l (fw_r (fw_l (fw_t (fw_t (fw_t (fw_t (fw_t (fw_t (fw_t (fw_t (fw_t (fw_t (fw_t (fw_t (fw_t (fw_t (fw_t (fw_t fw_h)))))))))))))))))))) (fw_c (fw_t (fw_l (fw_r (fw_l (fw_t (fw_t (fw_t (fw_t (fw_t (fw_t (fw_t (fw_t (fw_t (fw_t (fw_t (fw_t (fw_t (fw_t (fw_t (fw_t (fw_t fw_h))))))))))))))))))))) (fw_c (fw_t (fw_l (fw_r (fw_l (fw_t (fw_t (fw_t (fw_t (fw_t (fw_t (fw_t (fw_t (fw_t (fw_t (fw_t (fw_t (fw_t (fw_t (fw_t (fw_t (fw_t (fw_t fw_h)))))))))))))))))))))) (fw_c (fw_t (fw_l (fw_r (fw_l (fw_t (fw_t (fw_t (fw_t (fw_t (fw_t (fw_t (fw_t (fw_t (fw_t (fw_t (fw_t (fw_t (fw_t (fw_t (fw_t (fw_t (fw_t (fw_t fw_h))))))))))))))))))))))) (fw_c (fw_t (fw_l (fw_r (fw_l (fw_t (fw_t (fw_t (fw_t (fw_t (fw_t (fw_t (fw_t (fw_t (fw_t (fw_t (fw_t (fw_t (fw_t (fw_t (fw_t (fw_t (fw_t (fw_t (fw_t fw_h)))))))))))))))))))))))) (fw_c (fw_t (fw_l (fw_r (fw_l (fw_t (fw_t (fw_t (fw_t (fw_t (fw_t (fw_t (fw_t (fw_t (fw_t (fw_t (fw_t (fw_t (fw_t (fw_t (fw_t (fw_t (fw_t (fw_t (fw_t (fw_t fw_h))))))))))))))))))))))))) (fw_c (fw_t (fw_l (fw_r (fw_l (fw_t (fw_t (fw_t (fw_t (fw_t (fw_t (fw_t (fw_t (fw_t (fw_t (fw_t (fw_t (fw_t (fw_t (fw_t (fw_t (fw_t (fw_t (fw_t (fw_t (fw_t (fw_t fw_h)))))))))))))))))))))))))) (fw_c (fw_t (fw_l (fw_r (fw_l (fw_t (fw_t (fw_t (fw_t (fw_t (fw_t (fw_t (fw_t (fw_t (fw_t (fw_t (fw_t (fw_t (fw_t (fw_t (fw_t (fw_t (fw_t (fw_t (fw_t (fw_t (fw_t (fw_t fw_h))))))))))))))))))))))))))) (fw_c (fw_t (fw_l (fw_r (fw_r fw_h)))) (fw_c (fw_t (fw_l (fw_r (fw_r (fw_t fw_h))))) fw_n))))))))))))))))))))))) (fun _ h => fw_t (fw_r h)))) (by decide +kernel)
set_option maxRecDepth 20000 in
theorem gX12_groups_X12_findGroups : GoodIn wsX12_groups (wsV RX12 149 RX12 yX12_findGroups wsX12_findGroups) := goodIn_app (goodIn_sub (fw_c (fw_t (fw_l (fw_l (fw_t fw_h)))) (fw_c (fw_t (fw_l (fw_l (fw_t (fw_t fw_h))))) (fw_c (fw_t (fw_l (fw_l (fw_t (fw_t (fw_t fw_h)))))) (fw_c (fw_t (fw_l (fw_l (fw_t (fw_t (fw_t (fw_t fw_h))))))) fw_n)))) (by decide +kernel)) ggX12_groups_X12_findGroups
theorem dX12_groups_0 : decode cX12_groups 0 = .ok (.aload_n 0, 1) := by decide +kernel
theorem dX12_groups_1 : decode cX12_groups 1 = .ok (.invokevirtual 149, 3) := by decide +kernel
theorem dX12_groups_4 : decode cX12_groups 4 = .ok (.aload_n 0, 1) := by decide +kernel
theorem dX12_groups_5 : decode cX12_groups 5 = .ok (.getfield 139, 3) := by decide +kernel
theorem dX12_groups_8 : decode cX12_groups 8 = .ok (.i2l, 1) := by decide +kernel
theorem dX12_groups_9 : decode cX12_groups 9 = .ok (.lreturn, 1) := by decide +kernel
set_option maxRecDepth 20000 in
theorem ggX12_isGroup_X12_findGroups : GoodIn wsX12_isGroup wsX12_findGroups := goodIn_sub (fw_c (fw_t (fw_l (fw_l (fw_t (fw_t (fw_t (fw_t (fw_t fw_h)))))))) (fw_a (fw_a (fw_c (fw_t (fw_l (fw_l fw_h))) (fw_c (fw_t (fw_l (fw_l (fw_t (fw_t (fw_t (fw_t (fw_t (fw_t fw_h))))))))) (fw_c (fw_t (fw_l (fw_l (fw_t (fw_t (fw_t (fw_t (fw_t (fw_t (fw_t fw_h)))))))))) (fw_c (fw_t (fw_l (fw_l (fw_t (fw_t (fw_t (fw_t (fw_t (fw_t (fw_t (fw_t fw_h))))))))))) (fw_c (fw_t (fw_l (fw_l (fw_t (fw_t (fw_t (fw_t (fw_t (fw_t (fw_t (fw_t (fw_t fw_h)))))))))))) (fw_c (fw_t (fw_l (fw_l (fw_t (fw_t (fw_t (fw_t (fw_t (fw_t (fw_t (fw_t (fw_t (fw_t fw_h))))))))))))) (fw_c (fw_t (fw_l (fw_l (fw_t (fw_t (fw_t (fw_t fw_h))))))) (fw_c (fw_t (fw_l (fw_l (fw_t (fw_t (fw_t (fw_t (fw_t (fw_t (fw_t (fw_t (fw_t (fw_t (fw_t fw_h)))))))))))))) (fw_c (fw_t (fw_l (fw_l (fw_t (fw_t (fw_t (fw_t (fw_t (fw_t (fw_t (fw_t (fw_t (fw_t (fw_t (fw_t fw_h))))))))))))))) (fw_c (fw_t (fw_l (fw_l (fw_t (fw_t (fw_t (fw_t (fw_t (fw_t (fw_t (fw_t (fw_t (fw_t (fw_t (fw_t (fw_t fw_h)))))))))))))))) (fw_c (fw_t (fw_l (fw_l (fw_t (fw_t (fw_t (fw_t (fw_t (fw_t (fw_t (fw_t (fw_t (fw_t (fw_t (fw_t (fw_t (fw_t fw_h))))))))))))))))) (fw_c (fw_t (fw_l (fw_l (fw_t (fw_t (fw_t (fw_t (fw_t (fw_t (fw_t (fw_t (fw_t (fw_t (fw_t (fw_t (fw_t (fw_t (fw_t fw_h)))))))))))))))))) (fw_c (fw_t (fw_l (fw_l (fw_t (fw_t (fw_t (fw_t (fw_t (fw_t (fw_t (fw_t (fw_t (fw_t (fw_t (fw_t (fw_t (fw_t (fw_t (fw_t fw_h))))))))))))))))))) (fw_c (fw_t (fw_l (fw_l (fw_t (fw_t (fw_t (fw_t (fw_t (fw_t (fw_t (fw_t (fw_t (fw_t (fw_t (fw_t (fw_t (fw_t (fw_t (fw_t (fw_t fw_h)))))))))))))))))))) (fw_c (fw_t (fw_l (fw_l (fw_t (fw_t (fw_t (fw_t (fw_t (fw_t (fw_t (fw_t (fw_t (fw_t (fw_t (fw_t (fw_t (fw_t (fw_t (fw_t (fw_t (fw_t fw_h))))))))))))))))))))) (fw_c (fw_t (fw_l (fw_l (fw_t (fw_t (fw_t (fw_t (fw_t (fw_t (fw_t (fw_t (fw_t (fw_t (fw_t (fw_t (fw_t (fw_t (fw_t (fw_t (fw_t (fw_t (fw_t fw_h)))))))))))))))))))))) (fw_c (fw_t (fw_l (fw_l (fw_t (fw_t (fw_t (fw_t (fw_t (fw_t (fw_t (fw_t (fw_t (fw_t (fw_t (fw_t (fw_t (fw_t (fw_t (fw_t (fw_t (fw_t (fw_t (fw_t fw_h))))))))))))))))))))))) (fw_c (fw_t (fw_l (fw_l (fw_t (fw_t (fw_t (fw_t (fw_t (fw_t (fw_t (fw_t (fw_t (fw_t (fw_t (fw_t (fw_t (fw_t (fw_t (fw_t (fw_t (fw_t (fw_t (fw_t (fw_t fw_h)))))))))))))))))))))))) (fw_c (fw_t (fw_l (fw_l (fw_t (fw_t (fw_t (fw_t (fw_t (fw_t (fw_t (fw_t (fw_t (fw_t (fw_t (fw_t (fw_t (fw_t (fw_t (fw_t (fw_t (fw_t (fw_t (fw_t (fw_t (fw_t fw_h))))))))))))))))))))))))) (fw_c (fw_t (fw_l (fw_l (fw_t (fw_t (fw_t (fw_t (fw_t (fw_t (fw_t (fw_t (fw_t (fw_t (fw_t (fw_t (fw_t (fw_t (fw_t (fw_t (fw_t (fw_t (fw_t (fw_t (fw_t (fw_t (fw_t fw_h)))))))))))))))))))))))))) (fw_c (fw_t (fw_l (fw_r (fw_l fw_h)))) (fw_c (fw_t (fw_l (fw_r (fw_l (fw_t fw_h))))) (fw_c (fw_t (fw_l (fw_r (fw_l (fw_t (fw_t fw_h)))))) (fw_c (fw_t (fw_l (fw_r (fw_l (fw_t (fw_t (fw_t fw_h))))))) fw_n)))))))))))))))))))))))) (fw_c (fw_t (fw_l (fw_r (fw_l (fw_t (fw_t (fw_t (fw_t fw_h)))))))) (fw_c (fw_t (fw_l (fw_r (fw_l (fw_t (fw_t (fw_t (fw_t (fw_t fw_h))))))))) (fw_c (fw_t (fw_l (fw_r (fw_l (fw_t (fw_t (fw_t (fw_t (fw_t (fw_t fw_h)))))))))) (fw_c (fw_t (fw_l (fw_r (fw_l (fw_t (fw_t (fw_t (fw_t (fw_t (fw_t (fw_t fw_h))))))))))) (fw_c (fw_t (fw_l (fw_r (fw_l (fw_t (fw_t (fw_t (fw_t (fw_t (fw_t (fw_t (fw_t fw_h)))))))))))) (fw_c (fw_t (fw_l (fw_r (fw_l (fw_t (fw_t (fw_t (fw_t (fw_t (fw_t (fw_t (fw_t (fw_t fw_h))))))))))))) (fw_c (fw_t (fw_l (fw_r (fw_l (fw_t (fw_t (fw_t (fw_t (fw_t (fw_t (fw_t (fw_t (fw_t (fw_t fw_h)))))))))))))) (fw_c (fw_t (fw_l (fw_r (fw_l (fw_t (fw_t (fw_t (fw_t (fw_t (fw_t (fw_t (fw_t (fw_t (fw_t (fw_t fw_h))))))))))))))) (fw_c (fw_t (fw_l (fw_r (fw_l (fw_t (fw_t (fw_t (fw_t (fw_t (fw_t (fw_t (fw_t (fw_t (fw_t (fw_t (fw_t fw_h)))))))))))))))) (fw_c (fw_t (fw_l (fw_r (fw_l (fw_t (fw_t (fw_t (fw_t (fw_t (fw_t (fw_t (fw_t (fw_t (fw_t (fw_t (fw_t (fw_t fw_h))))))))))))))))) (fw_c (fw_t (fw_l (fw_r (fw_l (fw_t (fw_t (fw_t (fw_t (fw_t (fw_t (fw_t (fw_t (fw_t (fw_t (fw_t (fw_t (fw_t (fw_t fw_h)))))))))))))))))) (fw_c (fw_t (fw_l (fw_r (fw_l (fw_t (fw_t (fw_t (fw_t (fw_t (fw_t (fw_t (fw_t (fw_t (fw_t (fw_t (fw_t (fw_t (fw_t (fw_t fw_h))))))))))))))))))) (fw_c (fw_t (fw_l (fw_r (fw_l (fw_t (fw_t (fw_t (fw_t (fw_t (fw_t (fw_t (fw_t (fw_t (fw_t (fw_t (fw_t (fw_t (fw_t (fw_t (fw_t fw_h)))))))))))))))))))) (fw_c (fw_t (fw_l (fw_r (fw_l (fw_t (fw_t (fw_t (fw_t (fw_t (fw_t (fw_t (fw_t (fw_t (fw_t (fw_t (fw_t (fw_t (fw_t (fw_t (fw_t (fw_t fw_h))))))))))))))))))))) (fw_c (fw_t (fw_l (fw_r (fw_l (fw_t (fw_t (fw_t (fw_t (fw_t (fw_t (fw_t (fw_t (fw_t (fw_t (fw_t (fw_t (fw_t (fw_t (fw_t (fw_t (fw_t (fw_t fw_h)))))))))))))))))))))) (fw_c (fw_t (fw_l (fw_r (fw_l (fw_t (fw_t (fw_t (fw_t (fw_t (fw_t (fw_t (fw_t (fw_t (fw_t (fw_t (fw_t (fw_t (fw_t (fw_t (fw_t (fw_t (fw_t (fw_t fw_h))))))))))))))))))))))) (fw_c (fw_t (fw_l (fw_r (fw_l (fw_t (fw_t (fw_t (fw_t (fw_t (fw_t (fw_t (fw_t (fw_t (fw_t (fw_t (fw_t (fw_t (fw_t (fw_t (fw_t (fw_t (fw_t (fw_t (fw_t fw_h)))))))))))))))))))))))) (fw_c (fw_t (fw_l (fw_r (fw_l (fw_t (fw_t (fw_t (fw_t (fw_t (fw_t (fw_t (fw_t (fw_t (fw_t (fw_t (fw_t (fw_t (fw_t (fw_t (fw_t (fw_t (fw_t (fw_t (fw_t (fw_t fw_h))))))))))))))))))))))))) (fw_c (fw_t (fw_l (fw_r (fw_l (fw_t (fw_t (fw_t (fw_t (fw_t (fw_t (fw_t (fw_t (fw_t (fw_t (fw_t (fw_t (fw_t (fw_t (fw_t (fw_t (fw_t (fw_t (fw_t (fw_t (fw_t (fw_t fw_h)))))))))))))))))))))))))) (fw_c (fw_t (fw_l (fw_r (fw_l (fw_t (fw_t (fw_t (fw_t (fw_t (fw_t (fw_t (fw_t (fw_t (fw_t (fw_t (fw_t (fw_t (fw_t (fw_t (fw_t (fw_t (fw_t (fw_t (fw_t (fw_t (fw_t (fw_t fw_h))))))))))))))))))))))))))) (fw_c (fw_t (fw_l (fw_r (fw_r fw_h)))) (fw_c (fw_t (fw_l (fw_r (fw_r (fw_t fw_h))))) fw_n))))))))))))))))))))))) (fun _ h => fw_t (fw_r h)))) (by decide +kernel)
set_option maxRecDepth 20000 in
theorem gX12_isGroup_X12_findGroups : GoodIn wsX12_isGroup (wsV RX12 149 RX12 yX12_findGroups wsX12_findGroups) := goodIn_app (goodIn_sub (fw_c (fw_t (fw_l (fw_l (fw_t fw_h)))) (fw_c (fw_t (fw_l (fw_l (fw_t (fw_t fw_h))))) (fw_c (fw_t (fw_l (fw_l (fw_t (fw_t (fw_t fw_h)))))) (fw_c (fw_t (fw_l (fw_l (fw_t (fw_t (fw_t (fw_t fw_h))))))) fw_n)))) (by decide +kernel)) ggX12_isGroup_X12_findGroups
set_option maxRecDepth 20000 in
theorem ggX12_isGroup_X12_in : GoodIn wsX12_isGroup wsX12_in := goodIn_sub (fw_c (fw_t (fw_l (fw_r (fw_r (fw_t (fw_t (fw_t (fw_t fw_h)))))))) (fw_n)) (by decide +kernel)
set_option maxRecDepth 20000 in
theorem gX12_isGroup_X12_in : GoodIn wsX12_isGroup (va_wsS RX12 60 yX12_in wsX12_in) := goodIn_app (goodIn_sub (fw_c (fw_t (fw_l (fw_r (fw_r (fw_t (fw_t fw_h)))))) (fw_c (fw_t (fw_l (fw_r (fw_r (fw_t (fw_t (fw_t fw_h))))))) (fw_c (fw_t (fw_l (fw_l (fw_t (fw_t (fw_t (fw_t fw_h))))))) fw_n))) (by decide +kernel)) ggX12_isGroup_X12_in
theorem dX12_isGroup_0 : decode cX12_isGroup 0 = .ok (.aload_n 0, 1) := by decide +kernel
theorem dX12_isGroup_1 : decode cX12_isGroup 1 = .ok (.invokevirtual 149, 3) := by decide +kernel
theorem dX12_isGroup_4 : decode cX12_isGroup 4 = .ok (.iload_n 1, 1) := by decide +kernel
theorem dX12_isGroup_5 : decode cX12_isGroup 5 = .ok (.iconst 0, 1) := by decide +kernel
theorem dX12_isGroup_6 : decode cX12_isGroup 6 = .ok (.aload_n 0, 1) := by decide +kernel
theorem dX12_isGroup_7 : decode cX12_isGroup 7 = .ok (.getfield 139, 3) := by decide +kernel
theorem dX12_isGroup_10 : decode cX12_isGroup 10 = .ok (.iconst 1, 1) := by decide +kernel
theorem dX12_isGroup_11 : decode cX12_isGroup 11 = .ok (.isub, 1) := by decide +kernel
theorem dX12_isGroup_12 : decode cX12_isGroup 12 = .ok (.invokestatic 60, 3) := by decide +kernel
theorem dX12_isGroup_15 : decode cX12_isGroup 15 = .ok (.ireturn, 1) := by decide +kernel
set_option maxRecDepth 20000 in
theorem ggX12_rivals_X12_isGroup : GoodIn wsX12_rivals wsX12_isGroup := goodIn_sub (fw_c (fw_t (fw_l (fw_l (fw_t (fw_t (fw_t (fw_t (fw_t (fw_t (fw_t fw_h)))))))))) (fw_a (fw_a (fw_c (fw_t (fw_l (fw_l (fw_t (fw_t (fw_t (fw_t (fw_t (fw_t (fw_t (fw_t fw_h))))))))))) (fw_c (fw_t (fw_l (fw_l (fw_t (fw_t (fw_t (fw_t (fw_t (fw_t (fw_t (fw_t (fw_t fw_h)))))))))))) (fw_c (fw_t (fw_l (fw_l (fw_t (fw_t (fw_t (fw_t (fw_t (fw_t (fw_t (fw_t (fw_t (fw_t fw_h))))))))))))) (fw_c (fw_t (fw_l (fw_l (fw_t (fw_t (fw_t (fw_t (fw_t (fw_t (fw_t (fw_t (fw_t (fw_t (fw_t fw_h)))))))))))))) (fw_c (fw_t (fw_l (fw_l (fw_t (fw_t (fw_t (fw_t (fw_t (fw_t fw_h))))))))) (fw_c (fw_t (fw_l (fw_l (fw_t (fw_t (fw_t (fw_t (fw_t (fw_t (fw_t (fw_t (fw_t (fw_t (fw_t (fw_t fw_h))))))))))))))) (fw_c (fw_t (fw_l (fw_l (fw_t fw_h)))) (fw_c (fw_t (fw_l (fw_l (fw_t (fw_t fw_h))))) (fw_c (fw_t (fw_l (fw_l (fw_t (fw_t (fw_t (fw_t (fw_t (fw_t (fw_t (fw_t (fw_t (fw_t (fw_t (fw_t (fw_t fw_h)))))))))))))))) (fw_c (fw_t (fw_l (fw_l (fw_t (fw_t (fw_t (fw_t (fw_t (fw_t (fw_t (fw_t (fw_t (fw_t (fw_t (fw_t (fw_t (fw_t fw_h))))))))))))))))) (fw_c (fw_t (fw_l (fw_l (fw_t (fw_t (fw_t (fw_t (fw_t (fw_t (fw_t (fw_t (fw_t (fw_t (fw_t (fw_t (fw_t (fw_t (fw_t fw_h)))))))))))))))))) (fw_c (fw_t (fw_l (fw_l (fw_t (fw_t (fw_t (fw_t (fw_t (fw_t (fw_t (fw_t (fw_t (fw_t (fw_t (fw_t (fw_t (fw_t (fw_t (fw_t fw_h))))))))))))))))))) (fw_c (fw_t (fw_l (fw_l (fw_t (fw_t (fw_t (fw_t (fw_t (fw_t (fw_t (fw_t (fw_t (fw_t (fw_t (fw_t (fw_t (fw_t (fw_t (fw_t (fw_t fw_h)))))))))))))))))))) (fw_c (fw_t (fw_l (fw_l (fw_t (fw_t (fw_t (fw_t (fw_t (fw_t (fw_t (fw_t (fw_t (fw_t (fw_t (fw_t (fw_t (fw_t (fw_t (fw_t (fw_t (fw_t fw_h))))))))))))))))))))) (fw_c (fw_t (fw_l (fw_l (fw_t (fw_t (fw_t (fw_t (fw_t (fw_t (fw_t (fw_t (fw_t (fw_t (fw_t (fw_t (fw_t (fw_t (fw_t (fw_t (fw_t (fw_t (fw_t fw_h)))))))))))))))))))))) (fw_c (fw_t (fw_l (fw_l (fw_t (fw_t (fw_t (fw_t (fw_t (fw_t (fw_t (fw_t (fw_t (fw_t (fw_t (fw_t (fw_t (fw_t (fw_t (fw_t (fw_t (fw_t (fw_t (fw_t fw_h))))))))))))))))))))))) (fw_c (fw_t (fw_l (fw_l (fw_t (fw_t (fw_t (fw_t (fw_t (fw_t (fw_t (fw_t (fw_t (fw_t (fw_t (fw_t (fw_t (fw_t (fw_t (fw_t (fw_t (fw_t (fw_t (fw_t (fw_t fw_h)))))))))))))))))))))))) (fw_c (fw_t (fw_l (fw_l (fw_t (fw_t (fw_t (fw_t (fw_t (fw_t (fw_t (fw_t (fw_t (fw_t (fw_t (fw_t (fw_t (fw_t (fw_t (fw_t (fw_t (fw_t (fw_t (fw_t (fw_t (fw_t fw_h))))))))))))))))))))))))) (fw_c (fw_t (fw_l (fw_l (fw_t (fw_t (fw_t (fw_t (fw_t (fw_t (fw_t (fw_t (fw_t (fw_t (fw_t (fw_t (fw_t (fw_t (fw_t (fw_t (fw_t (fw_t (fw_t (fw_t (fw_t (fw_t (fw_t fw_h)))))))))))))))))))))))))) (fw_c (fw_t (fw_l (fw_r (fw_l fw_h)))) (fw_c (fw_t (fw_l (fw_r (fw_l (fw_t fw_h))))) (fw_c (fw_t (fw_l (fw_r (fw_l (fw_t (fw_t fw_h)))))) (fw_c (fw_t (fw_l (fw_r (fw_l (fw_t (fw_t (fw_t fw_h))))))) (fw_c (fw_t (fw_l (fw_r (fw_l (fw_t (fw_t (fw_t (fw_t fw_h)))))))) fw_n)))))))))))))))))))))))) (fw_a (fw_c (fw_t (fw_l (fw_r (fw_l (fw_t (fw_t (fw_t (fw_t (fw_t fw_h))))))))) (fw_c (fw_t (fw_l (fw_r (fw_l (fw_t (fw_t (fw_t (fw_t (fw_t (fw_t fw_h)))))))))) (fw_c (fw_t (fw_l (fw_r (fw_l (fw_t (fw_t (fw_t (fw_t (fw_t (fw_t (fw_t fw_h))))))))))) (fw_c (fw_t (fw_l (fw_r (fw_l (fw_t (fw_t (fw_t (fw_t (fw_t (fw_t (fw_t (fw_t fw_h)))))))))))) (fw_c (fw_t (fw_l (fw_r (fw_l (fw_t (fw_t (fw_t (fw_t (fw_t (fw_t (fw_t (fw_t (fw_t fw_h))))))))))))) (fw_c (fw_t (fw_l (fw_r (fw_l (fw_t (fw_t (fw_t (fw_t (fw_t (fw_t (fw_t (fw_t (fw_t (fw_t fw_h)))))))))))))) (fw_c (fw_t (fw_l (fw_r (fw_l (fw_t (fw_t (fw_t (fw_t (fw_t (fw_t (fw_t (fw_t (fw_t (fw_t (fw_t fw_h))))))))))))))) (fw_c (fw_t (fw_l (fw_r (fw_l (fw_t (fw_t (fw_t (fw_t (fw_t (fw_t (fw_t (fw_t (fw_t (fw_t (fw_t (fw_t fw_h)))))))))))))))) (fw_c (fw_t (fw_l (fw_r (fw_l (fw_t (fw_t (fw_t (fw_t (fw_t (fw_t (fw_t (fw_t (fw_t (fw_t (fw_t (fw_t (fw_t fw_h))))))))))))))))) (fw_c (fw_t (fw_l (fw_r (fw_l (fw_t (fw_t (fw_t (fw_t (fw_t (fw_t (fw_t (fw_t (fw_t (fw_t (fw_t (fw_t (fw_t (fw_t fw_h)))))))))))))))))) (fw_c (fw_t (fw_l (fw_r (fw_l (fw_t (fw_t (fw_t (fw_t (fw_t (fw_t (fw_t (fw_t (fw_t (fw_t (fw_t (fw_t (fw_t (fw_t (fw_t fw_h))))))))))))))))))) (fw_c (fw_t (fw_l (fw_r (fw_l (fw_t (fw_t (fw_t (fw_t (fw_t (fw_t (fw_t (fw_t (fw_t (fw_t (fw_t (fw_t (fw_t (fw_t (fw_t (fw_t fw_h)))))))))))))))))))) (fw_c (fw_t (fw_l (fw_r (fw_l (fw_t (fw_t (fw_t (fw_t (fw_t (fw_t (fw_t (fw_t (fw_t (fw_t (fw_t (fw_t (fw_t (fw_t (fw_t (fw_t (fw_t fw_h))))))))))))))))))))) (fw_c (fw_t (fw_l (fw_r (fw_l (fw_t (fw_t (fw_t (fw_t (fw_t (fw_t (fw_t (fw_t (fw_t (fw_t (fw_t (fw_t (fw_t (fw_t (fw_t (fw_t (fw_t (fw_t fw_h)))))))))))))))))))))) (fw_c (fw_t (fw_l (fw_r (fw_l (fw_t (fw_t (fw_t (fw_t (fw_t (fw_t (fw_t (fw_t (fw_t (fw_t (fw_t (fw_t (fw_t (fw_t (fw_t (fw_t (fw_t (fw_t (fw_t fw_h))))))))))))))))))))))) (fw_c (fw_t (fw_l (fw_r (fw_l (fw_t (fw_t (fw_t (fw_t (fw_t (fw_t (fw_t (fw_t (fw_t (fw_t (fw_t (fw_t (fw_t (fw_t (fw_t (fw_t (fw_t (fw_t (fw_t (fw_t fw_h)))))))))))))))))))))))) (fw_c (fw_t (fw_l (fw_r (fw_l (fw_t (fw_t (fw_t (fw_t (fw_t (fw_t (fw_t (fw_t (fw_t (fw_t (fw_t (fw_t (fw_t (fw_t (fw_t (fw_t (fw_t (fw_t (fw_t (fw_t (fw_t fw_h))))))))))))))))))))))))) (fw_c (fw_t (fw_l (fw_r (fw_l (fw_t (fw_t (fw_t (fw_t (fw_t (fw_t (fw_t (fw_t (fw_t (fw_t (fw_t (fw_t (fw_t (fw_t (fw_t (fw_t (fw_t (fw_t (fw_t (fw_t (fw_t (fw_t fw_h)))))))))))))))))))))))))) (fw_c (fw_t (fw_l (fw_r (fw_l (fw_t (fw_t (fw_t (fw_t (fw_t (fw_t (fw_t (fw_t (fw_t (fw_t (fw_t (fw_t (fw_t (fw_t (fw_t (fw_t (fw_t (fw_t (fw_t (fw_t (fw_t (fw_t (fw_t fw_h))))))))))))))))))))))))))) (fw_c (fw_t (fw_l (fw_r (fw_r fw_h)))) (fw_c (fw_t (fw_l (fw_r (fw_r (fw_t fw_h))))) (fw_c (fw_t (fw_l (fw_r (fw_r (fw_t (fw_t fw_h)))))) (fw_c (fw_t (fw_l (fw_r (fw_r (fw_t (fw_t (fw_t fw_h))))))) (fw_c (fw_t (fw_l (fw_r (fw_r (fw_t (fw_t (fw_t (fw_t fw_h)))))))) fw_n)))))))))))))))))))))))) (fw_c (fw_t (fw_l (fw_r (fw_r (fw_t (fw_t (fw_t (fw_t (fw_t fw_h))))))))) (fw_c (fw_t (fw_l (fw_r (fw_r (fw_t (fw_t (fw_t (fw_t (fw_t (fw_t fw_h)))))))))) (fw_c (fw_t (fw_l (fw_r (fw_r (fw_t (fw_t (fw_t (fw_t (fw_t (fw_t (fw_t fw_h))))))))))) (fw_c (fw_t (fw_l (fw_r (fw_r (fw_t (fw_t (fw_t (fw_t (fw_t (fw_t (fw_t (fw_t fw_h)))))))))))) (fw_c (fw_t (fw_l (fw_r (fw_r (fw_t (fw_t (fw_t (fw_t (fw_t (fw_t (fw_t (fw_t (fw_t fw_h))))))))))))) fw_n))))))) (fun _ h => fw_t (fw_r h)))) (by decide +kernel)
set_option maxRecDepth 20000 in
theorem gX12_rivals_X12_isGroup : GoodIn wsX12_rivals (wsV RX12 152 RX12 yX12_isGroup wsX12_isGroup) := goodIn_app (goodIn_sub (fw_c (fw_t (fw_l (fw_l (fw_t (fw_t (fw_t fw_h)))))) (fw_c (fw_t (fw_l (fw_l (fw_t (fw_t (fw_t (fw_t fw_h))))))) (fw_c (fw_t (fw_l (fw_l (fw_t (fw_t (fw_t (fw_t (fw_t fw_h)))))))) (fw_c (fw_t (fw_l (fw_l (fw_t (fw_t (fw_t (fw_t (fw_t (fw_t fw_h))))))))) fw_n)))) (by decide +kernel)) ggX12_rivals_X12_isGroup
set_option maxRecDepth 20000 in
theorem ggX12_rivals_X12_finds : GoodIn wsX12_rivals wsX12_finds := goodIn_sub (fw_c (fw_t (fw_l (fw_r (fw_r (fw_t (fw_t (fw_t (fw_t (fw_t (fw_t (fw_t (fw_t (fw_t (fw_t (fw_t (fw_t (fw_t fw_h))))))))))))))))) (fw_a (fw_c (fw_t (fw_l (fw_r (fw_r (fw_t (fw_t (fw_t (fw_t (fw_t (fw_t (fw_t (fw_t (fw_t (fw_t (fw_t (fw_t (fw_t (fw_t fw_h)))))))))))))))))) fw_n) (fun _ h => fw_t (fw_r h)))) (by decide +kernel)
set_option maxRecDepth 20000 in
theorem gX12_rivals_X12_finds : GoodIn wsX12_rivals (wsV RX12 56 RX12 yX12_finds wsX12_finds) := goodIn_app (goodIn_sub (fw_c (fw_t (fw_l (fw_r (fw_r (fw_t (fw_t (fw_t (fw_t (fw_t (fw_t (fw_t (fw_t (fw_t (fw_t fw_h)))))))))))))) (fw_c (fw_t (fw_l (fw_r (fw_r (fw_t (fw_t (fw_t (fw_t (fw_t (fw_t (fw_t (fw_t (fw_t (fw_t (fw_t fw_h))))))))))))))) (fw_c (fw_t (fw_l (fw_r (fw_r (fw_t (fw_t (fw_t (fw_t (fw_t (fw_t (fw_t (fw_t (fw_t (fw_t (fw_t (fw_t fw_h)))))))))))))))) (fw_c (fw_t (fw_l (fw_l (fw_t (fw_t (fw_t (fw_t (fw_t (fw_t fw_h))))))))) fw_n)))) (by decide +kernel)) ggX12_rivals_X12_finds
set_option maxRecDepth 20000 in
theorem ggX12_rivals_X12_ofMark : GoodIn wsX12_rivals wsX12_ofMark := goodIn_sub (fw_c (fw_t (fw_l (fw_r (fw_l (fw_t fw_h))))) (fw_a (fw_c (fw_t (fw_l (fw_l (fw_t fw_h)))) fw_n) (fun _ h => fw_t (fw_r h)))) (by decide +kernel)
set_option maxRecDepth 20000 in
theorem gX12_rivals_X12_ofMark : GoodIn wsX12_rivals (wsV RX12 127 RX12 yX12_ofMark wsX12_ofMark) := goodIn_app (goodIn_sub (fw_c (fw_t (fw_l (fw_l (fw_t (fw_t (fw_t (fw_t (fw_t (fw_t (fw_t (fw_t (fw_t (fw_t (fw_t (fw_t (fw_t (fw_t (fw_t (fw_t (fw_t (fw_t (fw_t (fw_t (fw_t (fw_t fw_h))))))))))))))))))))))))) (fw_c (fw_t (fw_l (fw_l (fw_t (fw_t (fw_t (fw_t (fw_t (fw_t (fw_t (fw_t (fw_t (fw_t (fw_t (fw_t (fw_t (fw_t (fw_t (fw_t (fw_t (fw_t (fw_t (fw_t (fw_t (fw_t (fw_t fw_h)))))))))))))))))))))))))) (fw_c (fw_t (fw_l (fw_r (fw_l fw_h)))) (fw_c (fw_t (fw_l (fw_l (fw_t (fw_t (fw_t (fw_t (fw_t (fw_t fw_h))))))))) fw_n)))) (by decide +kernel)) ggX12_rivals_X12_ofMark
theorem dX12_rivals_0 : decode cX12_rivals 0 = .ok (.aload_n 0, 1) := by decide +kernel
theorem dX12_rivals_1 : decode cX12_rivals 1 = .ok (.iload_n 1, 1) := by decide +kernel
theorem dX12_rivals_2 : decode cX12_rivals 2 = .ok (.invokevirtual 152, 3) := by decide +kernel
theorem dX12_rivals_5 : decode cX12_rivals 5 = .ok (.ifCond .ne 11, 3) := by decide +kernel
theorem dX12_rivals_8 : decode cX12_rivals 8 = .ok (.aload_n 0, 1) := by decide +kernel
theorem dX12_rivals_9 : decode cX12_rivals 9 = .ok (.ldc2_w 76, 3) := by decide +kernel
theorem dX12_rivals_12 : decode cX12_rivals 12 = .ok (.invokevirtual 56, 3) := by decide +kernel
theorem dX12_rivals_15 : decode cX12_rivals 15 = .ok (.lreturn, 1) := by decide +kernel
theorem dX12_rivals_16 : decode cX12_rivals 16 = .ok (.iconst 0, 1) := by decide +kernel
theorem dX12_rivals_17 : decode cX12_rivals 17 = .ok (.istore_n 2, 1) := by decide +kernel
theorem dX12_rivals_18 : decode cX12_rivals 18 = .ok (.iconst 0, 1) := by decide +kernel
theorem dX12_rivals_19 : decode cX12_rivals 19 = .ok (.istore_n 3, 1) := by decide +kernel
theorem dX12_rivals_20 : decode cX12_rivals 20 = .ok (.iload_n 3, 1) := by decide +kernel
theorem dX12_rivals_21 : decode cX12_rivals 21 = .ok (.aload_n 0, 1) := by decide +kernel
theorem dX12_rivals_22 : decode cX12_rivals 22 = .ok (.getfield 9, 3) := by decide +kernel
theorem dX12_rivals_25 : decode cX12_rivals 25 = .ok (.iconst 1, 1) := by decide +kernel
theorem dX12_rivals_26 : decode cX12_rivals 26 = .ok (.iaload, 1) := by decide +kernel
theorem dX12_rivals_27 : decode cX12_rivals 27 = .ok (.if_icmp .ge 69, 3) := by decide +kernel
theorem dX12_rivals_30 : decode cX12_rivals 30 = .ok (.iconst 0, 1) := by decide +kernel
theorem dX12_rivals_31 : decode cX12_rivals 31 = .ok (.istore 4, 2) := by decide +kernel
theorem dX12_rivals_33 : decode cX12_rivals 33 = .ok (.iload 4, 2) := by decide +kernel
theorem dX12_rivals_35 : decode cX12_rivals 35 = .ok (.iload_n 3, 1) := by decide +kernel
theorem dX12_rivals_36 : decode cX12_rivals 36 = .ok (.if_icmp .ge 54, 3) := by decide +kernel
theorem dX12_rivals_39 : decode cX12_rivals 39 = .ok (.iload_n 2, 1) := by decide +kernel
theorem dX12_rivals_40 : decode cX12_rivals 40 = .ok (.aload_n 0, 1) := by decide +kernel
theorem dX12_rivals_41 : decode cX12_rivals 41 = .ok (.getfield 35, 3) := by decide +kernel
theorem dX12_rivals_44 : decode cX12_rivals 44 = .ok (.iload_n 3, 1) := by decide +kernel
theorem dX12_rivals_45 : decode cX12_rivals 45 = .ok (.iaload, 1) := by decide +kernel
theorem dX12_rivals_46 : decode cX12_rivals 46 = .ok (.iload_n 1, 1) := by decide +kernel
theorem dX12_rivals_47 : decode cX12_rivals 47 = .ok (.if_icmp .ne 34, 3) := by decide +kernel
theorem dX12_rivals_50 : decode cX12_rivals 50 = .ok (.aload_n 0, 1) := by decide +kernel
theorem dX12_rivals_51 : decode cX12_rivals 51 = .ok (.getfield 35, 3) := by decide +kernel
theorem dX12_rivals_54 : decode cX12_rivals 54 = .ok (.iload 4, 2) := by decide +kernel
theorem dX12_rivals_56 : decode cX12_rivals 56 = .ok (.iaload, 1) := by decide +kernel
theorem dX12_rivals_57 : decode cX12_rivals 57 = .ok (.iload_n 1, 1) := by decide +kernel
theorem dX12_rivals_58 : decode cX12_rivals 58 = .ok (.if_icmp .ne 23, 3) := by decide +kernel
theorem dX12_rivals_61 : decode cX12_rivals 61 = .ok (.aload_n 0, 1) := by decide +kernel
theorem dX12_rivals_62 : decode cX12_rivals 62 = .ok (.iload_n 3, 1) := by decide +kernel
theorem dX12_rivals_63 : decode cX12_rivals 63 = .ok (.iconst 0, 1) := by decide +kernel
theorem dX12_rivals_64 : decode cX12_rivals 64 = .ok (.invokevirtual 127, 3) := by decide +kernel
theorem dX12_rivals_67 : decode cX12_rivals 67 = .ok (.aload_n 0, 1) := by decide +kernel
theorem dX12_rivals_68 : decode cX12_rivals 68 = .ok (.iload 4, 2) := by decide +kernel
theorem dX12_rivals_70 : decode cX12_rivals 70 = .ok (.iconst 0, 1) := by decide +kernel
theorem dX12_rivals_71 : decode cX12_rivals 71 = .ok (.invokevirtual 127, 3) := by decide +kernel
theorem dX12_rivals_74 : decode cX12_rivals 74 = .ok (.if_icmp .ne 7, 3) := by decide +kernel
theorem dX12_rivals_77 : decode cX12_rivals 77 = .ok (.iconst 1, 1) := by decide +kernel
theorem dX12_rivals_78 : decode cX12_rivals 78 = .ok (.goto 4, 3) := by decide +kernel
theorem dX12_rivals_81 : decode cX12_rivals 81 = .ok (.iconst 0, 1) := by decide +kernel
theorem dX12_rivals_82 : decode cX12_rivals 82 = .ok (.iadd, 1) := by decide +kernel
theorem dX12_rivals_83 : decode cX12_rivals 83 = .ok (.istore_n 2, 1) := by decide +kernel
theorem dX12_rivals_84 : decode cX12_rivals 84 = .ok (.iinc 4 1, 3) := by decide +kernel
theorem dX12_rivals_87 : decode cX12_rivals 87 = .ok (.goto (-54), 3) := by decide +kernel
theorem dX12_rivals_90 : decode cX12_rivals 90 = .ok (.iinc 3 1, 3) := by decide +kernel
theorem dX12_rivals_93 : decode cX12_rivals 93 = .ok (.goto (-73), 3) := by decide +kernel
theorem dX12_rivals_96 : decode cX12_rivals 96 = .ok (.iload_n 2, 1) := by decide +kernel
theorem dX12_rivals_97 : decode cX12_rivals 97 = .ok (.i2l, 1) := by decide +kernel
theorem dX12_rivals_98 : decode cX12_rivals 98 = .ok (.lreturn, 1) := by decide +kernel
set_option maxRecDepth 20000 in
theorem ggX12_isSign_X12_in : GoodIn wsX12_isSign wsX12_in := goodIn_sub (fw_c (fw_t (fw_t (fw_t (fw_t fw_h)))) (fw_n)) (by decide +kernel)
set_option maxRecDepth 20000 in
theorem gX12_isSign_X12_in : GoodIn wsX12_isSign (va_wsS RX12 60 yX12_in wsX12_in) := goodIn_app (goodIn_sub (fw_c (fw_t fw_h) (fw_c (fw_t (fw_t fw_h)) (fw_c (fw_t (fw_t (fw_t fw_h))) fw_n))) (by decide +kernel)) ggX12_isSign_X12_in
theorem dX12_isSign_0 : decode cX12_isSign 0 = .ok (.iload_n 0, 1) := by decide +kernel
theorem dX12_isSign_1 : decode cX12_isSign 1 = .ok (.iconst 1, 1) := by decide +kernel
theorem dX12_isSign_2 : decode cX12_isSign 2 = .ok (.iconst 4, 1) := by decide +kernel
theorem dX12_isSign_3 : decode cX12_isSign 3 = .ok (.invokestatic 60, 3) := by decide +kernel
theorem dX12_isSign_6 : decode cX12_isSign 6 = .ok (.ifCond .ne 14, 3) := by decide +kernel
theorem dX12_isSign_9 : decode cX12_isSign 9 = .ok (.iload_n 0, 1) := by decide +kernel
theorem dX12_isSign_10 : decode cX12_isSign 10 = .ok (.bipush 10, 2) := by decide +kernel
theorem dX12_isSign_12 : decode cX12_isSign 12 = .ok (.bipush 24, 2) := by decide +kernel
theorem dX12_isSign_14 : decode cX12_isSign 14 = .ok (.invokestatic 60, 3) := by decide +kernel
theorem dX12_isSign_17 : decode cX12_isSign 17 = .ok (.ifCond .eq 7, 3) := by decide +kernel
theorem dX12_isSign_20 : decode cX12_isSign 20 = .ok (.iconst 1, 1) := by decide +kernel
theorem dX12_isSign_21 : decode cX12_isSign 21 = .ok (.goto 4, 3) := by decide +kernel
theorem dX12_isSign_24 : decode cX12_isSign 24 = .ok (.iconst 0, 1) := by decide +kernel
theorem dX12_isSign_25 : decode cX12_isSign 25 = .ok (.ireturn, 1) := by decide +kernel
set_option maxRecDepth 20000 in
theorem ggX12_sign_X12_isSign : GoodIn wsX12_sign wsX12_isSign := goodIn_sub (fw_c (fw_t (fw_l (fw_t (fw_t (fw_t (fw_t (fw_t (fw_t fw_h)))))))) (fw_c (fw_t (fw_l (fw_t (fw_t (fw_t (fw_t (fw_t (fw_t (fw_t fw_h))))))))) (fw_c (fw_t (fw_l (fw_t (fw_t (fw_t (fw_t (fw_t (fw_t (fw_t (fw_t fw_h)))))))))) (fw_c (fw_t (fw_l (fw_t (fw_t (fw_t (fw_t (fw_t fw_h))))))) (fw_c (fw_t (fw_l (fw_t (fw_t (fw_t (fw_t (fw_t (fw_t (fw_t (fw_t (fw_t fw_h))))))))))) fw_n))))) (by decide +kernel)
set_option maxRecDepth 20000 in
theorem gX12_sign_X12_isSign : GoodIn wsX12_sign (va_wsS RX12 155 yX12_isSign wsX12_isSign) := goodIn_app (goodIn_sub (fw_c (fw_t (fw_l (fw_t (fw_t (fw_t fw_h))))) (fw_c (fw_t (fw_l (fw_t (fw_t (fw_t (fw_t fw_h)))))) (fw_c (fw_t (fw_l (fw_t (fw_t (fw_t (fw_t (fw_t fw_h))))))) fw_n))) (by decide +kernel)) ggX12_sign_X12_isSign
set_option maxRecDepth 20000 in
theorem ggX12_sign_X12_finds : GoodIn wsX12_sign wsX12_finds := goodIn_sub (fw_c (fw_t (fw_l (fw_t (fw_t (fw_t (fw_t (fw_t (fw_t (fw_t (fw_t (fw_t (fw_t (fw_t (fw_t (fw_t fw_h))))))))))))))) (fw_a (fw_c (fw_t (fw_l (fw_t (fw_t (fw_t (fw_t (fw_t (fw_t (fw_t (fw_t (fw_t (fw_t (fw_t (fw_t (fw_t (fw_t fw_h)))))))))))))))) fw_n) (fun _ h => fw_t (fw_r h)))) (by decide +kernel)
set_option maxRecDepth 20000 in
theorem gX12_sign_X12_finds : GoodIn wsX12_sign (wsV RX12 56 RX12 yX12_finds wsX12_finds) := goodIn_app (goodIn_sub (fw_c (fw_t (fw_l (fw_t (fw_t (fw_t (fw_t (fw_t (fw_t (fw_t (fw_t (fw_t (fw_t fw_h)))))))))))) (fw_c (fw_t (fw_l (fw_t (fw_t (fw_t (fw_t (fw_t (fw_t (fw_t (fw_t (fw_t (fw_t (fw_t fw_h))))))))))))) (fw_c (fw_t (fw_l (fw_t (fw_t (fw_t (fw_t (fw_t (fw_t (fw_t (fw_t (fw_t (fw_t (fw_t (fw_t fw_h)))))))))))))) (fw_c (fw_t (fw_l (fw_t (fw_t (fw_t (fw_t (fw_t fw_h))))))) fw_n)))) (by decide +kernel)) ggX12_sign_X12_finds
set_option maxRecDepth 20000 in
theorem ggX12_sign_X12_keep : GoodIn wsX12_sign wsX12_keep := goodIn_sub (fw_c (fw_t (fw_l (fw_t (fw_t (fw_t (fw_t (fw_t (fw_t (fw_t (fw_t (fw_t (fw_t (fw_t (fw_t (fw_t (fw_t (fw_t (fw_t (fw_t (fw_t fw_h)))))))))))))))))))) (fw_a (fw_c (fw_t (fw_l (fw_t (fw_t (fw_t (fw_t (fw_t (fw_t (fw_t (fw_t (fw_t (fw_t (fw_t (fw_t (fw_t (fw_t (fw_t (fw_t (fw_t (fw_t (fw_t fw_h))))))))))))))))))))) (fw_c (fw_t (fw_l (fw_t (fw_t (fw_t (fw_t (fw_t (fw_t (fw_t (fw_t (fw_t (fw_t (fw_t (fw_t (fw_t (fw_t (fw_t (fw_t (fw_t (fw_t (fw_t (fw_t fw_h)))))))))))))))))))))) (fw_c (fw_t (fw_l (fw_t fw_h))) (fw_c (fw_t (fw_l (fw_t (fw_t (fw_t (fw_t (fw_t (fw_t (fw_t (fw_t (fw_t (fw_t (fw_t (fw_t (fw_t (fw_t (fw_t (fw_t (fw_t (fw_t (fw_t (fw_t (fw_t fw_h))))))))))))))))))))))) fw_n)))) (fun _ h => fw_t (fw_r h)))) (by decide +kernel)
set_option maxRecDepth 20000 in
theorem gX12_sign_X12_keep : GoodIn wsX12_sign (wsV RX12 66 RX12 yX12_keep wsX12_keep) := goodIn_app (goodIn_sub (fw_c (fw_t (fw_l (fw_t (fw_t (fw_t (fw_t (fw_t (fw_t (fw_t (fw_t (fw_t (fw_t (fw_t (fw_t (fw_t (fw_t (fw_t fw_h))))))))))))))))) (fw_c (fw_t (fw_l (fw_t (fw_t (fw_t (fw_t (fw_t (fw_t (fw_t (fw_t (fw_t (fw_t (fw_t (fw_t (fw_t (fw_t (fw_t (fw_t fw_h)))))))))))))))))) (fw_c (fw_t (fw_l (fw_t (fw_t (fw_t (fw_t (fw_t (fw_t (fw_t (fw_t (fw_t (fw_t (fw_t (fw_t (fw_t (fw_t (fw_t (fw_t (fw_t fw_h))))))))))))))))))) (fw_c (fw_t (fw_l (fw_t (fw_t (fw_t (fw_t (fw_t fw_h))))))) fw_n)))) (by decide +kernel)) ggX12_sign_X12_keep
theorem dX12_sign_0 : decode cX12_sign 0 = .ok (.iload_n 1, 1) := by decide +kernel
theorem dX12_sign_1 : decode cX12_sign 1 = .ok (.invokestatic 155, 3) := by decide +kernel
theorem dX12_sign_4 : decode cX12_sign 4 = .ok (.ifCond .ne 11, 3) := by decide +kernel
theorem dX12_sign_7 : decode cX12_sign 7 = .ok (.aload_n 0, 1) := by decide +kernel
theorem dX12_sign_8 : decode cX12_sign 8 = .ok (.ldc2_w 76, 3) := by decide +kernel
theorem dX12_sign_11 : decode cX12_sign 11 = .ok (.invokevirtual 56, 3) := by decide +kernel
theorem dX12_sign_14 : decode cX12_sign 14 = .ok (.lreturn, 1) := by decide +kernel
theorem dX12_sign_15 : decode cX12_sign 15 = .ok (.aload_n 0, 1) := by decide +kernel
theorem dX12_sign_16 : decode cX12_sign 16 = .ok (.getfield 9, 3) := by decide +kernel
theorem dX12_sign_19 : decode cX12_sign 19 = .ok (.iconst 2, 1) := by decide +kernel
theorem dX12_sign_20 : decode cX12_sign 20 = .ok (.iaload, 1) := by decide +kernel
theorem dX12_sign_21 : decode cX12_sign 21 = .ok (.bipush 12, 2) := by decide +kernel
theorem dX12_sign_23 : decode cX12_sign 23 = .ok (.if_icmp .ne 11, 3) := by decide +kernel
theorem dX12_sign_26 : decode cX12_sign 26 = .ok (.aload_n 0, 1) := by decide +kernel
theorem dX12_sign_27 : decode cX12_sign 27 = .ok (.ldc2_w 64, 3) := by decide +kernel
theorem dX12_sign_30 : decode cX12_sign 30 = .ok (.invokevirtual 56, 3) := by decide +kernel
theorem dX12_sign_33 : decode cX12_sign 33 = .ok (.lreturn, 1) := by decide +kernel
theorem dX12_sign_34 : decode cX12_sign 34 = .ok (.aload_n 0, 1) := by decide +kernel
theorem dX12_sign_35 : decode cX12_sign 35 = .ok (.invokevirtual 66, 3) := by decide +kernel
theorem dX12_sign_38 : decode cX12_sign 38 = .ok (.aload_n 0, 1) := by decide +kernel
theorem dX12_sign_39 : decode cX12_sign 39 = .ok (.getfield 9, 3) := by decide +kernel
theorem dX12_sign_42 : decode cX12_sign 42 = .ok (.sipush 322, 3) := by decide +kernel
theorem dX12_sign_45 : decode cX12_sign 45 = .ok (.aload_n 0, 1) := by decide +kernel
theorem dX12_sign_46 : decode cX12_sign 46 = .ok (.getfield 9, 3) := by decide +kernel
theorem dX12_sign_49 : decode cX12_sign 49 = .ok (.iconst 2, 1) := by decide +kernel
theorem dX12_sign_50 : decode cX12_sign 50 = .ok (.iaload, 1) := by decide +kernel
theorem dX12_sign_51 : decode cX12_sign 51 = .ok (.iadd, 1) := by decide +kernel
theorem dX12_sign_52 : decode cX12_sign 52 = .ok (.iload_n 1, 1) := by decide +kernel
theorem dX12_sign_53 : decode cX12_sign 53 = .ok (.iastore, 1) := by decide +kernel
theorem dX12_sign_54 : decode cX12_sign 54 = .ok (.aload_n 0, 1) := by decide +kernel
theorem dX12_sign_55 : decode cX12_sign 55 = .ok (.getfield 9, 3) := by decide +kernel
theorem dX12_sign_58 : decode cX12_sign 58 = .ok (.iconst 2, 1) := by decide +kernel
theorem dX12_sign_59 : decode cX12_sign 59 = .ok (.dup2, 1) := by decide +kernel
theorem dX12_sign_60 : decode cX12_sign 60 = .ok (.iaload, 1) := by decide +kernel
theorem dX12_sign_61 : decode cX12_sign 61 = .ok (.iconst 1, 1) := by decide +kernel
theorem dX12_sign_62 : decode cX12_sign 62 = .ok (.iadd, 1) := by decide +kernel
theorem dX12_sign_63 : decode cX12_sign 63 = .ok (.iastore, 1) := by decide +kernel
theorem dX12_sign_64 : decode cX12_sign 64 = .ok (.aload_n 0, 1) := by decide +kernel
theorem dX12_sign_65 : decode cX12_sign 65 = .ok (.getfield 9, 3) := by decide +kernel
theorem dX12_sign_68 : decode cX12_sign 68 = .ok (.iconst 2, 1) := by decide +kernel
theorem dX12_sign_69 : decode cX12_sign 69 = .ok (.iaload, 1) := by decide +kernel
theorem dX12_sign_70 : decode cX12_sign 70 = .ok (.i2l, 1) := by decide +kernel
theorem dX12_sign_71 : decode cX12_sign 71 = .ok (.lreturn, 1) := by decide +kernel
set_option maxRecDepth 20000 in
theorem ggX12_blank_X12_keep : GoodIn wsX12_blank wsX12_keep := goodIn_sub (fw_c (fw_t (fw_l (fw_t (fw_t (fw_t (fw_t (fw_t fw_h))))))) (fw_a (fw_c (fw_t (fw_l (fw_t (fw_t (fw_t (fw_t (fw_t (fw_t fw_h)))))))) (fw_c (fw_t (fw_l (fw_t (fw_t (fw_t (fw_t (fw_t (fw_t (fw_t fw_h))))))))) (fw_c (fw_t (fw_l fw_h)) (fw_c (fw_t (fw_l (fw_t (fw_t (fw_t (fw_t (fw_t (fw_t (fw_t (fw_t fw_h)))))))))) fw_n)))) (fun _ h => fw_t (fw_r h)))) (by decide +kernel)
set_option maxRecDepth 20000 in
theorem gX12_blank_X12_keep : GoodIn wsX12_blank (wsV RX12 66 RX12 yX12_keep wsX12_keep) := goodIn_app (goodIn_sub (fw_c (fw_t (fw_l (fw_t fw_h))) (fw_c (fw_t (fw_l (fw_t (fw_t fw_h)))) (fw_c (fw_t (fw_l (fw_t (fw_t (fw_t fw_h))))) (fw_c (fw_t (fw_l (fw_t (fw_t (fw_t (fw_t fw_h)))))) fw_n)))) (by decide +kernel)) ggX12_blank_X12_keep
theorem dX12_blank_0 : decode cX12_blank 0 = .ok (.aload_n 0, 1) := by decide +kernel
theorem dX12_blank_1 : decode cX12_blank 1 = .ok (.getfield 9, 3) := by decide +kernel
theorem dX12_blank_4 : decode cX12_blank 4 = .ok (.iconst 2, 1) := by decide +kernel
theorem dX12_blank_5 : decode cX12_blank 5 = .ok (.iaload, 1) := by decide +kernel
theorem dX12_blank_6 : decode cX12_blank 6 = .ok (.istore_n 1, 1) := by decide +kernel
theorem dX12_blank_7 : decode cX12_blank 7 = .ok (.aload_n 0, 1) := by decide +kernel
theorem dX12_blank_8 : decode cX12_blank 8 = .ok (.invokevirtual 66, 3) := by decide +kernel
theorem dX12_blank_11 : decode cX12_blank 11 = .ok (.aload_n 0, 1) := by decide +kernel
theorem dX12_blank_12 : decode cX12_blank 12 = .ok (.getfield 9, 3) := by decide +kernel
theorem dX12_blank_15 : decode cX12_blank 15 = .ok (.iconst 2, 1) := by decide +kernel
theorem dX12_blank_16 : decode cX12_blank 16 = .ok (.iconst 0, 1) := by decide +kernel
theorem dX12_blank_17 : decode cX12_blank 17 = .ok (.iastore, 1) := by decide +kernel
theorem dX12_blank_18 : decode cX12_blank 18 = .ok (.iload_n 1, 1) := by decide +kernel
theorem dX12_blank_19 : decode cX12_blank 19 = .ok (.i2l, 1) := by decide +kernel
theorem dX12_blank_20 : decode cX12_blank 20 = .ok (.lreturn, 1) := by decide +kernel
theorem dX12_wrongAt_0 : decode cX12_wrongAt 0 = .ok (.iconst 0, 1) := by decide +kernel
theorem dX12_wrongAt_1 : decode cX12_wrongAt 1 = .ok (.istore_n 1, 1) := by decide +kernel
theorem dX12_wrongAt_2 : decode cX12_wrongAt 2 = .ok (.iconst 0, 1) := by decide +kernel
theorem dX12_wrongAt_3 : decode cX12_wrongAt 3 = .ok (.istore_n 2, 1) := by decide +kernel
theorem dX12_wrongAt_4 : decode cX12_wrongAt 4 = .ok (.iload_n 2, 1) := by decide +kernel
theorem dX12_wrongAt_5 : decode cX12_wrongAt 5 = .ok (.aload_n 0, 1) := by decide +kernel
theorem dX12_wrongAt_6 : decode cX12_wrongAt 6 = .ok (.getfield 9, 3) := by decide +kernel
theorem dX12_wrongAt_9 : decode cX12_wrongAt 9 = .ok (.iconst 2, 1) := by decide +kernel
theorem dX12_wrongAt_10 : decode cX12_wrongAt 10 = .ok (.iaload, 1) := by decide +kernel
theorem dX12_wrongAt_11 : decode cX12_wrongAt 11 = .ok (.if_icmp .ge 83, 3) := by decide +kernel
theorem dX12_wrongAt_14 : decode cX12_wrongAt 14 = .ok (.aload_n 0, 1) := by decide +kernel
theorem dX12_wrongAt_15 : decode cX12_wrongAt 15 = .ok (.getfield 9, 3) := by decide +kernel
theorem dX12_wrongAt_18 : decode cX12_wrongAt 18 = .ok (.sipush 322, 3) := by decide +kernel
theorem dX12_wrongAt_21 : decode cX12_wrongAt 21 = .ok (.iload_n 2, 1) := by decide +kernel
theorem dX12_wrongAt_22 : decode cX12_wrongAt 22 = .ok (.iadd, 1) := by decide +kernel
theorem dX12_wrongAt_23 : decode cX12_wrongAt 23 = .ok (.iaload, 1) := by decide +kernel
theorem dX12_wrongAt_24 : decode cX12_wrongAt 24 = .ok (.istore_n 3, 1) := by decide +kernel
theorem dX12_wrongAt_25 : decode cX12_wrongAt 25 = .ok (.iload_n 3, 1) := by decide +kernel
theorem dX12_wrongAt_26 : decode cX12_wrongAt 26 = .ok (.bipush 20, 2) := by decide +kernel
theorem dX12_wrongAt_28 : decode cX12_wrongAt 28 = .ok (.if_icmp .ge 7, 3) := by decide +kernel
theorem dX12_wrongAt_31 : decode cX12_wrongAt 31 = .ok (.iconst 0, 1) := by decide +kernel
theorem dX12_wrongAt_32 : decode cX12_wrongAt 32 = .ok (.goto 14, 3) := by decide +kernel
theorem dX12_wrongAt_35 : decode cX12_wrongAt 35 = .ok (.iload_n 3, 1) := by decide +kernel
theorem dX12_wrongAt_36 : decode cX12_wrongAt 36 = .ok (.bipush 22, 2) := by decide +kernel
theorem dX12_wrongAt_38 : decode cX12_wrongAt 38 = .ok (.if_icmp .ne 7, 3) := by decide +kernel
theorem dX12_wrongAt_41 : decode cX12_wrongAt 41 = .ok (.iconst 1, 1) := by decide +kernel
theorem dX12_wrongAt_42 : decode cX12_wrongAt 42 = .ok (.goto 4, 3) := by decide +kernel
theorem dX12_wrongAt_45 : decode cX12_wrongAt 45 = .ok (.iconst 2, 1) := by decide +kernel
theorem dX12_wrongAt_46 : decode cX12_wrongAt 46 = .ok (.istore 4, 2) := by decide +kernel
theorem dX12_wrongAt_48 : decode cX12_wrongAt 48 = .ok (.iload_n 1, 1) := by decide +kernel
theorem dX12_wrongAt_49 : decode cX12_wrongAt 49 = .ok (.iload 4, 2) := by decide +kernel
theorem dX12_wrongAt_51 : decode cX12_wrongAt 51 = .ok (.if_icmp .ge 5, 3) := by decide +kernel
theorem dX12_wrongAt_54 : decode cX12_wrongAt 54 = .ok (.iload_n 2, 1) := by decide +kernel
theorem dX12_wrongAt_55 : decode cX12_wrongAt 55 = .ok (.ireturn, 1) := by decide +kernel
theorem dX12_wrongAt_56 : decode cX12_wrongAt 56 = .ok (.iload_n 1, 1) := by decide +kernel
theorem dX12_wrongAt_57 : decode cX12_wrongAt 57 = .ok (.iload_n 3, 1) := by decide +kernel
theorem dX12_wrongAt_58 : decode cX12_wrongAt 58 = .ok (.bipush 20, 2) := by decide +kernel
theorem dX12_wrongAt_60 : decode cX12_wrongAt 60 = .ok (.if_icmp .ge 7, 3) := by decide +kernel
theorem dX12_wrongAt_63 : decode cX12_wrongAt 63 = .ok (.iconst 1, 1) := by decide +kernel
theorem dX12_wrongAt_64 : decode cX12_wrongAt 64 = .ok (.goto 14, 3) := by decide +kernel
theorem dX12_wrongAt_67 : decode cX12_wrongAt 67 = .ok (.iload_n 3, 1) := by decide +kernel
theorem dX12_wrongAt_68 : decode cX12_wrongAt 68 = .ok (.bipush 22, 2) := by decide +kernel
theorem dX12_wrongAt_70 : decode cX12_wrongAt 70 = .ok (.if_icmp .ne 7, 3) := by decide +kernel
theorem dX12_wrongAt_73 : decode cX12_wrongAt 73 = .ok (.iconst 0, 1) := by decide +kernel
theorem dX12_wrongAt_74 : decode cX12_wrongAt 74 = .ok (.goto 4, 3) := by decide +kernel
theorem dX12_wrongAt_77 : decode cX12_wrongAt 77 = .ok (.iconst (-1), 1) := by decide +kernel
theorem dX12_wrongAt_78 : decode cX12_wrongAt 78 = .ok (.iadd, 1) := by decide +kernel
theorem dX12_wrongAt_79 : decode cX12_wrongAt 79 = .ok (.istore_n 1, 1) := by decide +kernel
theorem dX12_wrongAt_80 : decode cX12_wrongAt 80 = .ok (.iload_n 1, 1) := by decide +kernel
theorem dX12_wrongAt_81 : decode cX12_wrongAt 81 = .ok (.bipush 6, 2) := by decide +kernel
theorem dX12_wrongAt_83 : decode cX12_wrongAt 83 = .ok (.if_icmp .le 5, 3) := by decide +kernel
theorem dX12_wrongAt_86 : decode cX12_wrongAt 86 = .ok (.iload_n 2, 1) := by decide +kernel
theorem dX12_wrongAt_87 : decode cX12_wrongAt 87 = .ok (.ireturn, 1) := by decide +kernel
theorem dX12_wrongAt_88 : decode cX12_wrongAt 88 = .ok (.iinc 2 1, 3) := by decide +kernel
theorem dX12_wrongAt_91 : decode cX12_wrongAt 91 = .ok (.goto (-87), 3) := by decide +kernel
theorem dX12_wrongAt_94 : decode cX12_wrongAt 94 = .ok (.iload_n 1, 1) := by decide +kernel
theorem dX12_wrongAt_95 : decode cX12_wrongAt 95 = .ok (.iconst 1, 1) := by decide +kernel
theorem dX12_wrongAt_96 : decode cX12_wrongAt 96 = .ok (.if_icmp .ne 7, 3) := by decide +kernel
theorem dX12_wrongAt_99 : decode cX12_wrongAt 99 = .ok (.iconst (-1), 1) := by decide +kernel
theorem dX12_wrongAt_100 : decode cX12_wrongAt 100 = .ok (.goto 9, 3) := by decide +kernel
theorem dX12_wrongAt_103 : decode cX12_wrongAt 103 = .ok (.aload_n 0, 1) := by decide +kernel
theorem dX12_wrongAt_104 : decode cX12_wrongAt 104 = .ok (.getfield 9, 3) := by decide +kernel
theorem dX12_wrongAt_107 : decode cX12_wrongAt 107 = .ok (.iconst 2, 1) := by decide +kernel
theorem dX12_wrongAt_108 : decode cX12_wrongAt 108 = .ok (.iaload, 1) := by decide +kernel
theorem dX12_wrongAt_109 : decode cX12_wrongAt 109 = .ok (.ireturn, 1) := by decide +kernel
set_option maxRecDepth 20000 in
theorem ggX12_wrong_X12_wrongAt : GoodIn wsX12_wrong wsX12_wrongAt := goodIn_sub (fw_c (fw_t (fw_l (fw_t (fw_t (fw_t (fw_t fw_h)))))) (fw_a (fw_c (fw_t (fw_l (fw_t (fw_t (fw_t (fw_t (fw_t fw_h))))))) fw_n) (fun _ h => fw_t (fw_r h)))) (by decide +kernel)
set_option maxRecDepth 20000 in
theorem gX12_wrong_X12_wrongAt : GoodIn wsX12_wrong (wsV RX12 158 RX12 yX12_wrongAt wsX12_wrongAt) := goodIn_app (goodIn_sub (fw_c (fw_t (fw_l fw_h)) (fw_c (fw_t (fw_l (fw_t fw_h))) (fw_c (fw_t (fw_l (fw_t (fw_t fw_h)))) (fw_c (fw_t (fw_l (fw_t (fw_t (fw_t fw_h))))) fw_n)))) (by decide +kernel)) ggX12_wrong_X12_wrongAt
theorem dX12_wrong_0 : decode cX12_wrong 0 = .ok (.aload_n 0, 1) := by decide +kernel
theorem dX12_wrong_1 : decode cX12_wrong 1 = .ok (.invokevirtual 158, 3) := by decide +kernel
theorem dX12_wrong_4 : decode cX12_wrong 4 = .ok (.i2l, 1) := by decide +kernel
theorem dX12_wrong_5 : decode cX12_wrong 5 = .ok (.lreturn, 1) := by decide +kernel
set_option maxRecDepth 20000 in
theorem ggX12_told_X12_ofMark : GoodIn wsX12_told wsX12_ofMark := goodIn_sub (fw_c (fw_t (fw_l (fw_t (fw_t (fw_t (fw_t (fw_t (fw_t fw_h)))))))) (fw_a (fw_c (fw_t (fw_l fw_h)) fw_n) (fun _ h => fw_t (fw_r h)))) (by decide +kernel)
set_option maxRecDepth 20000 in
theorem gX12_told_X12_ofMark : GoodIn wsX12_told (wsV RX12 127 RX12 yX12_ofMark wsX12_ofMark) := goodIn_app (goodIn_sub (fw_c (fw_t (fw_l (fw_t (fw_t fw_h)))) (fw_c (fw_t (fw_l (fw_t (fw_t (fw_t fw_h))))) (fw_c (fw_t (fw_l (fw_t (fw_t (fw_t (fw_t fw_h)))))) (fw_c (fw_t (fw_l (fw_t (fw_t (fw_t (fw_t (fw_t fw_h))))))) fw_n)))) (by decide +kernel)) ggX12_told_X12_ofMark
theorem dX12_told_0 : decode cX12_told 0 = .ok (.iconst 0, 1) := by decide +kernel
theorem dX12_told_1 : decode cX12_told 1 = .ok (.istore_n 3, 1) := by decide +kernel
theorem dX12_told_2 : decode cX12_told 2 = .ok (.iconst 0, 1) := by decide +kernel
theorem dX12_told_3 : decode cX12_told 3 = .ok (.istore 4, 2) := by decide +kernel
theorem dX12_told_5 : decode cX12_told 5 = .ok (.iconst 0, 1) := by decide +kernel
theorem dX12_told_6 : decode cX12_told 6 = .ok (.istore 5, 2) := by decide +kernel
theorem dX12_told_8 : decode cX12_told 8 = .ok (.iconst 0, 1) := by decide +kernel
theorem dX12_told_9 : decode cX12_told 9 = .ok (.istore 6, 2) := by decide +kernel
theorem dX12_told_11 : decode cX12_told 11 = .ok (.iconst 0, 1) := by decide +kernel
theorem dX12_told_12 : decode cX12_told 12 = .ok (.istore 7, 2) := by decide +kernel
theorem dX12_told_14 : decode cX12_told 14 = .ok (.iload 7, 2) := by decide +kernel
theorem dX12_told_16 : decode cX12_told 16 = .ok (.aload_n 0, 1) := by decide +kernel
theorem dX12_told_17 : decode cX12_told 17 = .ok (.getfield 9, 3) := by decide +kernel
theorem dX12_told_20 : decode cX12_told 20 = .ok (.iconst 1, 1) := by decide +kernel
theorem dX12_told_21 : decode cX12_told 21 = .ok (.iaload, 1) := by decide +kernel
theorem dX12_told_22 : decode cX12_told 22 = .ok (.if_icmp .ge 73, 3) := by decide +kernel
theorem dX12_told_25 : decode cX12_told 25 = .ok (.aload_n 0, 1) := by decide +kernel
theorem dX12_told_26 : decode cX12_told 26 = .ok (.getfield 35, 3) := by decide +kernel
theorem dX12_told_29 : decode cX12_told 29 = .ok (.iload 7, 2) := by decide +kernel
theorem dX12_told_31 : decode cX12_told 31 = .ok (.iaload, 1) := by decide +kernel
theorem dX12_told_32 : decode cX12_told 32 = .ok (.iload_n 1, 1) := by decide +kernel
theorem dX12_told_33 : decode cX12_told 33 = .ok (.if_icmp .eq 6, 3) := by decide +kernel
theorem dX12_told_36 : decode cX12_told 36 = .ok (.goto 53, 3) := by decide +kernel
theorem dX12_told_39 : decode cX12_told 39 = .ok (.iinc 3 1, 3) := by decide +kernel
theorem dX12_told_42 : decode cX12_told 42 = .ok (.aload_n 0, 1) := by decide +kernel
theorem dX12_told_43 : decode cX12_told 43 = .ok (.iload 7, 2) := by decide +kernel
theorem dX12_told_45 : decode cX12_told 45 = .ok (.iconst 4, 1) := by decide +kernel
theorem dX12_told_46 : decode cX12_told 46 = .ok (.invokevirtual 127, 3) := by decide +kernel
theorem dX12_told_49 : decode cX12_told 49 = .ok (.iload 4, 2) := by decide +kernel
theorem dX12_told_51 : decode cX12_told 51 = .ok (.if_icmp .le 13, 3) := by decide +kernel
theorem dX12_told_54 : decode cX12_told 54 = .ok (.aload_n 0, 1) := by decide +kernel
theorem dX12_told_55 : decode cX12_told 55 = .ok (.iload 7, 2) := by decide +kernel
theorem dX12_told_57 : decode cX12_told 57 = .ok (.iconst 4, 1) := by decide +kernel
theorem dX12_told_58 : decode cX12_told 58 = .ok (.invokevirtual 127, 3) := by decide +kernel
theorem dX12_told_61 : decode cX12_told 61 = .ok (.goto 5, 3) := by decide +kernel
theorem dX12_told_64 : decode cX12_told 64 = .ok (.iload 4, 2) := by decide +kernel
theorem dX12_told_66 : decode cX12_told 66 = .ok (.istore 4, 2) := by decide +kernel
theorem dX12_told_68 : decode cX12_told 68 = .ok (.iload 5, 2) := by decide +kernel
theorem dX12_told_70 : decode cX12_told 70 = .ok (.aload_n 0, 1) := by decide +kernel
theorem dX12_told_71 : decode cX12_told 71 = .ok (.iload 7, 2) := by decide +kernel
theorem dX12_told_73 : decode cX12_told 73 = .ok (.iconst 5, 1) := by decide +kernel
theorem dX12_told_74 : decode cX12_told 74 = .ok (.invokevirtual 127, 3) := by decide +kernel
theorem dX12_told_77 : decode cX12_told 77 = .ok (.ior, 1) := by decide +kernel
theorem dX12_told_78 : decode cX12_told 78 = .ok (.istore 5, 2) := by decide +kernel
theorem dX12_told_80 : decode cX12_told 80 = .ok (.aload_n 0, 1) := by decide +kernel
theorem dX12_told_81 : decode cX12_told 81 = .ok (.iload 7, 2) := by decide +kernel
theorem dX12_told_83 : decode cX12_told 83 = .ok (.iconst 1, 1) := by decide +kernel
theorem dX12_told_84 : decode cX12_told 84 = .ok (.invokevirtual 127, 3) := by decide +kernel
theorem dX12_told_87 : decode cX12_told 87 = .ok (.istore 6, 2) := by decide +kernel
theorem dX12_told_89 : decode cX12_told 89 = .ok (.iinc 7 1, 3) := by decide +kernel
theorem dX12_told_92 : decode cX12_told 92 = .ok (.goto (-78), 3) := by decide +kernel
theorem dX12_told_95 : decode cX12_told 95 = .ok (.iconst 0, 1) := by decide +kernel
theorem dX12_told_96 : decode cX12_told 96 = .ok (.istore 7, 2) := by decide +kernel
theorem dX12_told_98 : decode cX12_told 98 = .ok (.iconst 0, 1) := by decide +kernel
theorem dX12_told_99 : decode cX12_told 99 = .ok (.istore 8, 2) := by decide +kernel
theorem dX12_told_101 : decode cX12_told 101 = .ok (.iload 8, 2) := by decide +kernel
theorem dX12_told_103 : decode cX12_told 103 = .ok (.iconst 4, 1) := by decide +kernel
theorem dX12_told_104 : decode cX12_told 104 = .ok (.if_icmp .ge 21, 3) := by decide +kernel
theorem dX12_told_107 : decode cX12_told 107 = .ok (.iload 7, 2) := by decide +kernel
theorem dX12_told_109 : decode cX12_told 109 = .ok (.iload 5, 2) := by decide +kernel
theorem dX12_told_111 : decode cX12_told 111 = .ok (.iload 8, 2) := by decide +kernel
theorem dX12_told_113 : decode cX12_told 113 = .ok (.ishr, 1) := by decide +kernel
theorem dX12_told_114 : decode cX12_told 114 = .ok (.iconst 1, 1) := by decide +kernel
theorem dX12_told_115 : decode cX12_told 115 = .ok (.iand, 1) := by decide +kernel
theorem dX12_told_116 : decode cX12_told 116 = .ok (.iadd, 1) := by decide +kernel
theorem dX12_told_117 : decode cX12_told 117 = .ok (.istore 7, 2) := by decide +kernel
theorem dX12_told_119 : decode cX12_told 119 = .ok (.iinc 8 1, 3) := by decide +kernel
theorem dX12_told_122 : decode cX12_told 122 = .ok (.goto (-21), 3) := by decide +kernel
theorem dX12_told_125 : decode cX12_told 125 = .ok (.iload_n 2, 1) := by decide +kernel
theorem dX12_told_126 : decode cX12_told 126 = .ok (.iconst 1, 1) := by decide +kernel
theorem dX12_told_127 : decode cX12_told 127 = .ok (.if_icmp .ne 7, 3) := by decide +kernel
theorem dX12_told_130 : decode cX12_told 130 = .ok (.iload_n 3, 1) := by decide +kernel
theorem dX12_told_131 : decode cX12_told 131 = .ok (.goto 25, 3) := by decide +kernel
theorem dX12_told_134 : decode cX12_told 134 = .ok (.iload_n 2, 1) := by decide +kernel
theorem dX12_told_135 : decode cX12_told 135 = .ok (.iconst 2, 1) := by decide +kernel
theorem dX12_told_136 : decode cX12_told 136 = .ok (.if_icmp .ne 8, 3) := by decide +kernel
theorem dX12_told_139 : decode cX12_told 139 = .ok (.iload 4, 2) := by decide +kernel
theorem dX12_told_141 : decode cX12_told 141 = .ok (.goto 15, 3) := by decide +kernel
theorem dX12_told_144 : decode cX12_told 144 = .ok (.iload_n 2, 1) := by decide +kernel
theorem dX12_told_145 : decode cX12_told 145 = .ok (.iconst 3, 1) := by decide +kernel
theorem dX12_told_146 : decode cX12_told 146 = .ok (.if_icmp .ne 8, 3) := by decide +kernel
theorem dX12_told_149 : decode cX12_told 149 = .ok (.iload 7, 2) := by decide +kernel
theorem dX12_told_151 : decode cX12_told 151 = .ok (.goto 5, 3) := by decide +kernel
theorem dX12_told_154 : decode cX12_told 154 = .ok (.iload 6, 2) := by decide +kernel
theorem dX12_told_156 : decode cX12_told 156 = .ok (.ireturn, 1) := by decide +kernel
set_option maxRecDepth 20000 in
theorem ggX12_is_X12_isGroup : GoodIn wsX12_is wsX12_isGroup := goodIn_sub (fw_c (fw_t (fw_l (fw_l (fw_t (fw_t (fw_t (fw_t (fw_t (fw_t (fw_t (fw_t fw_h))))))))))) (fw_a (fw_a (fw_c (fw_t (fw_l (fw_l (fw_t (fw_t (fw_t (fw_t (fw_t (fw_t (fw_t (fw_t (fw_t fw_h)))))))))))) (fw_c (fw_t (fw_l (fw_l (fw_t (fw_t (fw_t (fw_t (fw_t (fw_t (fw_t (fw_t (fw_t (fw_t fw_h))))))))))))) (fw_c (fw_t (fw_l (fw_l (fw_t (fw_t (fw_t (fw_t (fw_t (fw_t (fw_t (fw_t (fw_t (fw_t (fw_t fw_h)))))))))))))) (fw_c (fw_t (fw_l (fw_l (fw_t (fw_t (fw_t (fw_t (fw_t (fw_t (fw_t (fw_t (fw_t (fw_t (fw_t (fw_t fw_h))))))))))))))) (fw_c (fw_t (fw_l (fw_l (fw_t (fw_t (fw_t (fw_t (fw_t (fw_t (fw_t fw_h)))))))))) (fw_c (fw_t (fw_l (fw_l (fw_t (fw_t (fw_t (fw_t (fw_t (fw_t (fw_t (fw_t (fw_t (fw_t (fw_t (fw_t (fw_t fw_h)))))))))))))))) (fw_c (fw_t (fw_l (fw_l (fw_t (fw_t fw_h))))) (fw_c (fw_t (fw_l (fw_l (fw_t (fw_t (fw_t (fw_t (fw_t (fw_t (fw_t (fw_t (fw_t (fw_t (fw_t (fw_t (fw_t (fw_t fw_h))))))))))))))))) (fw_c (fw_t (fw_l (fw_l (fw_t (fw_t (fw_t (fw_t (fw_t (fw_t (fw_t (fw_t (fw_t (fw_t (fw_t (fw_t (fw_t (fw_t (fw_t fw_h)))))))))))))))))) (fw_c (fw_t (fw_l (fw_l (fw_t (fw_t (fw_t (fw_t (fw_t (fw_t (fw_t (fw_t (fw_t (fw_t (fw_t (fw_t (fw_t (fw_t (fw_t (fw_t fw_h))))))))))))))))))) (fw_c (fw_t (fw_l (fw_l (fw_t (fw_t (fw_t (fw_t (fw_t (fw_t (fw_t (fw_t (fw_t (fw_t (fw_t (fw_t (fw_t (fw_t (fw_t (fw_t (fw_t fw_h)))))))))))))))))))) (fw_c (fw_t (fw_l (fw_l (fw_t (fw_t (fw_t (fw_t (fw_t (fw_t (fw_t (fw_t (fw_t (fw_t (fw_t (fw_t (fw_t (fw_t (fw_t (fw_t (fw_t (fw_t fw_h))))))))))))))))))))) (fw_c (fw_t (fw_l (fw_l (fw_t (fw_t (fw_t (fw_t (fw_t (fw_t (fw_t (fw_t (fw_t (fw_t (fw_t (fw_t (fw_t (fw_t (fw_t (fw_t (fw_t (fw_t (fw_t fw_h)))))))))))))))))))))) (fw_c (fw_t (fw_l (fw_l (fw_t (fw_t (fw_t (fw_t (fw_t (fw_t (fw_t (fw_t (fw_t (fw_t (fw_t (fw_t (fw_t (fw_t (fw_t (fw_t (fw_t (fw_t (fw_t (fw_t fw_h))))))))))))))))))))))) (fw_c (fw_t (fw_l (fw_l (fw_t (fw_t (fw_t (fw_t (fw_t (fw_t (fw_t (fw_t (fw_t (fw_t (fw_t (fw_t (fw_t (fw_t (fw_t (fw_t (fw_t (fw_t (fw_t (fw_t (fw_t fw_h)))))))))))))))))))))))) (fw_c (fw_t (fw_l (fw_l (fw_t (fw_t (fw_t (fw_t (fw_t (fw_t (fw_t (fw_t (fw_t (fw_t (fw_t (fw_t (fw_t (fw_t (fw_t (fw_t (fw_t (fw_t (fw_t (fw_t (fw_t (fw_t fw_h))))))))))))))))))))))))) (fw_c (fw_t (fw_l (fw_l (fw_t (fw_t (fw_t (fw_t (fw_t (fw_t (fw_t (fw_t (fw_t (fw_t (fw_t (fw_t (fw_t (fw_t (fw_t (fw_t (fw_t (fw_t (fw_t (fw_t (fw_t (fw_t (fw_t fw_h)))))))))))))))))))))))))) (fw_c (fw_t (fw_l (fw_r (fw_l fw_h)))) (fw_c (fw_t (fw_l (fw_r (fw_l (fw_t fw_h))))) (fw_c (fw_t (fw_l (fw_r (fw_l (fw_t (fw_t fw_h)))))) (fw_c (fw_t (fw_l (fw_r (fw_l (fw_t (fw_t (fw_t fw_h))))))) (fw_c (fw_t (fw_l (fw_r (fw_l (fw_t (fw_t (fw_t (fw_t fw_h)))))))) (fw_c (fw_t (fw_l (fw_r (fw_l (fw_t (fw_t (fw_t (fw_t (fw_t fw_h))))))))) (fw_c (fw_t (fw_l (fw_r (fw_l (fw_t (fw_t (fw_t (fw_t (fw_t (fw_t fw_h)))))))))) fw_n)))))))))))))))))))))))) (fw_a (fw_c (fw_t (fw_l (fw_r (fw_l (fw_t (fw_t (fw_t (fw_t (fw_t (fw_t (fw_t fw_h))))))))))) (fw_c (fw_t (fw_l (fw_r (fw_l (fw_t (fw_t (fw_t (fw_t (fw_t (fw_t (fw_t (fw_t fw_h)))))))))))) (fw_c (fw_t (fw_l (fw_r (fw_l (fw_t (fw_t (fw_t (fw_t (fw_t (fw_t (fw_t (fw_t (fw_t fw_h))))))))))))) (fw_c (fw_t (fw_l (fw_r (fw_l (fw_t (fw_t (fw_t (fw_t (fw_t (fw_t (fw_t (fw_t (fw_t (fw_t fw_h)))))))))))))) (fw_c (fw_t (fw_l (fw_r (fw_l (fw_t (fw_t (fw_t (fw_t (fw_t (fw_t (fw_t (fw_t (fw_t (fw_t (fw_t fw_h))))))))))))))) (fw_c (fw_t (fw_l (fw_r (fw_l (fw_t (fw_t (fw_t (fw_t (fw_t (fw_t (fw_t (fw_t (fw_t (fw_t (fw_t (fw_t fw_h)))))))))))))))) (fw_c (fw_t (fw_l (fw_r (fw_l (fw_t (fw_t (fw_t (fw_t (fw_t (fw_t (fw_t (fw_t (fw_t (fw_t (fw_t (fw_t (fw_t fw_h))))))))))))))))) (fw_c (fw_t (fw_l (fw_r (fw_l (fw_t (fw_t (fw_t (fw_t (fw_t (fw_t (fw_t (fw_t (fw_t (fw_t (fw_t (fw_t (fw_t (fw_t fw_h)))))))))))))))))) (fw_c (fw_t (fw_l (fw_r (fw_l (fw_t (fw_t (fw_t (fw_t (fw_t (fw_t (fw_t (fw_t (fw_t (fw_t (fw_t (fw_t (fw_t (fw_t (fw_t fw_h))))))))))))))))))) (fw_c (fw_t (fw_l (fw_r (fw_l (fw_t (fw_t (fw_t (fw_t (fw_t (fw_t (fw_t (fw_t (fw_t (fw_t (fw_t (fw_t (fw_t (fw_t (fw_t (fw_t fw_h)))))))))))))))))))) (fw_c (fw_t (fw_l (fw_r (fw_l (fw_t (fw_t (fw_t (fw_t (fw_t (fw_t (fw_t (fw_t (fw_t (fw_t (fw_t (fw_t (fw_t (fw_t (fw_t (fw_t (fw_t fw_h))))))))))))))))))))) (fw_c (fw_t (fw_l (fw_r (fw_l (fw_t (fw_t (fw_t (fw_t (fw_t (fw_t (fw_t (fw_t (fw_t (fw_t (fw_t (fw_t (fw_t (fw_t (fw_t (fw_t (fw_t (fw_t fw_h)))))))))))))))))))))) (fw_c (fw_t (fw_l (fw_r (fw_l (fw_t (fw_t (fw_t (fw_t (fw_t (fw_t (fw_t (fw_t (fw_t (fw_t (fw_t (fw_t (fw_t (fw_t (fw_t (fw_t (fw_t (fw_t (fw_t fw_h))))))))))))))))))))))) (fw_c (fw_t (fw_l (fw_r (fw_l (fw_t (fw_t (fw_t (fw_t (fw_t (fw_t (fw_t (fw_t (fw_t (fw_t (fw_t (fw_t (fw_t (fw_t (fw_t (fw_t (fw_t (fw_t (fw_t (fw_t fw_h)))))))))))))))))))))))) (fw_c (fw_t (fw_l (fw_r (fw_l (fw_t (fw_t (fw_t (fw_t (fw_t (fw_t (fw_t (fw_t (fw_t (fw_t (fw_t (fw_t (fw_t (fw_t (fw_t (fw_t (fw_t (fw_t (fw_t (fw_t (fw_t fw_h))))))))))))))))))))))))) (fw_c (fw_t (fw_l (fw_r (fw_l (fw_t (fw_t (fw_t (fw_t (fw_t (fw_t (fw_t (fw_t (fw_t (fw_t (fw_t (fw_t (fw_t (fw_t (fw_t (fw_t (fw_t (fw_t (fw_t (fw_t (fw_t (fw_t fw_h)))))))))))))))))))))))))) (fw_c (fw_t (fw_l (fw_r (fw_l (fw_t (fw_t (fw_t (fw_t (fw_t (fw_t (fw_t (fw_t (fw_t (fw_t (fw_t (fw_t (fw_t (fw_t (fw_t (fw_t (fw_t (fw_t (fw_t (fw_t (fw_t (fw_t (fw_t fw_h))))))))))))))))))))))))))) (fw_c (fw_t (fw_l (fw_r (fw_r (fw_l fw_h))))) (fw_c (fw_t (fw_l (fw_r (fw_r (fw_l (fw_t fw_h)))))) (fw_c (fw_t (fw_l (fw_r (fw_r (fw_l (fw_t (fw_t fw_h))))))) (fw_c (fw_t (fw_l (fw_r (fw_r (fw_l (fw_t (fw_t (fw_t fw_h)))))))) (fw_c (fw_t (fw_l (fw_r (fw_r (fw_l (fw_t (fw_t (fw_t (fw_t fw_h))))))))) (fw_c (fw_t (fw_l (fw_r (fw_r (fw_l (fw_t (fw_t (fw_t (fw_t (fw_t fw_h)))))))))) (fw_c (fw_t (fw_l (fw_r (fw_r (fw_l (fw_t (fw_t (fw_t (fw_t (fw_t (fw_t fw_h))))))))))) fw_n)))))))))))))))))))))))) (fw_c (fw_t (fw_l (fw_r (fw_r (fw_l (fw_t (fw_t (fw_t (fw_t (fw_t (fw_t (fw_t fw_h)))))))))))) (fw_c (fw_t (fw_l (fw_r (fw_r (fw_l (fw_t (fw_t (fw_t (fw_t (fw_t (fw_t (fw_t (fw_t fw_h))))))))))))) (fw_c (fw_t (fw_l (fw_r (fw_r (fw_l (fw_t (fw_t (fw_t (fw_t (fw_t (fw_t (fw_t (fw_t (fw_t fw_h)))))))))))))) (fw_c (fw_t (fw_l (fw_r (fw_r (fw_l (fw_t (fw_t (fw_t (fw_t (fw_t (fw_t (fw_t (fw_t (fw_t (fw_t fw_h))))))))))))))) (fw_c (fw_t (fw_l (fw_r (fw_r (fw_l (fw_t (fw_t (fw_t (fw_t (fw_t (fw_t (fw_t (fw_t (fw_t (fw_t (fw_t fw_h)))))))))))))))) fw_n))))))) (fun _ h => fw_t (fw_r h)))) (by decide +kernel)
set_option maxRecDepth 20000 in
theorem gX12_is_X12_isGroup : GoodIn wsX12_is (wsV RX12 152 RX12 yX12_isGroup wsX12_isGroup) := goodIn_app (goodIn_sub (fw_c (fw_t (fw_l (fw_l (fw_t (fw_t (fw_t (fw_t fw_h))))))) (fw_c (fw_t (fw_l (fw_l (fw_t (fw_t (fw_t (fw_t (fw_t fw_h)))))))) (fw_c (fw_t (fw_l (fw_l (fw_t (fw_t (fw_t (fw_t (fw_t (fw_t fw_h))))))))) (fw_c (fw_t (fw_l (fw_l (fw_t (fw_t (fw_t (fw_t (fw_t (fw_t (fw_t fw_h)))))))))) fw_n)))) (by decide +kernel)) ggX12_is_X12_isGroup
set_option maxRecDepth 20000 in
theorem ggX12_is_X12_finds : GoodIn wsX12_is wsX12_finds := goodIn_sub (fw_c (fw_t (fw_l (fw_r (fw_r (fw_l (fw_t (fw_t (fw_t (fw_t (fw_t (fw_t (fw_t (fw_t (fw_t (fw_t (fw_t (fw_t (fw_t (fw_t (fw_t fw_h)))))))))))))))))))) (fw_a (fw_c (fw_t (fw_l (fw_r (fw_r (fw_l (fw_t (fw_t (fw_t (fw_t (fw_t (fw_t (fw_t (fw_t (fw_t (fw_t (fw_t (fw_t (fw_t (fw_t (fw_t (fw_t fw_h))))))))))))))))))))) fw_n) (fun _ h => fw_t (fw_r h)))) (by decide +kernel)
set_option maxRecDepth 20000 in
theorem gX12_is_X12_finds : GoodIn wsX12_is (wsV RX12 56 RX12 yX12_finds wsX12_finds) := goodIn_app (goodIn_sub (fw_c (fw_t (fw_l (fw_r (fw_r (fw_l (fw_t (fw_t (fw_t (fw_t (fw_t (fw_t (fw_t (fw_t (fw_t (fw_t (fw_t (fw_t fw_h))))))))))))))))) (fw_c (fw_t (fw_l (fw_r (fw_r (fw_l (fw_t (fw_t (fw_t (fw_t (fw_t (fw_t (fw_t (fw_t (fw_t (fw_t (fw_t (fw_t (fw_t fw_h)))))))))))))))))) (fw_c (fw_t (fw_l (fw_r (fw_r (fw_l (fw_t (fw_t (fw_t (fw_t (fw_t (fw_t (fw_t (fw_t (fw_t (fw_t (fw_t (fw_t (fw_t (fw_t fw_h))))))))))))))))))) (fw_c (fw_t (fw_l (fw_l (fw_t (fw_t (fw_t (fw_t (fw_t (fw_t (fw_t fw_h)))))))))) fw_n)))) (by decide +kernel)) ggX12_is_X12_finds
set_option maxRecDepth 20000 in
theorem ggX12_is_X12_wrongAt : GoodIn wsX12_is wsX12_wrongAt := goodIn_sub (fw_c (fw_t (fw_l (fw_r (fw_r (fw_l (fw_t (fw_t (fw_t (fw_t (fw_t (fw_t (fw_t (fw_t (fw_t (fw_t (fw_t (fw_t (fw_t (fw_t (fw_t (fw_t (fw_t (fw_t (fw_t (fw_t fw_h))))))))))))))))))))))))) (fw_a (fw_c (fw_t (fw_l (fw_l (fw_t (fw_t fw_h))))) fw_n) (fun _ h => fw_t (fw_r h)))) (by decide +kernel)
set_option maxRecDepth 20000 in
theorem gX12_is_X12_wrongAt : GoodIn wsX12_is (wsV RX12 158 RX12 yX12_wrongAt wsX12_wrongAt) := goodIn_app (goodIn_sub (fw_c (fw_t (fw_l (fw_r (fw_r (fw_l (fw_t (fw_t (fw_t (fw_t (fw_t (fw_t (fw_t (fw_t (fw_t (fw_t (fw_t (fw_t (fw_t (fw_t (fw_t (fw_t (fw_t fw_h)))))))))))))))))))))) (fw_c (fw_t (fw_l (fw_r (fw_r (fw_l (fw_t (fw_t (fw_t (fw_t (fw_t (fw_t (fw_t (fw_t (fw_t (fw_t (fw_t (fw_t (fw_t (fw_t (fw_t (fw_t (fw_t (fw_t fw_h))))))))))))))))))))))) (fw_c (fw_t (fw_l (fw_r (fw_r (fw_l (fw_t (fw_t (fw_t (fw_t (fw_t (fw_t (fw_t (fw_t (fw_t (fw_t (fw_t (fw_t (fw_t (fw_t (fw_t (fw_t (fw_t (fw_t (fw_t fw_h)))))))))))))))))))))))) (fw_c (fw_t (fw_l (fw_l (fw_t (fw_t (fw_t (fw_t (fw_t (fw_t (fw_t fw_h)))))))))) fw_n)))) (by decide +kernel)) ggX12_is_X12_wrongAt
set_option maxRecDepth 20000 in
theorem ggX12_is_X12_told : GoodIn wsX12_is wsX12_told := goodIn_sub (fw_c (fw_t (fw_l (fw_r (fw_r (fw_r fw_h))))) (fw_a (fw_c (fw_t (fw_l (fw_l (fw_t (fw_t fw_h))))) (fw_c (fw_t (fw_l (fw_l (fw_t (fw_t (fw_t (fw_t (fw_t (fw_t (fw_t (fw_t (fw_t (fw_t (fw_t (fw_t (fw_t (fw_t fw_h))))))))))))))))) (fw_c (fw_t (fw_l (fw_r (fw_l fw_h)))) (fw_c (fw_t (fw_l (fw_r (fw_l (fw_t fw_h))))) (fw_c (fw_t (fw_l (fw_r (fw_l (fw_t (fw_t fw_h)))))) (fw_c (fw_t (fw_l (fw_l (fw_t (fw_t (fw_t (fw_t (fw_t (fw_t (fw_t fw_h)))))))))) (fw_c (fw_t (fw_l (fw_r (fw_l (fw_t (fw_t (fw_t fw_h))))))) fw_n))))))) (fun _ h => fw_t (fw_r h)))) (by decide +kernel)
set_option maxRecDepth 20000 in
theorem gX12_is_X12_told : GoodIn wsX12_is (wsV RX12 162 RX12 yX12_told wsX12_told) := goodIn_app (goodIn_sub (fw_c (fw_t (fw_l (fw_r (fw_r (fw_l (fw_t (fw_t (fw_t (fw_t (fw_t (fw_t (fw_t (fw_t (fw_t (fw_t (fw_t (fw_t (fw_t (fw_t (fw_t (fw_t (fw_t (fw_t (fw_t (fw_t (fw_t fw_h)))))))))))))))))))))))))) (fw_c (fw_t (fw_l (fw_r (fw_r (fw_l (fw_t (fw_t (fw_t (fw_t (fw_t (fw_t (fw_t (fw_t (fw_t (fw_t (fw_t (fw_t (fw_t (fw_t (fw_t (fw_t (fw_t (fw_t (fw_t (fw_t (fw_t (fw_t fw_h))))))))))))))))))))))))))) (fw_c (fw_t (fw_l (fw_r (fw_r (fw_l (fw_t (fw_t (fw_t (fw_t (fw_t (fw_t (fw_t (fw_t (fw_t (fw_t (fw_t (fw_t (fw_t (fw_t (fw_t (fw_t (fw_t (fw_t (fw_t (fw_t (fw_t (fw_t (fw_t fw_h)))))))))))))))))))))))))))) (fw_c (fw_t (fw_l (fw_l (fw_t (fw_t (fw_t (fw_t (fw_t (fw_t (fw_t fw_h)))))))))) fw_n)))) (by decide +kernel)) ggX12_is_X12_told
theorem dX12_is_0 : decode cX12_is 0 = .ok (.aload_n 0, 1) := by decide +kernel
theorem dX12_is_1 : decode cX12_is 1 = .ok (.iload_n 1, 1) := by decide +kernel
theorem dX12_is_2 : decode cX12_is 2 = .ok (.invokevirtual 152, 3) := by decide +kernel
theorem dX12_is_5 : decode cX12_is 5 = .ok (.ifCond .ne 11, 3) := by decide +kernel
theorem dX12_is_8 : decode cX12_is 8 = .ok (.aload_n 0, 1) := by decide +kernel
theorem dX12_is_9 : decode cX12_is 9 = .ok (.ldc2_w 76, 3) := by decide +kernel
theorem dX12_is_12 : decode cX12_is 12 = .ok (.invokevirtual 56, 3) := by decide +kernel
theorem dX12_is_15 : decode cX12_is 15 = .ok (.lreturn, 1) := by decide +kernel
theorem dX12_is_16 : decode cX12_is 16 = .ok (.aload_n 0, 1) := by decide +kernel
theorem dX12_is_17 : decode cX12_is 17 = .ok (.invokevirtual 158, 3) := by decide +kernel
theorem dX12_is_20 : decode cX12_is 20 = .ok (.iconst (-1), 1) := by decide +kernel
theorem dX12_is_21 : decode cX12_is 21 = .ok (.if_icmp .eq 11, 3) := by decide +kernel
theorem dX12_is_24 : decode cX12_is 24 = .ok (.aload_n 0, 1) := by decide +kernel
theorem dX12_is_25 : decode cX12_is 25 = .ok (.ldc2_w 131, 3) := by decide +kernel
theorem dX12_is_28 : decode cX12_is 28 = .ok (.invokevirtual 56, 3) := by decide +kernel
theorem dX12_is_31 : decode cX12_is 31 = .ok (.lreturn, 1) := by decide +kernel
theorem dX12_is_32 : decode cX12_is 32 = .ok (.iconst 0, 1) := by decide +kernel
theorem dX12_is_33 : decode cX12_is 33 = .ok (.istore_n 2, 1) := by decide +kernel
theorem dX12_is_34 : decode cX12_is 34 = .ok (.iconst 0, 1) := by decide +kernel
theorem dX12_is_35 : decode cX12_is 35 = .ok (.istore_n 3, 1) := by decide +kernel
theorem dX12_is_36 : decode cX12_is 36 = .ok (.iload_n 3, 1) := by decide +kernel
theorem dX12_is_37 : decode cX12_is 37 = .ok (.aload_n 0, 1) := by decide +kernel
theorem dX12_is_38 : decode cX12_is 38 = .ok (.getfield 9, 3) := by decide +kernel
theorem dX12_is_41 : decode cX12_is 41 = .ok (.iconst 2, 1) := by decide +kernel
theorem dX12_is_42 : decode cX12_is 42 = .ok (.iaload, 1) := by decide +kernel
theorem dX12_is_43 : decode cX12_is 43 = .ok (.if_icmp .ge 223, 3) := by decide +kernel
theorem dX12_is_46 : decode cX12_is 46 = .ok (.aload_n 0, 1) := by decide +kernel
theorem dX12_is_47 : decode cX12_is 47 = .ok (.getfield 9, 3) := by decide +kernel
theorem dX12_is_50 : decode cX12_is 50 = .ok (.sipush 322, 3) := by decide +kernel
theorem dX12_is_53 : decode cX12_is 53 = .ok (.iload_n 3, 1) := by decide +kernel
theorem dX12_is_54 : decode cX12_is 54 = .ok (.iadd, 1) := by decide +kernel
theorem dX12_is_55 : decode cX12_is 55 = .ok (.iaload, 1) := by decide +kernel
theorem dX12_is_56 : decode cX12_is 56 = .ok (.istore 4, 2) := by decide +kernel
theorem dX12_is_58 : decode cX12_is 58 = .ok (.iload 4, 2) := by decide +kernel
theorem dX12_is_60 : decode cX12_is 60 = .ok (.bipush 20, 2) := by decide +kernel
theorem dX12_is_62 : decode cX12_is 62 = .ok (.if_icmp .ge 37, 3) := by decide +kernel
theorem dX12_is_65 : decode cX12_is 65 = .ok (.aload_n 0, 1) := by decide +kernel
theorem dX12_is_66 : decode cX12_is 66 = .ok (.getfield 38, 3) := by decide +kernel
theorem dX12_is_69 : decode cX12_is 69 = .ok (.iload_n 2, 1) := by decide +kernel
theorem dX12_is_70 : decode cX12_is 70 = .ok (.iload 4, 2) := by decide +kernel
theorem dX12_is_72 : decode cX12_is 72 = .ok (.bipush 10, 2) := by decide +kernel
theorem dX12_is_74 : decode cX12_is 74 = .ok (.if_icmp .ge 13, 3) := by decide +kernel
theorem dX12_is_77 : decode cX12_is 77 = .ok (.aload_n 0, 1) := by decide +kernel
theorem dX12_is_78 : decode cX12_is 78 = .ok (.iload_n 1, 1) := by decide +kernel
theorem dX12_is_79 : decode cX12_is 79 = .ok (.iload 4, 2) := by decide +kernel
theorem dX12_is_81 : decode cX12_is 81 = .ok (.invokevirtual 162, 3) := by decide +kernel
theorem dX12_is_84 : decode cX12_is 84 = .ok (.goto 8, 3) := by decide +kernel
theorem dX12_is_87 : decode cX12_is 87 = .ok (.iload 4, 2) := by decide +kernel
theorem dX12_is_89 : decode cX12_is 89 = .ok (.bipush 10, 2) := by decide +kernel
theorem dX12_is_91 : decode cX12_is 91 = .ok (.isub, 1) := by decide +kernel
theorem dX12_is_92 : decode cX12_is 92 = .ok (.iastore, 1) := by decide +kernel
theorem dX12_is_93 : decode cX12_is 93 = .ok (.iinc 2 1, 3) := by decide +kernel
theorem dX12_is_96 : decode cX12_is 96 = .ok (.goto 164, 3) := by decide +kernel
theorem dX12_is_99 : decode cX12_is 99 = .ok (.iload 4, 2) := by decide +kernel
theorem dX12_is_101 : decode cX12_is 101 = .ok (.bipush 22, 2) := by decide +kernel
theorem dX12_is_103 : decode cX12_is 103 = .ok (.if_icmp .ne 30, 3) := by decide +kernel
theorem dX12_is_106 : decode cX12_is 106 = .ok (.aload_n 0, 1) := by decide +kernel
theorem dX12_is_107 : decode cX12_is 107 = .ok (.getfield 38, 3) := by decide +kernel
theorem dX12_is_110 : decode cX12_is 110 = .ok (.iload_n 2, 1) := by decide +kernel
theorem dX12_is_111 : decode cX12_is 111 = .ok (.iconst 1, 1) := by decide +kernel
theorem dX12_is_112 : decode cX12_is 112 = .ok (.isub, 1) := by decide +kernel
theorem dX12_is_113 : decode cX12_is 113 = .ok (.aload_n 0, 1) := by decide +kernel
theorem dX12_is_114 : decode cX12_is 114 = .ok (.getfield 38, 3) := by decide +kernel
theorem dX12_is_117 : decode cX12_is 117 = .ok (.iload_n 2, 1) := by decide +kernel
theorem dX12_is_118 : decode cX12_is 118 = .ok (.iconst 1, 1) := by decide +kernel
theorem dX12_is_119 : decode cX12_is 119 = .ok (.isub, 1) := by decide +kernel
theorem dX12_is_120 : decode cX12_is 120 = .ok (.iaload, 1) := by decide +kernel
theorem dX12_is_121 : decode cX12_is 121 = .ok (.ifCond .ne 7, 3) := by decide +kernel
theorem dX12_is_124 : decode cX12_is 124 = .ok (.iconst 1, 1) := by decide +kernel
theorem dX12_is_125 : decode cX12_is 125 = .ok (.goto 4, 3) := by decide +kernel
theorem dX12_is_128 : decode cX12_is 128 = .ok (.iconst 0, 1) := by decide +kernel
theorem dX12_is_129 : decode cX12_is 129 = .ok (.iastore, 1) := by decide +kernel
theorem dX12_is_130 : decode cX12_is 130 = .ok (.goto 130, 3) := by decide +kernel
theorem dX12_is_133 : decode cX12_is 133 = .ok (.aload_n 0, 1) := by decide +kernel
theorem dX12_is_134 : decode cX12_is 134 = .ok (.getfield 38, 3) := by decide +kernel
theorem dX12_is_137 : decode cX12_is 137 = .ok (.iload_n 2, 1) := by decide +kernel
theorem dX12_is_138 : decode cX12_is 138 = .ok (.iconst 2, 1) := by decide +kernel
theorem dX12_is_139 : decode cX12_is 139 = .ok (.isub, 1) := by decide +kernel
theorem dX12_is_140 : decode cX12_is 140 = .ok (.iaload, 1) := by decide +kernel
theorem dX12_is_141 : decode cX12_is 141 = .ok (.istore 5, 2) := by decide +kernel
theorem dX12_is_143 : decode cX12_is 143 = .ok (.aload_n 0, 1) := by decide +kernel
theorem dX12_is_144 : decode cX12_is 144 = .ok (.getfield 38, 3) := by decide +kernel
theorem dX12_is_147 : decode cX12_is 147 = .ok (.iload_n 2, 1) := by decide +kernel
theorem dX12_is_148 : decode cX12_is 148 = .ok (.iconst 1, 1) := by decide +kernel
theorem dX12_is_149 : decode cX12_is 149 = .ok (.isub, 1) := by decide +kernel
theorem dX12_is_150 : decode cX12_is 150 = .ok (.iaload, 1) := by decide +kernel
theorem dX12_is_151 : decode cX12_is 151 = .ok (.istore 6, 2) := by decide +kernel
theorem dX12_is_153 : decode cX12_is 153 = .ok (.iload 4, 2) := by decide +kernel
theorem dX12_is_155 : decode cX12_is 155 = .ok (.bipush 20, 2) := by decide +kernel
theorem dX12_is_157 : decode cX12_is 157 = .ok (.if_icmp .ne 18, 3) := by decide +kernel
theorem dX12_is_160 : decode cX12_is 160 = .ok (.iload 5, 2) := by decide +kernel
theorem dX12_is_162 : decode cX12_is 162 = .ok (.iload 6, 2) := by decide +kernel
theorem dX12_is_164 : decode cX12_is 164 = .ok (.if_icmp .ge 7, 3) := by decide +kernel
theorem dX12_is_167 : decode cX12_is 167 = .ok (.iconst 1, 1) := by decide +kernel
theorem dX12_is_168 : decode cX12_is 168 = .ok (.goto 69, 3) := by decide +kernel
theorem dX12_is_171 : decode cX12_is 171 = .ok (.iconst 0, 1) := by decide +kernel
theorem dX12_is_172 : decode cX12_is 172 = .ok (.goto 65, 3) := by decide +kernel
theorem dX12_is_175 : decode cX12_is 175 = .ok (.iload 4, 2) := by decide +kernel
theorem dX12_is_177 : decode cX12_is 177 = .ok (.bipush 21, 2) := by decide +kernel
theorem dX12_is_179 : decode cX12_is 179 = .ok (.if_icmp .ne 18, 3) := by decide +kernel
theorem dX12_is_182 : decode cX12_is 182 = .ok (.iload 5, 2) := by decide +kernel
theorem dX12_is_184 : decode cX12_is 184 = .ok (.iload 6, 2) := by decide +kernel
theorem dX12_is_186 : decode cX12_is 186 = .ok (.if_icmp .ne 7, 3) := by decide +kernel
theorem dX12_is_189 : decode cX12_is 189 = .ok (.iconst 1, 1) := by decide +kernel
theorem dX12_is_190 : decode cX12_is 190 = .ok (.goto 47, 3) := by decide +kernel
theorem dX12_is_193 : decode cX12_is 193 = .ok (.iconst 0, 1) := by decide +kernel
theorem dX12_is_194 : decode cX12_is 194 = .ok (.goto 43, 3) := by decide +kernel
theorem dX12_is_197 : decode cX12_is 197 = .ok (.iload 4, 2) := by decide +kernel
theorem dX12_is_199 : decode cX12_is 199 = .ok (.bipush 23, 2) := by decide +kernel
theorem dX12_is_201 : decode cX12_is 201 = .ok (.if_icmp .ne 21, 3) := by decide +kernel
theorem dX12_is_204 : decode cX12_is 204 = .ok (.iload 5, 2) := by decide +kernel
theorem dX12_is_206 : decode cX12_is 206 = .ok (.ifCond .eq 12, 3) := by decide +kernel
theorem dX12_is_209 : decode cX12_is 209 = .ok (.iload 6, 2) := by decide +kernel
theorem dX12_is_211 : decode cX12_is 211 = .ok (.ifCond .eq 7, 3) := by decide +kernel
theorem dX12_is_214 : decode cX12_is 214 = .ok (.iconst 1, 1) := by decide +kernel
theorem dX12_is_215 : decode cX12_is 215 = .ok (.goto 22, 3) := by decide +kernel
theorem dX12_is_218 : decode cX12_is 218 = .ok (.iconst 0, 1) := by decide +kernel
theorem dX12_is_219 : decode cX12_is 219 = .ok (.goto 18, 3) := by decide +kernel
theorem dX12_is_222 : decode cX12_is 222 = .ok (.iload 5, 2) := by decide +kernel
theorem dX12_is_224 : decode cX12_is 224 = .ok (.ifCond .ne 8, 3) := by decide +kernel
theorem dX12_is_227 : decode cX12_is 227 = .ok (.iload 6, 2) := by decide +kernel
theorem dX12_is_229 : decode cX12_is 229 = .ok (.ifCond .eq 7, 3) := by decide +kernel
theorem dX12_is_232 : decode cX12_is 232 = .ok (.iconst 1, 1) := by decide +kernel
theorem dX12_is_233 : decode cX12_is 233 = .ok (.goto 4, 3) := by decide +kernel
theorem dX12_is_236 : decode cX12_is 236 = .ok (.iconst 0, 1) := by decide +kernel
theorem dX12_is_237 : decode cX12_is 237 = .ok (.istore 7, 2) := by decide +kernel
theorem dX12_is_239 : decode cX12_is 239 = .ok (.iinc 2 (-1), 3) := by decide +kernel
theorem dX12_is_242 : decode cX12_is 242 = .ok (.aload_n 0, 1) := by decide +kernel
theorem dX12_is_243 : decode cX12_is 243 = .ok (.getfield 38, 3) := by decide +kernel
theorem dX12_is_246 : decode cX12_is 246 = .ok (.iload_n 2, 1) := by decide +kernel
theorem dX12_is_247 : decode cX12_is 247 = .ok (.iconst 1, 1) := by decide +kernel
theorem dX12_is_248 : decode cX12_is 248 = .ok (.isub, 1) := by decide +kernel
theorem dX12_is_249 : decode cX12_is 249 = .ok (.iload 7, 2) := by decide +kernel
theorem dX12_is_251 : decode cX12_is 251 = .ok (.ifCond .eq 7, 3) := by decide +kernel
theorem dX12_is_254 : decode cX12_is 254 = .ok (.iconst 1, 1) := by decide +kernel
theorem dX12_is_255 : decode cX12_is 255 = .ok (.goto 4, 3) := by decide +kernel
theorem dX12_is_258 : decode cX12_is 258 = .ok (.iconst 0, 1) := by decide +kernel
theorem dX12_is_259 : decode cX12_is 259 = .ok (.iastore, 1) := by decide +kernel
theorem dX12_is_260 : decode cX12_is 260 = .ok (.iinc 3 1, 3) := by decide +kernel
theorem dX12_is_263 : decode cX12_is 263 = .ok (.goto (-227), 3) := by decide +kernel
theorem dX12_is_266 : decode cX12_is 266 = .ok (.aload_n 0, 1) := by decide +kernel
theorem dX12_is_267 : decode cX12_is 267 = .ok (.getfield 38, 3) := by decide +kernel
theorem dX12_is_270 : decode cX12_is 270 = .ok (.iconst 0, 1) := by decide +kernel
theorem dX12_is_271 : decode cX12_is 271 = .ok (.iaload, 1) := by decide +kernel
theorem dX12_is_272 : decode cX12_is 272 = .ok (.ifCond .eq 7, 3) := by decide +kernel
theorem dX12_is_275 : decode cX12_is 275 = .ok (.lconst 1, 1) := by decide +kernel
theorem dX12_is_276 : decode cX12_is 276 = .ok (.goto 4, 3) := by decide +kernel
theorem dX12_is_279 : decode cX12_is 279 = .ok (.lconst 0, 1) := by decide +kernel
theorem dX12_is_280 : decode cX12_is 280 = .ok (.lreturn, 1) := by decide +kernel
set_option maxRecDepth 20000 in
theorem ggX12_isField_X12_in : GoodIn wsX12_isField wsX12_in := goodIn_sub (fw_c (fw_t (fw_l (fw_t (fw_t (fw_t (fw_t fw_h)))))) (fw_n)) (by decide +kernel)
set_option maxRecDepth 20000 in
theorem gX12_isField_X12_in : GoodIn wsX12_isField (va_wsS RX12 60 yX12_in wsX12_in) := goodIn_app (goodIn_sub (fw_c (fw_t (fw_l (fw_t fw_h))) (fw_c (fw_t (fw_l (fw_t (fw_t fw_h)))) (fw_c (fw_t (fw_l (fw_t (fw_t (fw_t fw_h))))) fw_n))) (by decide +kernel)) ggX12_isField_X12_in
theorem dX12_isField_0 : decode cX12_isField 0 = .ok (.iload_n 1, 1) := by decide +kernel
theorem dX12_isField_1 : decode cX12_isField 1 = .ok (.iconst 0, 1) := by decide +kernel
theorem dX12_isField_2 : decode cX12_isField 2 = .ok (.aload_n 0, 1) := by decide +kernel
theorem dX12_isField_3 : decode cX12_isField 3 = .ok (.getfield 9, 3) := by decide +kernel
theorem dX12_isField_6 : decode cX12_isField 6 = .ok (.iconst 3, 1) := by decide +kernel
theorem dX12_isField_7 : decode cX12_isField 7 = .ok (.iaload, 1) := by decide +kernel
theorem dX12_isField_8 : decode cX12_isField 8 = .ok (.iconst 1, 1) := by decide +kernel
theorem dX12_isField_9 : decode cX12_isField 9 = .ok (.isub, 1) := by decide +kernel
theorem dX12_isField_10 : decode cX12_isField 10 = .ok (.invokestatic 60, 3) := by decide +kernel
theorem dX12_isField_13 : decode cX12_isField 13 = .ok (.ireturn, 1) := by decide +kernel
theorem dX12_ofField_0 : decode cX12_ofField 0 = .ok (.aload_n 0, 1) := by decide +kernel
theorem dX12_ofField_1 : decode cX12_ofField 1 = .ok (.getfield 9, 3) := by decide +kernel
theorem dX12_ofField_4 : decode cX12_ofField 4 = .ok (.sipush 334, 3) := by decide +kernel
theorem dX12_ofField_7 : decode cX12_ofField 7 = .ok (.iconst 5, 1) := by decide +kernel
theorem dX12_ofField_8 : decode cX12_ofField 8 = .ok (.iload_n 1, 1) := by decide +kernel
theorem dX12_ofField_9 : decode cX12_ofField 9 = .ok (.imul, 1) := by decide +kernel
theorem dX12_ofField_10 : decode cX12_ofField 10 = .ok (.iadd, 1) := by decide +kernel
theorem dX12_ofField_11 : decode cX12_ofField 11 = .ok (.iload_n 2, 1) := by decide +kernel
theorem dX12_ofField_12 : decode cX12_ofField 12 = .ok (.iadd, 1) := by decide +kernel
theorem dX12_ofField_13 : decode cX12_ofField 13 = .ok (.iaload, 1) := by decide +kernel
theorem dX12_ofField_14 : decode cX12_ofField 14 = .ok (.ireturn, 1) := by decide +kernel
set_option maxRecDepth 20000 in
theorem ggX12_field_X12_in : GoodIn wsX12_field wsX12_in := goodIn_sub (fw_c (fw_t (fw_l (fw_t (fw_t (fw_t (fw_t (fw_t (fw_t fw_h)))))))) (fw_n)) (by decide +kernel)
set_option maxRecDepth 20000 in
theorem gX12_field_X12_in : GoodIn wsX12_field (va_wsS RX12 60 yX12_in wsX12_in) := goodIn_app (goodIn_sub (fw_c (fw_t (fw_l (fw_t (fw_t (fw_t fw_h))))) (fw_c (fw_t (fw_l (fw_t (fw_t (fw_t (fw_t fw_h)))))) (fw_c (fw_t (fw_l (fw_t (fw_t (fw_t (fw_t (fw_t fw_h))))))) fw_n))) (by decide +kernel)) ggX12_field_X12_in
set_option maxRecDepth 20000 in
theorem ggX12_field_X12_finds : GoodIn wsX12_field wsX12_finds := goodIn_sub (fw_c (fw_t (fw_l (fw_t (fw_t (fw_t (fw_t (fw_t (fw_t (fw_t (fw_t (fw_t (fw_t fw_h)))))))))))) (fw_a (fw_c (fw_t (fw_l (fw_t (fw_t (fw_t (fw_t (fw_t (fw_t (fw_t (fw_t (fw_t (fw_t (fw_t fw_h))))))))))))) fw_n) (fun _ h => fw_t (fw_r h)))) (by decide +kernel)
set_option maxRecDepth 20000 in
theorem gX12_field_X12_finds : GoodIn wsX12_field (wsV RX12 56 RX12 yX12_finds wsX12_finds) := goodIn_app (goodIn_sub (fw_c (fw_t (fw_l (fw_t (fw_t (fw_t (fw_t (fw_t (fw_t (fw_t fw_h))))))))) (fw_c (fw_t (fw_l (fw_t (fw_t (fw_t (fw_t (fw_t (fw_t (fw_t (fw_t fw_h)))))))))) (fw_c (fw_t (fw_l (fw_t (fw_t (fw_t (fw_t (fw_t (fw_t (fw_t (fw_t (fw_t fw_h))))))))))) (fw_c (fw_t (fw_l (fw_t (fw_t (fw_t (fw_t (fw_t fw_h))))))) fw_n)))) (by decide +kernel)) ggX12_field_X12_finds
set_option maxRecDepth 20000 in
theorem ggX12_field_X12_keep : GoodIn wsX12_field wsX12_keep := goodIn_sub (fw_c (fw_t (fw_l (fw_t (fw_t (fw_t (fw_t (fw_t (fw_t (fw_t (fw_t (fw_t (fw_t (fw_t (fw_t (fw_t (fw_t (fw_t fw_h))))))))))))))))) (fw_a (fw_c (fw_t (fw_l (fw_t (fw_t (fw_t (fw_t (fw_t (fw_t (fw_t (fw_t (fw_t (fw_t (fw_t (fw_t (fw_t (fw_t (fw_t (fw_t fw_h)))))))))))))))))) (fw_c (fw_t (fw_l (fw_t (fw_t (fw_t (fw_t (fw_t (fw_t (fw_t (fw_t (fw_t (fw_t (fw_t (fw_t (fw_t (fw_t (fw_t (fw_t (fw_t fw_h))))))))))))))))))) (fw_c (fw_t (fw_l (fw_t fw_h))) (fw_c (fw_t (fw_l (fw_t (fw_t (fw_t (fw_t (fw_t (fw_t (fw_t (fw_t (fw_t (fw_t (fw_t (fw_t (fw_t (fw_t (fw_t (fw_t (fw_t (fw_t fw_h)))))))))))))))))))) fw_n)))) (fun _ h => fw_t (fw_r h)))) (by decide +kernel)
set_option maxRecDepth 20000 in
theorem gX12_field_X12_keep : GoodIn wsX12_field (wsV RX12 66 RX12 yX12_keep wsX12_keep) := goodIn_app (goodIn_sub (fw_c (fw_t (fw_l (fw_t (fw_t (fw_t (fw_t (fw_t (fw_t (fw_t (fw_t (fw_t (fw_t (fw_t (fw_t fw_h)))))))))))))) (fw_c (fw_t (fw_l (fw_t (fw_t (fw_t (fw_t (fw_t (fw_t (fw_t (fw_t (fw_t (fw_t (fw_t (fw_t (fw_t fw_h))))))))))))))) (fw_c (fw_t (fw_l (fw_t (fw_t (fw_t (fw_t (fw_t (fw_t (fw_t (fw_t (fw_t (fw_t (fw_t (fw_t (fw_t (fw_t fw_h)))))))))))))))) (fw_c (fw_t (fw_l (fw_t (fw_t (fw_t (fw_t (fw_t fw_h))))))) fw_n)))) (by decide +kernel)) ggX12_field_X12_keep
theorem dX12_field_0 : decode cX12_field 0 = .ok (.iload_n 1, 1) := by decide +kernel
theorem dX12_field_1 : decode cX12_field 1 = .ok (.iconst 0, 1) := by decide +kernel
theorem dX12_field_2 : decode cX12_field 2 = .ok (.iconst 3, 1) := by decide +kernel
theorem dX12_field_3 : decode cX12_field 3 = .ok (.invokestatic 60, 3) := by decide +kernel
theorem dX12_field_6 : decode cX12_field 6 = .ok (.ifCond .eq 23, 3) := by decide +kernel
theorem dX12_field_9 : decode cX12_field 9 = .ok (.iload_n 2, 1) := by decide +kernel
theorem dX12_field_10 : decode cX12_field 10 = .ok (.iconst 1, 1) := by decide +kernel
theorem dX12_field_11 : decode cX12_field 11 = .ok (.bipush 99, 2) := by decide +kernel
theorem dX12_field_13 : decode cX12_field 13 = .ok (.invokestatic 60, 3) := by decide +kernel
theorem dX12_field_16 : decode cX12_field 16 = .ok (.ifCond .eq 13, 3) := by decide +kernel
theorem dX12_field_19 : decode cX12_field 19 = .ok (.iload_n 3, 1) := by decide +kernel
theorem dX12_field_20 : decode cX12_field 20 = .ok (.iconst 1, 1) := by decide +kernel
theorem dX12_field_21 : decode cX12_field 21 = .ok (.bipush 9, 2) := by decide +kernel
theorem dX12_field_23 : decode cX12_field 23 = .ok (.invokestatic 60, 3) := by decide +kernel
theorem dX12_field_26 : decode cX12_field 26 = .ok (.ifCond .ne 11, 3) := by decide +kernel
theorem dX12_field_29 : decode cX12_field 29 = .ok (.aload_n 0, 1) := by decide +kernel
theorem dX12_field_30 : decode cX12_field 30 = .ok (.ldc2_w 76, 3) := by decide +kernel
theorem dX12_field_33 : decode cX12_field 33 = .ok (.invokevirtual 56, 3) := by decide +kernel
theorem dX12_field_36 : decode cX12_field 36 = .ok (.lreturn, 1) := by decide +kernel
theorem dX12_field_37 : decode cX12_field 37 = .ok (.aload_n 0, 1) := by decide +kernel
theorem dX12_field_38 : decode cX12_field 38 = .ok (.getfield 9, 3) := by decide +kernel
theorem dX12_field_41 : decode cX12_field 41 = .ok (.iconst 3, 1) := by decide +kernel
theorem dX12_field_42 : decode cX12_field 42 = .ok (.iaload, 1) := by decide +kernel
theorem dX12_field_43 : decode cX12_field 43 = .ok (.istore 4, 2) := by decide +kernel
theorem dX12_field_45 : decode cX12_field 45 = .ok (.iload 4, 2) := by decide +kernel
theorem dX12_field_47 : decode cX12_field 47 = .ok (.bipush 8, 2) := by decide +kernel
theorem dX12_field_49 : decode cX12_field 49 = .ok (.if_icmp .ne 11, 3) := by decide +kernel
theorem dX12_field_52 : decode cX12_field 52 = .ok (.aload_n 0, 1) := by decide +kernel
theorem dX12_field_53 : decode cX12_field 53 = .ok (.ldc2_w 64, 3) := by decide +kernel
theorem dX12_field_56 : decode cX12_field 56 = .ok (.invokevirtual 56, 3) := by decide +kernel
theorem dX12_field_59 : decode cX12_field 59 = .ok (.lreturn, 1) := by decide +kernel
theorem dX12_field_60 : decode cX12_field 60 = .ok (.aload_n 0, 1) := by decide +kernel
theorem dX12_field_61 : decode cX12_field 61 = .ok (.invokevirtual 66, 3) := by decide +kernel
theorem dX12_field_64 : decode cX12_field 64 = .ok (.aload_n 0, 1) := by decide +kernel
theorem dX12_field_65 : decode cX12_field 65 = .ok (.getfield 9, 3) := by decide +kernel
theorem dX12_field_68 : decode cX12_field 68 = .ok (.sipush 334, 3) := by decide +kernel
theorem dX12_field_71 : decode cX12_field 71 = .ok (.iconst 5, 1) := by decide +kernel
theorem dX12_field_72 : decode cX12_field 72 = .ok (.iload 4, 2) := by decide +kernel
theorem dX12_field_74 : decode cX12_field 74 = .ok (.imul, 1) := by decide +kernel
theorem dX12_field_75 : decode cX12_field 75 = .ok (.iadd, 1) := by decide +kernel
theorem dX12_field_76 : decode cX12_field 76 = .ok (.iload_n 1, 1) := by decide +kernel
theorem dX12_field_77 : decode cX12_field 77 = .ok (.iastore, 1) := by decide +kernel
theorem dX12_field_78 : decode cX12_field 78 = .ok (.aload_n 0, 1) := by decide +kernel
theorem dX12_field_79 : decode cX12_field 79 = .ok (.getfield 9, 3) := by decide +kernel
theorem dX12_field_82 : decode cX12_field 82 = .ok (.sipush 334, 3) := by decide +kernel
theorem dX12_field_85 : decode cX12_field 85 = .ok (.iconst 5, 1) := by decide +kernel
theorem dX12_field_86 : decode cX12_field 86 = .ok (.iload 4, 2) := by decide +kernel
theorem dX12_field_88 : decode cX12_field 88 = .ok (.imul, 1) := by decide +kernel
theorem dX12_field_89 : decode cX12_field 89 = .ok (.iadd, 1) := by decide +kernel
theorem dX12_field_90 : decode cX12_field 90 = .ok (.iconst 1, 1) := by decide +kernel
theorem dX12_field_91 : decode cX12_field 91 = .ok (.iadd, 1) := by decide +kernel
theorem dX12_field_92 : decode cX12_field 92 = .ok (.iload_n 2, 1) := by decide +kernel
theorem dX12_field_93 : decode cX12_field 93 = .ok (.iastore, 1) := by decide +kernel
theorem dX12_field_94 : decode cX12_field 94 = .ok (.aload_n 0, 1) := by decide +kernel
theorem dX12_field_95 : decode cX12_field 95 = .ok (.getfield 9, 3) := by decide +kernel
theorem dX12_field_98 : decode cX12_field 98 = .ok (.sipush 334, 3) := by decide +kernel
theorem dX12_field_101 : decode cX12_field 101 = .ok (.iconst 5, 1) := by decide +kernel
theorem dX12_field_102 : decode cX12_field 102 = .ok (.iload 4, 2) := by decide +kernel
theorem dX12_field_104 : decode cX12_field 104 = .ok (.imul, 1) := by decide +kernel
theorem dX12_field_105 : decode cX12_field 105 = .ok (.iadd, 1) := by decide +kernel
theorem dX12_field_106 : decode cX12_field 106 = .ok (.iconst 2, 1) := by decide +kernel
theorem dX12_field_107 : decode cX12_field 107 = .ok (.iadd, 1) := by decide +kernel
theorem dX12_field_108 : decode cX12_field 108 = .ok (.iload_n 3, 1) := by decide +kernel
theorem dX12_field_109 : decode cX12_field 109 = .ok (.iastore, 1) := by decide +kernel
theorem dX12_field_110 : decode cX12_field 110 = .ok (.aload_n 0, 1) := by decide +kernel
theorem dX12_field_111 : decode cX12_field 111 = .ok (.getfield 9, 3) := by decide +kernel
theorem dX12_field_114 : decode cX12_field 114 = .ok (.sipush 334, 3) := by decide +kernel
theorem dX12_field_117 : decode cX12_field 117 = .ok (.iconst 5, 1) := by decide +kernel
theorem dX12_field_118 : decode cX12_field 118 = .ok (.iload 4, 2) := by decide +kernel
theorem dX12_field_120 : decode cX12_field 120 = .ok (.imul, 1) := by decide +kernel
theorem dX12_field_121 : decode cX12_field 121 = .ok (.iadd, 1) := by decide +kernel
theorem dX12_field_122 : decode cX12_field 122 = .ok (.iconst 3, 1) := by decide +kernel
theorem dX12_field_123 : decode cX12_field 123 = .ok (.iadd, 1) := by decide +kernel
theorem dX12_field_124 : decode cX12_field 124 = .ok (.iconst 0, 1) := by decide +kernel
theorem dX12_field_125 : decode cX12_field 125 = .ok (.iastore, 1) := by decide +kernel
theorem dX12_field_126 : decode cX12_field 126 = .ok (.aload_n 0, 1) := by decide +kernel
theorem dX12_field_127 : decode cX12_field 127 = .ok (.getfield 9, 3) := by decide +kernel
theorem dX12_field_130 : decode cX12_field 130 = .ok (.sipush 334, 3) := by decide +kernel
theorem dX12_field_133 : decode cX12_field 133 = .ok (.iconst 5, 1) := by decide +kernel
theorem dX12_field_134 : decode cX12_field 134 = .ok (.iload 4, 2) := by decide +kernel
theorem dX12_field_136 : decode cX12_field 136 = .ok (.imul, 1) := by decide +kernel
theorem dX12_field_137 : decode cX12_field 137 = .ok (.iadd, 1) := by decide +kernel
theorem dX12_field_138 : decode cX12_field 138 = .ok (.iconst 4, 1) := by decide +kernel
theorem dX12_field_139 : decode cX12_field 139 = .ok (.iadd, 1) := by decide +kernel
theorem dX12_field_140 : decode cX12_field 140 = .ok (.iconst 0, 1) := by decide +kernel
theorem dX12_field_141 : decode cX12_field 141 = .ok (.iastore, 1) := by decide +kernel
theorem dX12_field_142 : decode cX12_field 142 = .ok (.aload_n 0, 1) := by decide +kernel
theorem dX12_field_143 : decode cX12_field 143 = .ok (.getfield 9, 3) := by decide +kernel
theorem dX12_field_146 : decode cX12_field 146 = .ok (.iconst 3, 1) := by decide +kernel
theorem dX12_field_147 : decode cX12_field 147 = .ok (.dup2, 1) := by decide +kernel
theorem dX12_field_148 : decode cX12_field 148 = .ok (.iaload, 1) := by decide +kernel
theorem dX12_field_149 : decode cX12_field 149 = .ok (.iconst 1, 1) := by decide +kernel
theorem dX12_field_150 : decode cX12_field 150 = .ok (.iadd, 1) := by decide +kernel
theorem dX12_field_151 : decode cX12_field 151 = .ok (.iastore, 1) := by decide +kernel
theorem dX12_field_152 : decode cX12_field 152 = .ok (.iload 4, 2) := by decide +kernel
theorem dX12_field_154 : decode cX12_field 154 = .ok (.i2l, 1) := by decide +kernel
theorem dX12_field_155 : decode cX12_field 155 = .ok (.lreturn, 1) := by decide +kernel
set_option maxRecDepth 20000 in
theorem ggX12_isWeather_X12_in : GoodIn wsX12_isWeather wsX12_in := goodIn_sub (fw_c (fw_t (fw_t (fw_t (fw_t fw_h)))) (fw_n)) (by decide +kernel)
set_option maxRecDepth 20000 in
theorem gX12_isWeather_X12_in : GoodIn wsX12_isWeather (va_wsS RX12 60 yX12_in wsX12_in) := goodIn_app (goodIn_sub (fw_c (fw_t fw_h) (fw_c (fw_t (fw_t fw_h)) (fw_c (fw_t (fw_t (fw_t fw_h))) fw_n))) (by decide +kernel)) ggX12_isWeather_X12_in
theorem dX12_isWeather_0 : decode cX12_isWeather 0 = .ok (.iload_n 0, 1) := by decide +kernel
theorem dX12_isWeather_1 : decode cX12_isWeather 1 = .ok (.iconst 0, 1) := by decide +kernel
theorem dX12_isWeather_2 : decode cX12_isWeather 2 = .ok (.iconst 3, 1) := by decide +kernel
theorem dX12_isWeather_3 : decode cX12_isWeather 3 = .ok (.invokestatic 60, 3) := by decide +kernel
theorem dX12_isWeather_6 : decode cX12_isWeather 6 = .ok (.ifCond .eq 16, 3) := by decide +kernel
theorem dX12_isWeather_9 : decode cX12_isWeather 9 = .ok (.iload_n 1, 1) := by decide +kernel
theorem dX12_isWeather_10 : decode cX12_isWeather 10 = .ok (.iconst 0, 1) := by decide +kernel
theorem dX12_isWeather_11 : decode cX12_isWeather 11 = .ok (.iconst 3, 1) := by decide +kernel
theorem dX12_isWeather_12 : decode cX12_isWeather 12 = .ok (.invokestatic 60, 3) := by decide +kernel
theorem dX12_isWeather_15 : decode cX12_isWeather 15 = .ok (.ifCond .eq 7, 3) := by decide +kernel
theorem dX12_isWeather_18 : decode cX12_isWeather 18 = .ok (.iconst 1, 1) := by decide +kernel
theorem dX12_isWeather_19 : decode cX12_isWeather 19 = .ok (.goto 4, 3) := by decide +kernel
theorem dX12_isWeather_22 : decode cX12_isWeather 22 = .ok (.iconst 0, 1) := by decide +kernel
theorem dX12_isWeather_23 : decode cX12_isWeather 23 = .ok (.ireturn, 1) := by decide +kernel
set_option maxRecDepth 20000 in
theorem ggX12_look_X12_isField : GoodIn wsX12_look wsX12_isField := goodIn_sub (fw_c (fw_t (fw_l (fw_l (fw_t (fw_t (fw_t (fw_t (fw_t (fw_t (fw_t (fw_t fw_h))))))))))) (fw_a (fw_c (fw_t (fw_l (fw_l (fw_t (fw_t (fw_t fw_h)))))) (fw_c (fw_t (fw_l (fw_l (fw_t (fw_t (fw_t (fw_t (fw_t (fw_t (fw_t (fw_t (fw_t fw_h)))))))))))) (fw_c (fw_t (fw_l (fw_l (fw_t (fw_t (fw_t (fw_t (fw_t (fw_t (fw_t (fw_t (fw_t (fw_t fw_h))))))))))))) (fw_c (fw_t (fw_l (fw_l (fw_t (fw_t (fw_t (fw_t (fw_t (fw_t (fw_t fw_h)))))))))) (fw_c (fw_t (fw_l (fw_l (fw_t (fw_t (fw_t (fw_t (fw_t (fw_t (fw_t (fw_t (fw_t (fw_t (fw_t fw_h)))))))))))))) fw_n))))) (fun _ h => fw_t (fw_r h)))) (by decide +kernel)
set_option maxRecDepth 20000 in
theorem gX12_look_X12_isField : GoodIn wsX12_look (wsV RX12 165 RX12 yX12_isField wsX12_isField) := goodIn_app (goodIn_sub (fw_c (fw_t (fw_l (fw_l (fw_t (fw_t (fw_t (fw_t fw_h))))))) (fw_c (fw_t (fw_l (fw_l (fw_t (fw_t (fw_t (fw_t (fw_t fw_h)))))))) (fw_c (fw_t (fw_l (fw_l (fw_t (fw_t (fw_t (fw_t (fw_t (fw_t fw_h))))))))) (fw_c (fw_t (fw_l (fw_l (fw_t (fw_t (fw_t (fw_t (fw_t (fw_t (fw_t fw_h)))))))))) fw_n)))) (by decide +kernel)) ggX12_look_X12_isField
set_option maxRecDepth 20000 in
theorem ggX12_look_X12_isWeather : GoodIn wsX12_look wsX12_isWeather := goodIn_sub (fw_c (fw_t (fw_l (fw_l (fw_t (fw_t (fw_t (fw_t (fw_t (fw_t (fw_t (fw_t (fw_t (fw_t (fw_t (fw_t (fw_t (fw_t fw_h))))))))))))))))) (fw_c (fw_t (fw_l (fw_l (fw_t (fw_t (fw_t (fw_t (fw_t (fw_t (fw_t (fw_t (fw_t fw_h)))))))))))) (fw_c (fw_t (fw_l (fw_l (fw_t (fw_t (fw_t (fw_t (fw_t (fw_t (fw_t (fw_t (fw_t (fw_t fw_h))))))))))))) (fw_c (fw_t (fw_l (fw_l (fw_t (fw_t (fw_t (fw_t (fw_t (fw_t (fw_t fw_h)))))))))) (fw_c (fw_t (fw_l (fw_l (fw_t (fw_t (fw_t (fw_t (fw_t (fw_t (fw_t (fw_t (fw_t (fw_t (fw_t fw_h)))))))))))))) fw_n))))) (by decide +kernel)
