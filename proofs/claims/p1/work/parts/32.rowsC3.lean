theorem dX11_unplace_19 : decode cX11_unplace 19 = .ok (.invokevirtual 96, 3) := by decide +kernel
theorem dX11_unplace_22 : decode cX11_unplace 22 = .ok (.ifCond .ne 11, 3) := by decide +kernel
theorem dX11_unplace_25 : decode cX11_unplace 25 = .ok (.aload_n 0, 1) := by decide +kernel
theorem dX11_unplace_26 : decode cX11_unplace 26 = .ok (.ldc2_w 104, 3) := by decide +kernel
theorem dX11_unplace_29 : decode cX11_unplace 29 = .ok (.invokevirtual 75, 3) := by decide +kernel
theorem dX11_unplace_32 : decode cX11_unplace 32 = .ok (.lreturn, 1) := by decide +kernel
theorem dX11_unplace_33 : decode cX11_unplace 33 = .ok (.aload_n 2, 1) := by decide +kernel
theorem dX11_unplace_34 : decode cX11_unplace 34 = .ok (.aload_n 0, 1) := by decide +kernel
theorem dX11_unplace_35 : decode cX11_unplace 35 = .ok (.getfield 64, 3) := by decide +kernel
theorem dX11_unplace_38 : decode cX11_unplace 38 = .ok (.iconst 2, 1) := by decide +kernel
theorem dX11_unplace_39 : decode cX11_unplace 39 = .ok (.iload_n 1, 1) := by decide +kernel
theorem dX11_unplace_40 : decode cX11_unplace 40 = .ok (.invokevirtual 79, 3) := by decide +kernel
theorem dX11_unplace_43 : decode cX11_unplace 43 = .ok (.invokevirtual 106, 3) := by decide +kernel
theorem dX11_unplace_46 : decode cX11_unplace 46 = .ok (.aload_n 2, 1) := by decide +kernel
theorem dX11_unplace_47 : decode cX11_unplace 47 = .ok (.invokevirtual 110, 3) := by decide +kernel
theorem dX11_unplace_50 : decode cX11_unplace 50 = .ok (.aload_n 2, 1) := by decide +kernel
theorem dX11_unplace_51 : decode cX11_unplace 51 = .ok (.invokevirtual 96, 3) := by decide +kernel
theorem dX11_unplace_54 : decode cX11_unplace 54 = .ok (.i2l, 1) := by decide +kernel
theorem dX11_unplace_55 : decode cX11_unplace 55 = .ok (.lreturn, 1) := by decide +kernel
set_option maxRecDepth 20000 in
theorem ggX11_led_X11_pictureAt : GoodIn wsX11_led wsX11_pictureAt := goodIn_r _ [7, 8, 9, 55, 56, 57, 58, 59, 60, 61, 62, 63, 64, 65, 66, 67] (by decide +kernel) (by decide +kernel)
set_option maxRecDepth 20000 in
theorem gX11_led_X11_pictureAt : GoodIn wsX11_led (wsV RX11 86 RX11 yX11_pictureAt wsX11_pictureAt) := goodIn_app (goodIn_of _ (by decide +kernel)) ggX11_led_X11_pictureAt
set_option maxRecDepth 20000 in
theorem ggX11_led_X11_isSpot : GoodIn wsX11_led wsX11_isSpot := goodIn_r _ [12, 13, 14, 6, 15] (by decide +kernel) (by decide +kernel)
set_option maxRecDepth 20000 in
theorem gX11_led_X11_isSpot : GoodIn wsX11_led (va_wsS RX11 90 yX11_isSpot wsX11_isSpot) := goodIn_app (goodIn_of _ (by decide +kernel)) ggX11_led_X11_isSpot
set_option maxRecDepth 20000 in
theorem ggX11_led_X11_told : GoodIn wsX11_led wsX11_told := goodIn_r _ [19, 20, 21, 55, 56, 57, 58, 59, 60, 61, 62, 63, 64, 65, 66, 67] (by decide +kernel) (by decide +kernel)
set_option maxRecDepth 20000 in
theorem gX11_led_X11_told : GoodIn wsX11_led (wsV RX11 75 RX11 yX11_told wsX11_told) := goodIn_app (goodIn_of _ (by decide +kernel)) ggX11_led_X11_told
set_option maxRecDepth 20000 in
theorem ggX11_led_X7_way : GoodIn wsX11_led wsX7_way := goodIn_r _ [26, 27, 28, 68, 69, 70] (by decide +kernel) (by decide +kernel)
set_option maxRecDepth 20000 in
theorem gX11_led_X7_way : GoodIn wsX11_led (wsV RX11 113 RX7 yX7_way wsX7_way) := goodIn_app (goodIn_of _ (by decide +kernel)) ggX11_led_X7_way
set_option maxRecDepth 20000 in
theorem ggX11_led_X4_isThere : GoodIn wsX11_led wsX4_isThere := goodIn_r _ [33, 34, 71, 72, 73, 74, 75, 76, 77, 78] (by decide +kernel) (by decide +kernel)
set_option maxRecDepth 20000 in
theorem gX11_led_X4_isThere : GoodIn wsX11_led (wsV RX11 117 RX4 yX4_isThere wsX4_isThere) := goodIn_app (goodIn_of _ (by decide +kernel)) ggX11_led_X4_isThere
set_option maxRecDepth 20000 in
theorem ggX11_led_X4_upperAt : GoodIn wsX11_led wsX4_upperAt := goodIn_r _ [38, 39, 40, 71, 72, 73, 74, 75, 76, 77, 78] (by decide +kernel) (by decide +kernel)
set_option maxRecDepth 20000 in
theorem gX11_led_X4_upperAt : GoodIn wsX11_led (wsV RX11 123 RX4 yX4_upperAt wsX4_upperAt) := goodIn_app (goodIn_of _ (by decide +kernel)) ggX11_led_X4_upperAt
set_option maxRecDepth 20000 in
theorem ggX11_led_X4_lower : GoodIn wsX11_led wsX4_lower := goodIn_r _ [44, 34, 71, 72, 73, 74, 75, 76, 77, 78] (by decide +kernel) (by decide +kernel)
set_option maxRecDepth 20000 in
theorem gX11_led_X4_lower : GoodIn wsX11_led (wsV RX11 127 RX4 yX4_lower wsX4_lower) := goodIn_app (goodIn_of _ (by decide +kernel)) ggX11_led_X4_lower
set_option maxRecDepth 20000 in
theorem ggX11_led_X11_part : GoodIn wsX11_led wsX11_part := goodIn_r _ [47, 48, 49, 50, 51, 52, 53, 6, 54] (by decide +kernel) (by decide +kernel)
set_option maxRecDepth 20000 in
theorem gX11_led_X11_part : GoodIn wsX11_led (va_wsS RX11 131 yX11_part wsX11_part) := goodIn_app (goodIn_of _ (by decide +kernel)) ggX11_led_X11_part
theorem dX11_led_0 : decode cX11_led 0 = .ok (.aload_n 0, 1) := by decide +kernel
theorem dX11_led_1 : decode cX11_led 1 = .ok (.iload_n 1, 1) := by decide +kernel
theorem dX11_led_2 : decode cX11_led 2 = .ok (.invokevirtual 86, 3) := by decide +kernel
theorem dX11_led_5 : decode cX11_led 5 = .ok (.astore 5, 2) := by decide +kernel
theorem dX11_led_7 : decode cX11_led 7 = .ok (.aload 5, 2) := by decide +kernel
theorem dX11_led_9 : decode cX11_led 9 = .ok (.ifnull 10, 3) := by decide +kernel
theorem dX11_led_12 : decode cX11_led 12 = .ok (.iload_n 3, 1) := by decide +kernel
theorem dX11_led_13 : decode cX11_led 13 = .ok (.invokestatic 90, 3) := by decide +kernel
theorem dX11_led_16 : decode cX11_led 16 = .ok (.ifCond .ne 11, 3) := by decide +kernel
theorem dX11_led_19 : decode cX11_led 19 = .ok (.aload_n 0, 1) := by decide +kernel
theorem dX11_led_20 : decode cX11_led 20 = .ok (.ldc2_w 94, 3) := by decide +kernel
theorem dX11_led_23 : decode cX11_led 23 = .ok (.invokevirtual 75, 3) := by decide +kernel
theorem dX11_led_26 : decode cX11_led 26 = .ok (.lreturn, 1) := by decide +kernel
theorem dX11_led_27 : decode cX11_led 27 = .ok (.aload 5, 2) := by decide +kernel
theorem dX11_led_29 : decode cX11_led 29 = .ok (.iload_n 2, 1) := by decide +kernel
theorem dX11_led_30 : decode cX11_led 30 = .ok (.invokevirtual 113, 3) := by decide +kernel
theorem dX11_led_33 : decode cX11_led 33 = .ok (.astore 6, 2) := by decide +kernel
theorem dX11_led_35 : decode cX11_led 35 = .ok (.aload 6, 2) := by decide +kernel
theorem dX11_led_37 : decode cX11_led 37 = .ok (.invokevirtual 117, 3) := by decide +kernel
theorem dX11_led_40 : decode cX11_led 40 = .ok (.ifCond .ne 11, 3) := by decide +kernel
theorem dX11_led_43 : decode cX11_led 43 = .ok (.aload_n 0, 1) := by decide +kernel
theorem dX11_led_44 : decode cX11_led 44 = .ok (.ldc2_w 104, 3) := by decide +kernel
theorem dX11_led_47 : decode cX11_led 47 = .ok (.invokevirtual 75, 3) := by decide +kernel
theorem dX11_led_50 : decode cX11_led 50 = .ok (.lreturn, 1) := by decide +kernel
theorem dX11_led_51 : decode cX11_led 51 = .ok (.aload_n 0, 1) := by decide +kernel
theorem dX11_led_52 : decode cX11_led 52 = .ok (.aload 6, 2) := by decide +kernel
theorem dX11_led_54 : decode cX11_led 54 = .ok (.iload_n 3, 1) := by decide +kernel
theorem dX11_led_55 : decode cX11_led 55 = .ok (.invokevirtual 123, 3) := by decide +kernel
theorem dX11_led_58 : decode cX11_led 58 = .ok (.aload 6, 2) := by decide +kernel
theorem dX11_led_60 : decode cX11_led 60 = .ok (.invokevirtual 127, 3) := by decide +kernel
theorem dX11_led_63 : decode cX11_led 63 = .ok (.iload 4, 2) := by decide +kernel
theorem dX11_led_65 : decode cX11_led 65 = .ok (.invokestatic 131, 3) := by decide +kernel
theorem dX11_led_68 : decode cX11_led 68 = .ok (.invokevirtual 75, 3) := by decide +kernel
theorem dX11_led_71 : decode cX11_led 71 = .ok (.lreturn, 1) := by decide +kernel
set_option maxRecDepth 20000 in
theorem ggX11_miss_X11_pictureAt : GoodIn wsX11_miss wsX11_pictureAt := goodIn_r _ [7, 8, 9, 50, 51, 52, 53, 54, 55, 56, 57, 58, 59, 60, 61, 62] (by decide +kernel) (by decide +kernel)
set_option maxRecDepth 20000 in
theorem gX11_miss_X11_pictureAt : GoodIn wsX11_miss (wsV RX11 86 RX11 yX11_pictureAt wsX11_pictureAt) := goodIn_app (goodIn_of _ (by decide +kernel)) ggX11_miss_X11_pictureAt
set_option maxRecDepth 20000 in
theorem ggX11_miss_X11_told : GoodIn wsX11_miss wsX11_told := goodIn_r _ [13, 14, 15, 50, 51, 52, 53, 54, 55, 56, 57, 58, 59, 60, 61, 62] (by decide +kernel) (by decide +kernel)
set_option maxRecDepth 20000 in
theorem gX11_miss_X11_told : GoodIn wsX11_miss (wsV RX11 75 RX11 yX11_told wsX11_told) := goodIn_app (goodIn_of _ (by decide +kernel)) ggX11_miss_X11_told
set_option maxRecDepth 20000 in
theorem ggX11_miss_X7_way : GoodIn wsX11_miss wsX7_way := goodIn_r _ [20, 21, 22, 63, 64, 65] (by decide +kernel) (by decide +kernel)
set_option maxRecDepth 20000 in
theorem gX11_miss_X7_way : GoodIn wsX11_miss (wsV RX11 113 RX7 yX7_way wsX7_way) := goodIn_app (goodIn_of _ (by decide +kernel)) ggX11_miss_X7_way
set_option maxRecDepth 20000 in
theorem ggX11_miss_X4_isThere : GoodIn wsX11_miss wsX4_isThere := goodIn_r _ [27, 28, 66, 67, 68, 69, 70, 71, 72, 73] (by decide +kernel) (by decide +kernel)
set_option maxRecDepth 20000 in
theorem gX11_miss_X4_isThere : GoodIn wsX11_miss (wsV RX11 117 RX4 yX4_isThere wsX4_isThere) := goodIn_app (goodIn_of _ (by decide +kernel)) ggX11_miss_X4_isThere
set_option maxRecDepth 20000 in
theorem ggX11_miss_X4_missUpper : GoodIn wsX11_miss wsX4_missUpper := goodIn_r _ [32, 28, 33, 34, 66, 67, 68, 69, 70, 71, 72, 73] (by decide +kernel) (by decide +kernel)
set_option maxRecDepth 20000 in
theorem gX11_miss_X4_missUpper : GoodIn wsX11_miss (wsV RX11 135 RX4 yX4_missUpper wsX4_missUpper) := goodIn_app (goodIn_of _ (by decide +kernel)) ggX11_miss_X4_missUpper
set_option maxRecDepth 20000 in
theorem ggX11_miss_X4_missLower : GoodIn wsX11_miss wsX4_missLower := goodIn_r _ [38, 28, 39, 66, 67, 68, 69, 70, 71, 72, 73] (by decide +kernel) (by decide +kernel)
set_option maxRecDepth 20000 in
theorem gX11_miss_X4_missLower : GoodIn wsX11_miss (wsV RX11 138 RX4 yX4_missLower wsX4_missLower) := goodIn_app (goodIn_of _ (by decide +kernel)) ggX11_miss_X4_missLower
set_option maxRecDepth 20000 in
theorem ggX11_miss_X11_part : GoodIn wsX11_miss wsX11_part := goodIn_r _ [42, 43, 44, 45, 46, 47, 48, 6, 49] (by decide +kernel) (by decide +kernel)
set_option maxRecDepth 20000 in
theorem gX11_miss_X11_part : GoodIn wsX11_miss (va_wsS RX11 131 yX11_part wsX11_part) := goodIn_app (goodIn_of _ (by decide +kernel)) ggX11_miss_X11_part
theorem dX11_miss_0 : decode cX11_miss 0 = .ok (.aload_n 0, 1) := by decide +kernel
theorem dX11_miss_1 : decode cX11_miss 1 = .ok (.iload_n 1, 1) := by decide +kernel
theorem dX11_miss_2 : decode cX11_miss 2 = .ok (.invokevirtual 86, 3) := by decide +kernel
theorem dX11_miss_5 : decode cX11_miss 5 = .ok (.astore 4, 2) := by decide +kernel
theorem dX11_miss_7 : decode cX11_miss 7 = .ok (.aload 4, 2) := by decide +kernel
theorem dX11_miss_9 : decode cX11_miss 9 = .ok (.ifnonnull 11, 3) := by decide +kernel
theorem dX11_miss_12 : decode cX11_miss 12 = .ok (.aload_n 0, 1) := by decide +kernel
theorem dX11_miss_13 : decode cX11_miss 13 = .ok (.ldc2_w 94, 3) := by decide +kernel
theorem dX11_miss_16 : decode cX11_miss 16 = .ok (.invokevirtual 75, 3) := by decide +kernel
theorem dX11_miss_19 : decode cX11_miss 19 = .ok (.lreturn, 1) := by decide +kernel
theorem dX11_miss_20 : decode cX11_miss 20 = .ok (.aload 4, 2) := by decide +kernel
theorem dX11_miss_22 : decode cX11_miss 22 = .ok (.iload_n 2, 1) := by decide +kernel
theorem dX11_miss_23 : decode cX11_miss 23 = .ok (.invokevirtual 113, 3) := by decide +kernel
theorem dX11_miss_26 : decode cX11_miss 26 = .ok (.astore 5, 2) := by decide +kernel
theorem dX11_miss_28 : decode cX11_miss 28 = .ok (.aload 5, 2) := by decide +kernel
theorem dX11_miss_30 : decode cX11_miss 30 = .ok (.invokevirtual 117, 3) := by decide +kernel
theorem dX11_miss_33 : decode cX11_miss 33 = .ok (.ifCond .eq 20, 3) := by decide +kernel
theorem dX11_miss_36 : decode cX11_miss 36 = .ok (.aload 5, 2) := by decide +kernel
theorem dX11_miss_38 : decode cX11_miss 38 = .ok (.invokevirtual 135, 3) := by decide +kernel
theorem dX11_miss_41 : decode cX11_miss 41 = .ok (.aload 5, 2) := by decide +kernel
theorem dX11_miss_43 : decode cX11_miss 43 = .ok (.invokevirtual 138, 3) := by decide +kernel
theorem dX11_miss_46 : decode cX11_miss 46 = .ok (.iload_n 3, 1) := by decide +kernel
theorem dX11_miss_47 : decode cX11_miss 47 = .ok (.invokestatic 131, 3) := by decide +kernel
theorem dX11_miss_50 : decode cX11_miss 50 = .ok (.goto 10, 3) := by decide +kernel
theorem dX11_miss_53 : decode cX11_miss 53 = .ok (.aload_n 0, 1) := by decide +kernel
theorem dX11_miss_54 : decode cX11_miss 54 = .ok (.ldc2_w 104, 3) := by decide +kernel
theorem dX11_miss_57 : decode cX11_miss 57 = .ok (.invokevirtual 75, 3) := by decide +kernel
theorem dX11_miss_60 : decode cX11_miss 60 = .ok (.lreturn, 1) := by decide +kernel
set_option maxRecDepth 20000 in
theorem ggX11_doubt_X11_pictureAt : GoodIn wsX11_doubt wsX11_pictureAt := goodIn_r _ [7, 8, 9, 42, 43, 44, 45, 46, 47, 48, 49, 50, 51, 52, 53, 54] (by decide +kernel) (by decide +kernel)
set_option maxRecDepth 20000 in
theorem gX11_doubt_X11_pictureAt : GoodIn wsX11_doubt (wsV RX11 86 RX11 yX11_pictureAt wsX11_pictureAt) := goodIn_app (goodIn_of _ (by decide +kernel)) ggX11_doubt_X11_pictureAt
set_option maxRecDepth 20000 in
theorem ggX11_doubt_X11_told : GoodIn wsX11_doubt wsX11_told := goodIn_r _ [13, 14, 15, 42, 43, 44, 45, 46, 47, 48, 49, 50, 51, 52, 53, 54] (by decide +kernel) (by decide +kernel)
set_option maxRecDepth 20000 in
theorem gX11_doubt_X11_told : GoodIn wsX11_doubt (wsV RX11 75 RX11 yX11_told wsX11_told) := goodIn_app (goodIn_of _ (by decide +kernel)) ggX11_doubt_X11_told
set_option maxRecDepth 20000 in
theorem ggX11_doubt_X7_hasReach : GoodIn wsX11_doubt wsX7_hasReach := goodIn_r _ [20, 21, 22, 23, 24, 25, 26, 27, 28, 55, 56, 57, 58, 59, 60, 61, 62, 63, 64, 65] (by decide +kernel) (by decide +kernel)
set_option maxRecDepth 20000 in
theorem gX11_doubt_X7_hasReach : GoodIn wsX11_doubt (wsV RX11 141 RX7 yX7_hasReach wsX7_hasReach) := goodIn_app (goodIn_of _ (by decide +kernel)) ggX11_doubt_X7_hasReach
set_option maxRecDepth 20000 in
theorem ggX11_doubt_X7_reach : GoodIn wsX11_doubt wsX7_reach := goodIn_r _ [32, 21, 22, 33, 34, 35, 36, 37, 38, 39, 26, 40, 41, 55, 56, 57, 58, 59, 60, 61, 62, 63, 64, 65] (by decide +kernel) (by decide +kernel)
set_option maxRecDepth 20000 in
theorem gX11_doubt_X7_reach : GoodIn wsX11_doubt (wsV RX11 144 RX7 yX7_reach wsX7_reach) := goodIn_app (goodIn_of _ (by decide +kernel)) ggX11_doubt_X7_reach
theorem dX11_doubt_0 : decode cX11_doubt 0 = .ok (.aload_n 0, 1) := by decide +kernel
theorem dX11_doubt_1 : decode cX11_doubt 1 = .ok (.iload_n 1, 1) := by decide +kernel
theorem dX11_doubt_2 : decode cX11_doubt 2 = .ok (.invokevirtual 86, 3) := by decide +kernel
theorem dX11_doubt_5 : decode cX11_doubt 5 = .ok (.astore_n 2, 1) := by decide +kernel
theorem dX11_doubt_6 : decode cX11_doubt 6 = .ok (.aload_n 2, 1) := by decide +kernel
theorem dX11_doubt_7 : decode cX11_doubt 7 = .ok (.ifnonnull 11, 3) := by decide +kernel
theorem dX11_doubt_10 : decode cX11_doubt 10 = .ok (.aload_n 0, 1) := by decide +kernel
theorem dX11_doubt_11 : decode cX11_doubt 11 = .ok (.ldc2_w 94, 3) := by decide +kernel
theorem dX11_doubt_14 : decode cX11_doubt 14 = .ok (.invokevirtual 75, 3) := by decide +kernel
theorem dX11_doubt_17 : decode cX11_doubt 17 = .ok (.lreturn, 1) := by decide +kernel
theorem dX11_doubt_18 : decode cX11_doubt 18 = .ok (.aload_n 2, 1) := by decide +kernel
theorem dX11_doubt_19 : decode cX11_doubt 19 = .ok (.invokevirtual 141, 3) := by decide +kernel
theorem dX11_doubt_22 : decode cX11_doubt 22 = .ok (.ifCond .eq 10, 3) := by decide +kernel
theorem dX11_doubt_25 : decode cX11_doubt 25 = .ok (.aload_n 2, 1) := by decide +kernel
theorem dX11_doubt_26 : decode cX11_doubt 26 = .ok (.invokevirtual 144, 3) := by decide +kernel
theorem dX11_doubt_29 : decode cX11_doubt 29 = .ok (.goto 10, 3) := by decide +kernel
theorem dX11_doubt_32 : decode cX11_doubt 32 = .ok (.aload_n 0, 1) := by decide +kernel
theorem dX11_doubt_33 : decode cX11_doubt 33 = .ok (.ldc2_w 104, 3) := by decide +kernel
theorem dX11_doubt_36 : decode cX11_doubt 36 = .ok (.invokevirtual 75, 3) := by decide +kernel
theorem dX11_doubt_39 : decode cX11_doubt 39 = .ok (.lreturn, 1) := by decide +kernel
set_option maxRecDepth 20000 in
theorem ggX11_mark_X11_pictureAt : GoodIn wsX11_mark wsX11_pictureAt := goodIn_r _ [13, 14, 15, 62, 63, 64, 65, 66, 67, 68, 69, 70, 71, 72, 73, 74] (by decide +kernel) (by decide +kernel)
set_option maxRecDepth 20000 in
theorem gX11_mark_X11_pictureAt : GoodIn wsX11_mark (wsV RX11 86 RX11 yX11_pictureAt wsX11_pictureAt) := goodIn_app (goodIn_of _ (by decide +kernel)) ggX11_mark_X11_pictureAt
set_option maxRecDepth 20000 in
theorem ggX11_mark_X11_isSpot : GoodIn wsX11_mark wsX11_isSpot := goodIn_r _ [18, 19, 20, 12, 21] (by decide +kernel) (by decide +kernel)
set_option maxRecDepth 20000 in
theorem gX11_mark_X11_isSpot : GoodIn wsX11_mark (va_wsS RX11 90 yX11_isSpot wsX11_isSpot) := goodIn_app (goodIn_of _ (by decide +kernel)) ggX11_mark_X11_isSpot
set_option maxRecDepth 20000 in
theorem ggX11_mark_X11_isMarkOf : GoodIn wsX11_mark wsX11_isMarkOf := goodIn_r _ [24, 25, 26, 12, 27, 28, 19, 20, 21, 29, 30, 31] (by decide +kernel) (by decide +kernel)
set_option maxRecDepth 20000 in
theorem gX11_mark_X11_isMarkOf : GoodIn wsX11_mark (va_wsS RX11 147 yX11_isMarkOf wsX11_isMarkOf) := goodIn_app (goodIn_of _ (by decide +kernel)) ggX11_mark_X11_isMarkOf
set_option maxRecDepth 20000 in
theorem ggX11_mark_X11_told : GoodIn wsX11_mark wsX11_told := goodIn_r _ [35, 36, 37, 62, 63, 64, 65, 66, 67, 68, 69, 70, 71, 72, 73, 74] (by decide +kernel) (by decide +kernel)
set_option maxRecDepth 20000 in
theorem gX11_mark_X11_told : GoodIn wsX11_mark (wsV RX11 75 RX11 yX11_told wsX11_told) := goodIn_app (goodIn_of _ (by decide +kernel)) ggX11_mark_X11_told
set_option maxRecDepth 20000 in
theorem ggX11_mark_X6_keep : GoodIn wsX11_mark wsX6_keep := goodIn_r _ [42, 43, 44, 45, 46, 47, 48, 49, 81, 82, 83, 84, 85, 86] (by decide +kernel) (by decide +kernel)
set_option maxRecDepth 20000 in
theorem gX11_mark_X6_keep : GoodIn wsX11_mark (wsV RX11 79 RX6 yX6_keep wsX6_keep) := goodIn_app (goodIn_of _ (by decide +kernel)) ggX11_mark_X6_keep
set_option maxRecDepth 20000 in
theorem ggX11_mark_X5_init : GoodIn wsX11_mark wsX5_init := goodIn_r _ [52, 53, 54, 55, 56, 57, 58, 59, 60, 61, 75, 76, 77, 78, 79, 80] (by decide +kernel) (by decide +kernel)
set_option maxRecDepth 20000 in
theorem gX11_mark_X5_init : GoodIn wsX11_mark (wsX5_init) := ggX11_mark_X5_init
theorem dX11_mark_0 : decode cX11_mark 0 = .ok (.aload_n 0, 1) := by decide +kernel
theorem dX11_mark_1 : decode cX11_mark 1 = .ok (.iload_n 1, 1) := by decide +kernel
theorem dX11_mark_2 : decode cX11_mark 2 = .ok (.invokevirtual 86, 3) := by decide +kernel
theorem dX11_mark_5 : decode cX11_mark 5 = .ok (.astore 7, 2) := by decide +kernel
theorem dX11_mark_7 : decode cX11_mark 7 = .ok (.aload 7, 2) := by decide +kernel
theorem dX11_mark_9 : decode cX11_mark 9 = .ok (.ifnull 29, 3) := by decide +kernel
theorem dX11_mark_12 : decode cX11_mark 12 = .ok (.iload_n 3, 1) := by decide +kernel
theorem dX11_mark_13 : decode cX11_mark 13 = .ok (.invokestatic 90, 3) := by decide +kernel
theorem dX11_mark_16 : decode cX11_mark 16 = .ok (.ifCond .eq 22, 3) := by decide +kernel
theorem dX11_mark_19 : decode cX11_mark 19 = .ok (.iload 4, 2) := by decide +kernel
theorem dX11_mark_21 : decode cX11_mark 21 = .ok (.invokestatic 90, 3) := by decide +kernel
theorem dX11_mark_24 : decode cX11_mark 24 = .ok (.ifCond .eq 14, 3) := by decide +kernel
theorem dX11_mark_27 : decode cX11_mark 27 = .ok (.iload_n 2, 1) := by decide +kernel
theorem dX11_mark_28 : decode cX11_mark 28 = .ok (.iload 5, 2) := by decide +kernel
theorem dX11_mark_30 : decode cX11_mark 30 = .ok (.iload 6, 2) := by decide +kernel
theorem dX11_mark_32 : decode cX11_mark 32 = .ok (.invokestatic 147, 3) := by decide +kernel
theorem dX11_mark_35 : decode cX11_mark 35 = .ok (.ifCond .ne 11, 3) := by decide +kernel
theorem dX11_mark_38 : decode cX11_mark 38 = .ok (.aload_n 0, 1) := by decide +kernel
theorem dX11_mark_39 : decode cX11_mark 39 = .ok (.ldc2_w 94, 3) := by decide +kernel
theorem dX11_mark_42 : decode cX11_mark 42 = .ok (.invokevirtual 75, 3) := by decide +kernel
theorem dX11_mark_45 : decode cX11_mark 45 = .ok (.lreturn, 1) := by decide +kernel
theorem dX11_mark_46 : decode cX11_mark 46 = .ok (.aload_n 0, 1) := by decide +kernel
theorem dX11_mark_47 : decode cX11_mark 47 = .ok (.getfield 151, 3) := by decide +kernel
theorem dX11_mark_50 : decode cX11_mark 50 = .ok (.bipush 20, 2) := by decide +kernel
theorem dX11_mark_52 : decode cX11_mark 52 = .ok (.if_icmp .lt 11, 3) := by decide +kernel
theorem dX11_mark_55 : decode cX11_mark 55 = .ok (.aload_n 0, 1) := by decide +kernel
theorem dX11_mark_56 : decode cX11_mark 56 = .ok (.ldc2_w 73, 3) := by decide +kernel
theorem dX11_mark_59 : decode cX11_mark 59 = .ok (.invokevirtual 75, 3) := by decide +kernel
theorem dX11_mark_62 : decode cX11_mark 62 = .ok (.lreturn, 1) := by decide +kernel
theorem dX11_mark_63 : decode cX11_mark 63 = .ok (.aload_n 0, 1) := by decide +kernel
theorem dX11_mark_64 : decode cX11_mark 64 = .ok (.getfield 64, 3) := by decide +kernel
theorem dX11_mark_67 : decode cX11_mark 67 = .ok (.iconst 3, 1) := by decide +kernel
theorem dX11_mark_68 : decode cX11_mark 68 = .ok (.aload_n 0, 1) := by decide +kernel
theorem dX11_mark_69 : decode cX11_mark 69 = .ok (.getfield 151, 3) := by decide +kernel
theorem dX11_mark_72 : decode cX11_mark 72 = .ok (.invokevirtual 79, 3) := by decide +kernel
theorem dX11_mark_75 : decode cX11_mark 75 = .ok (.pop, 1) := by decide +kernel
theorem dX11_mark_76 : decode cX11_mark 76 = .ok (.aload_n 0, 1) := by decide +kernel
theorem dX11_mark_77 : decode cX11_mark 77 = .ok (.getfield 17, 3) := by decide +kernel
theorem dX11_mark_80 : decode cX11_mark 80 = .ok (.aload_n 0, 1) := by decide +kernel
theorem dX11_mark_81 : decode cX11_mark 81 = .ok (.getfield 151, 3) := by decide +kernel
theorem dX11_mark_84 : decode cX11_mark 84 = .ok (.new 15, 3) := by decide +kernel
theorem dX11_mark_87 : decode cX11_mark 87 = .ok (.dup, 1) := by decide +kernel
theorem dX11_mark_88 : decode cX11_mark 88 = .ok (.aload 7, 2) := by decide +kernel
theorem dX11_mark_90 : decode cX11_mark 90 = .ok (.iload_n 2, 1) := by decide +kernel
theorem dX11_mark_91 : decode cX11_mark 91 = .ok (.iload_n 3, 1) := by decide +kernel
theorem dX11_mark_92 : decode cX11_mark 92 = .ok (.iload 4, 2) := by decide +kernel
theorem dX11_mark_94 : decode cX11_mark 94 = .ok (.iload 5, 2) := by decide +kernel
theorem dX11_mark_96 : decode cX11_mark 96 = .ok (.iload 6, 2) := by decide +kernel
theorem dX11_mark_98 : decode cX11_mark 98 = .ok (.invokespecial 154, 3) := by decide +kernel
theorem dX11_mark_101 : decode cX11_mark 101 = .ok (.aastore, 1) := by decide +kernel
theorem dX11_mark_102 : decode cX11_mark 102 = .ok (.aload_n 0, 1) := by decide +kernel
theorem dX11_mark_103 : decode cX11_mark 103 = .ok (.dup, 1) := by decide +kernel
theorem dX11_mark_104 : decode cX11_mark 104 = .ok (.getfield 151, 3) := by decide +kernel
theorem dX11_mark_107 : decode cX11_mark 107 = .ok (.iconst 1, 1) := by decide +kernel
theorem dX11_mark_108 : decode cX11_mark 108 = .ok (.iadd, 1) := by decide +kernel
theorem dX11_mark_109 : decode cX11_mark 109 = .ok (.putfield 151, 3) := by decide +kernel
theorem dX11_mark_112 : decode cX11_mark 112 = .ok (.aload_n 0, 1) := by decide +kernel
theorem dX11_mark_113 : decode cX11_mark 113 = .ok (.getfield 151, 3) := by decide +kernel
theorem dX11_mark_116 : decode cX11_mark 116 = .ok (.iconst 1, 1) := by decide +kernel
theorem dX11_mark_117 : decode cX11_mark 117 = .ok (.isub, 1) := by decide +kernel
theorem dX11_mark_118 : decode cX11_mark 118 = .ok (.i2l, 1) := by decide +kernel
theorem dX11_mark_119 : decode cX11_mark 119 = .ok (.lreturn, 1) := by decide +kernel
set_option maxRecDepth 20000 in
theorem ggX11_as_X11_markAt : GoodIn wsX11_as wsX11_markAt := goodIn_r _ [7, 8, 9, 32, 33, 34, 35, 36, 37, 38, 39, 40, 41, 42, 43, 44] (by decide +kernel) (by decide +kernel)
set_option maxRecDepth 20000 in
theorem gX11_as_X11_markAt : GoodIn wsX11_as (wsV RX11 157 RX11 yX11_markAt wsX11_markAt) := goodIn_app (goodIn_of _ (by decide +kernel)) ggX11_as_X11_markAt
set_option maxRecDepth 20000 in
theorem ggX11_as_X11_isKind : GoodIn wsX11_as wsX11_isKind := goodIn_r _ [12, 13, 14, 15, 6, 16] (by decide +kernel) (by decide +kernel)
set_option maxRecDepth 20000 in
theorem gX11_as_X11_isKind : GoodIn wsX11_as (va_wsS RX11 161 yX11_isKind wsX11_isKind) := goodIn_app (goodIn_of _ (by decide +kernel)) ggX11_as_X11_isKind
set_option maxRecDepth 20000 in
theorem ggX11_as_X11_told : GoodIn wsX11_as wsX11_told := goodIn_r _ [20, 21, 22, 32, 33, 34, 35, 36, 37, 38, 39, 40, 41, 42, 43, 44] (by decide +kernel) (by decide +kernel)
set_option maxRecDepth 20000 in
theorem gX11_as_X11_told : GoodIn wsX11_as (wsV RX11 75 RX11 yX11_told wsX11_told) := goodIn_app (goodIn_of _ (by decide +kernel)) ggX11_as_X11_told
set_option maxRecDepth 20000 in
theorem ggX11_as_X11_isUnder : GoodIn wsX11_as wsX11_isUnder := goodIn_r _ [25, 13, 10, 11, 6, 12, 14, 15, 16] (by decide +kernel) (by decide +kernel)
set_option maxRecDepth 20000 in
theorem gX11_as_X11_isUnder : GoodIn wsX11_as (va_wsS RX11 167 yX11_isUnder wsX11_isUnder) := goodIn_app (goodIn_of _ (by decide +kernel)) ggX11_as_X11_isUnder
theorem dX11_as_0 : decode cX11_as 0 = .ok (.aload_n 0, 1) := by decide +kernel
theorem dX11_as_1 : decode cX11_as 1 = .ok (.iload_n 1, 1) := by decide +kernel
theorem dX11_as_2 : decode cX11_as 2 = .ok (.invokevirtual 157, 3) := by decide +kernel
theorem dX11_as_5 : decode cX11_as 5 = .ok (.astore_n 3, 1) := by decide +kernel
theorem dX11_as_6 : decode cX11_as 6 = .ok (.aload_n 3, 1) := by decide +kernel
theorem dX11_as_7 : decode cX11_as 7 = .ok (.ifnull 10, 3) := by decide +kernel
theorem dX11_as_10 : decode cX11_as 10 = .ok (.iload_n 2, 1) := by decide +kernel
theorem dX11_as_11 : decode cX11_as 11 = .ok (.invokestatic 161, 3) := by decide +kernel
theorem dX11_as_14 : decode cX11_as 14 = .ok (.ifCond .ne 11, 3) := by decide +kernel
theorem dX11_as_17 : decode cX11_as 17 = .ok (.aload_n 0, 1) := by decide +kernel
theorem dX11_as_18 : decode cX11_as 18 = .ok (.ldc2_w 94, 3) := by decide +kernel
theorem dX11_as_21 : decode cX11_as 21 = .ok (.invokevirtual 75, 3) := by decide +kernel
theorem dX11_as_24 : decode cX11_as 24 = .ok (.lreturn, 1) := by decide +kernel
theorem dX11_as_25 : decode cX11_as 25 = .ok (.aload_n 3, 1) := by decide +kernel
theorem dX11_as_26 : decode cX11_as 26 = .ok (.getfield 164, 3) := by decide +kernel
theorem dX11_as_29 : decode cX11_as 29 = .ok (.iload_n 2, 1) := by decide +kernel
theorem dX11_as_30 : decode cX11_as 30 = .ok (.invokestatic 167, 3) := by decide +kernel
theorem dX11_as_33 : decode cX11_as 33 = .ok (.ifCond .eq 8, 3) := by decide +kernel
theorem dX11_as_36 : decode cX11_as 36 = .ok (.iload_n 1, 1) := by decide +kernel
theorem dX11_as_37 : decode cX11_as 37 = .ok (.i2l, 1) := by decide +kernel
theorem dX11_as_38 : decode cX11_as 38 = .ok (.goto 10, 3) := by decide +kernel
theorem dX11_as_41 : decode cX11_as 41 = .ok (.aload_n 0, 1) := by decide +kernel
theorem dX11_as_42 : decode cX11_as 42 = .ok (.ldc2_w 171, 3) := by decide +kernel
theorem dX11_as_45 : decode cX11_as 45 = .ok (.invokevirtual 75, 3) := by decide +kernel
theorem dX11_as_48 : decode cX11_as 48 = .ok (.lreturn, 1) := by decide +kernel
set_option maxRecDepth 20000 in
theorem ggX11_at_X11_markAt : GoodIn wsX11_at wsX11_markAt := goodIn_r _ [7, 8, 9, 55, 56, 57, 58, 59, 60, 61, 62, 63, 64, 65, 66, 67] (by decide +kernel) (by decide +kernel)
set_option maxRecDepth 20000 in
theorem gX11_at_X11_markAt : GoodIn wsX11_at (wsV RX11 157 RX11 yX11_markAt wsX11_markAt) := goodIn_app (goodIn_of _ (by decide +kernel)) ggX11_at_X11_markAt
set_option maxRecDepth 20000 in
theorem ggX11_at_X11_told : GoodIn wsX11_at wsX11_told := goodIn_r _ [13, 14, 15, 55, 56, 57, 58, 59, 60, 61, 62, 63, 64, 65, 66, 67] (by decide +kernel) (by decide +kernel)
set_option maxRecDepth 20000 in
theorem gX11_at_X11_told : GoodIn wsX11_at (wsV RX11 75 RX11 yX11_told wsX11_told) := goodIn_app (goodIn_of _ (by decide +kernel)) ggX11_at_X11_told
set_option maxRecDepth 20000 in
theorem ggX11_at_X5_hasSpot : GoodIn wsX11_at wsX5_hasSpot := goodIn_r _ [20, 21, 22, 23, 24, 25, 26, 27, 28, 29, 30, 31, 32, 33, 34, 68, 69, 70, 71, 72, 73, 74, 75, 76, 77, 78, 79, 80, 81, 82, 83, 84] (by decide +kernel) (by decide +kernel)
set_option maxRecDepth 20000 in
theorem gX11_at_X5_hasSpot : GoodIn wsX11_at (wsV RX11 173 RX5 yX5_hasSpot wsX5_hasSpot) := goodIn_app (goodIn_of _ (by decide +kernel)) ggX11_at_X5_hasSpot
set_option maxRecDepth 20000 in
theorem ggX11_at_X5_spot : GoodIn wsX11_at wsX5_spot := goodIn_r _ [38, 21, 39, 40, 22, 23, 24, 25, 26, 27, 28, 41, 42, 43, 32, 44, 34, 45, 46, 47, 48, 49, 50, 51, 52, 53, 54, 68, 69, 70, 71, 72, 73, 74, 75, 76, 77, 78, 79, 80, 81, 82, 83, 84] (by decide +kernel) (by decide +kernel)
set_option maxRecDepth 20000 in
theorem gX11_at_X5_spot : GoodIn wsX11_at (wsV RX11 177 RX5 yX5_spot wsX5_spot) := goodIn_app (goodIn_of _ (by decide +kernel)) ggX11_at_X5_spot
theorem dX11_at_0 : decode cX11_at 0 = .ok (.aload_n 0, 1) := by decide +kernel
theorem dX11_at_1 : decode cX11_at 1 = .ok (.iload_n 1, 1) := by decide +kernel
theorem dX11_at_2 : decode cX11_at 2 = .ok (.invokevirtual 157, 3) := by decide +kernel
theorem dX11_at_5 : decode cX11_at 5 = .ok (.astore_n 3, 1) := by decide +kernel
theorem dX11_at_6 : decode cX11_at 6 = .ok (.aload_n 3, 1) := by decide +kernel
theorem dX11_at_7 : decode cX11_at 7 = .ok (.ifnonnull 11, 3) := by decide +kernel
theorem dX11_at_10 : decode cX11_at 10 = .ok (.aload_n 0, 1) := by decide +kernel
theorem dX11_at_11 : decode cX11_at 11 = .ok (.ldc2_w 94, 3) := by decide +kernel
theorem dX11_at_14 : decode cX11_at 14 = .ok (.invokevirtual 75, 3) := by decide +kernel
theorem dX11_at_17 : decode cX11_at 17 = .ok (.lreturn, 1) := by decide +kernel
theorem dX11_at_18 : decode cX11_at 18 = .ok (.aload_n 3, 1) := by decide +kernel
theorem dX11_at_19 : decode cX11_at 19 = .ok (.iload_n 2, 1) := by decide +kernel
theorem dX11_at_20 : decode cX11_at 20 = .ok (.invokevirtual 173, 3) := by decide +kernel
theorem dX11_at_23 : decode cX11_at 23 = .ok (.ifCond .eq 11, 3) := by decide +kernel
theorem dX11_at_26 : decode cX11_at 26 = .ok (.aload_n 3, 1) := by decide +kernel
theorem dX11_at_27 : decode cX11_at 27 = .ok (.iload_n 2, 1) := by decide +kernel
theorem dX11_at_28 : decode cX11_at 28 = .ok (.invokevirtual 177, 3) := by decide +kernel
theorem dX11_at_31 : decode cX11_at 31 = .ok (.goto 10, 3) := by decide +kernel
theorem dX11_at_34 : decode cX11_at 34 = .ok (.aload_n 0, 1) := by decide +kernel
theorem dX11_at_35 : decode cX11_at 35 = .ok (.ldc2_w 104, 3) := by decide +kernel
theorem dX11_at_38 : decode cX11_at 38 = .ok (.invokevirtual 75, 3) := by decide +kernel
theorem dX11_at_41 : decode cX11_at 41 = .ok (.lreturn, 1) := by decide +kernel
set_option maxRecDepth 20000 in
theorem ggX11_agree_X11_markAt : GoodIn wsX11_agree wsX11_markAt := goodIn_r _ [6, 7, 8, 79, 80, 81, 82, 83, 84, 85, 86, 87, 88, 89, 90, 91] (by decide +kernel) (by decide +kernel)
set_option maxRecDepth 20000 in
theorem gX11_agree_X11_markAt : GoodIn wsX11_agree (wsV RX11 157 RX11 yX11_markAt wsX11_markAt) := goodIn_app (goodIn_of _ (by decide +kernel)) ggX11_agree_X11_markAt
set_option maxRecDepth 20000 in
theorem ggX11_agree_X11_told : GoodIn wsX11_agree wsX11_told := goodIn_r _ [12, 13, 14, 79, 80, 81, 82, 83, 84, 85, 86, 87, 88, 89, 90, 91] (by decide +kernel) (by decide +kernel)
set_option maxRecDepth 20000 in
theorem gX11_agree_X11_told : GoodIn wsX11_agree (wsV RX11 75 RX11 yX11_told wsX11_told) := goodIn_app (goodIn_of _ (by decide +kernel)) ggX11_agree_X11_told
set_option maxRecDepth 20000 in
theorem ggX11_agree_X5_fits : GoodIn wsX11_agree wsX5_fits := goodIn_r _ [19, 20, 21, 22, 23, 24, 25, 26, 27, 28, 18, 29, 30, 31, 32, 33, 34, 35, 36, 37, 38, 39, 40, 41, 42, 43, 44, 45, 46, 47, 48, 49, 50, 51, 52, 53, 54, 55, 56, 57, 58, 59, 60, 61, 62, 63, 64, 65, 66, 67, 68, 69, 70, 71, 72, 73, 74, 75, 76, 77, 78, 92, 93, 94, 95, 96, 97, 98, 99, 100, 101, 102, 103, 104, 105, 106, 107, 108] (by decide +kernel) (by decide +kernel)
set_option maxRecDepth 20000 in
theorem gX11_agree_X5_fits : GoodIn wsX11_agree (wsV RX11 181 RX5 yX5_fits wsX5_fits) := goodIn_app (goodIn_of _ (by decide +kernel)) ggX11_agree_X5_fits
theorem dX11_agree_0 : decode cX11_agree 0 = .ok (.aload_n 0, 1) := by decide +kernel
theorem dX11_agree_1 : decode cX11_agree 1 = .ok (.iload_n 1, 1) := by decide +kernel
theorem dX11_agree_2 : decode cX11_agree 2 = .ok (.invokevirtual 157, 3) := by decide +kernel
theorem dX11_agree_5 : decode cX11_agree 5 = .ok (.astore_n 3, 1) := by decide +kernel
theorem dX11_agree_6 : decode cX11_agree 6 = .ok (.aload_n 0, 1) := by decide +kernel
theorem dX11_agree_7 : decode cX11_agree 7 = .ok (.iload_n 2, 1) := by decide +kernel
theorem dX11_agree_8 : decode cX11_agree 8 = .ok (.invokevirtual 157, 3) := by decide +kernel
theorem dX11_agree_11 : decode cX11_agree 11 = .ok (.astore 4, 2) := by decide +kernel
theorem dX11_agree_13 : decode cX11_agree 13 = .ok (.aload_n 3, 1) := by decide +kernel
theorem dX11_agree_14 : decode cX11_agree 14 = .ok (.ifnull 8, 3) := by decide +kernel
theorem dX11_agree_17 : decode cX11_agree 17 = .ok (.aload 4, 2) := by decide +kernel
theorem dX11_agree_19 : decode cX11_agree 19 = .ok (.ifnonnull 11, 3) := by decide +kernel
theorem dX11_agree_22 : decode cX11_agree 22 = .ok (.aload_n 0, 1) := by decide +kernel
theorem dX11_agree_23 : decode cX11_agree 23 = .ok (.ldc2_w 94, 3) := by decide +kernel
theorem dX11_agree_26 : decode cX11_agree 26 = .ok (.invokevirtual 75, 3) := by decide +kernel
theorem dX11_agree_29 : decode cX11_agree 29 = .ok (.lreturn, 1) := by decide +kernel
theorem dX11_agree_30 : decode cX11_agree 30 = .ok (.aload_n 3, 1) := by decide +kernel
theorem dX11_agree_31 : decode cX11_agree 31 = .ok (.aload 4, 2) := by decide +kernel
theorem dX11_agree_33 : decode cX11_agree 33 = .ok (.invokevirtual 181, 3) := by decide +kernel
theorem dX11_agree_36 : decode cX11_agree 36 = .ok (.ifCond .eq 7, 3) := by decide +kernel
theorem dX11_agree_39 : decode cX11_agree 39 = .ok (.lconst 1, 1) := by decide +kernel
theorem dX11_agree_40 : decode cX11_agree 40 = .ok (.goto 4, 3) := by decide +kernel
theorem dX11_agree_43 : decode cX11_agree 43 = .ok (.lconst 0, 1) := by decide +kernel
theorem dX11_agree_44 : decode cX11_agree 44 = .ok (.lreturn, 1) := by decide +kernel
set_option maxRecDepth 20000 in
theorem ggX11_group_X11_markAt : GoodIn wsX11_group wsX11_markAt := goodIn_r _ [9, 4, 3, 107, 108, 109, 110, 111, 112, 113, 114, 115, 116, 117, 118, 119] (by decide +kernel) (by decide +kernel)
set_option maxRecDepth 20000 in
theorem gX11_group_X11_markAt : GoodIn wsX11_group (wsV RX11 157 RX11 yX11_markAt wsX11_markAt) := goodIn_app (goodIn_of _ (by decide +kernel)) ggX11_group_X11_markAt
set_option maxRecDepth 20000 in
theorem ggX11_group_X11_told : GoodIn wsX11_group wsX11_told := goodIn_r _ [13, 14, 15, 107, 108, 109, 110, 111, 112, 113, 114, 115, 116, 117, 118, 119] (by decide +kernel) (by decide +kernel)
set_option maxRecDepth 20000 in
theorem gX11_group_X11_told : GoodIn wsX11_group (wsV RX11 75 RX11 yX11_told wsX11_told) := goodIn_app (goodIn_of _ (by decide +kernel)) ggX11_group_X11_told
set_option maxRecDepth 20000 in
theorem ggX11_group_X3_sort : GoodIn wsX11_group wsX3_sort := goodIn_r _ [20, 21, 22, 23, 24, 25, 19, 26, 27, 28, 29, 30, 31, 32, 33, 34, 35, 36, 37, 38, 39, 40, 41, 42, 43, 44, 45, 46, 47, 48, 49, 50, 51, 52, 53, 54, 55, 56, 57, 58, 59, 60, 61, 62, 63, 64, 65, 66, 67, 68, 69, 70, 71, 72, 73, 74, 75, 76, 77, 78, 79, 80, 81, 82, 83, 84, 85, 86, 87, 88, 89, 90, 91, 92, 93, 94, 95, 96, 97, 98, 99, 100, 101, 102, 120, 121, 122, 123, 124, 125, 126, 127, 128, 129, 130, 131, 132, 133, 134, 135, 136, 137, 138, 139, 140, 141] (by decide +kernel) (by decide +kernel)
set_option maxRecDepth 20000 in
theorem gX11_group_X3_sort : GoodIn wsX11_group (wsV RX11 185 RX3 yX3_sort wsX3_sort) := goodIn_app (goodIn_of _ (by decide +kernel)) ggX11_group_X3_sort
set_option maxRecDepth 20000 in
theorem ggX11_group_X3_groupOf : GoodIn wsX11_group wsX3_groupOf := goodIn_r _ [106, 21, 23, 120, 121, 122, 123, 124] (by decide +kernel) (by decide +kernel)
set_option maxRecDepth 20000 in
theorem gX11_group_X3_groupOf : GoodIn wsX11_group (wsV RX11 189 RX3 yX3_groupOf wsX3_groupOf) := goodIn_app (goodIn_of _ (by decide +kernel)) ggX11_group_X3_groupOf
theorem dX11_group_0 : decode cX11_group 0 = .ok (.aload_n 0, 1) := by decide +kernel
theorem dX11_group_1 : decode cX11_group 1 = .ok (.iload_n 1, 1) := by decide +kernel
theorem dX11_group_2 : decode cX11_group 2 = .ok (.invokevirtual 157, 3) := by decide +kernel
theorem dX11_group_5 : decode cX11_group 5 = .ok (.ifnonnull 11, 3) := by decide +kernel
theorem dX11_group_8 : decode cX11_group 8 = .ok (.aload_n 0, 1) := by decide +kernel
theorem dX11_group_9 : decode cX11_group 9 = .ok (.ldc2_w 94, 3) := by decide +kernel
theorem dX11_group_12 : decode cX11_group 12 = .ok (.invokevirtual 75, 3) := by decide +kernel
theorem dX11_group_15 : decode cX11_group 15 = .ok (.lreturn, 1) := by decide +kernel
theorem dX11_group_16 : decode cX11_group 16 = .ok (.aload_n 0, 1) := by decide +kernel
theorem dX11_group_17 : decode cX11_group 17 = .ok (.getfield 24, 3) := by decide +kernel
theorem dX11_group_20 : decode cX11_group 20 = .ok (.aload_n 0, 1) := by decide +kernel
theorem dX11_group_21 : decode cX11_group 21 = .ok (.getfield 17, 3) := by decide +kernel
theorem dX11_group_24 : decode cX11_group 24 = .ok (.aload_n 0, 1) := by decide +kernel
theorem dX11_group_25 : decode cX11_group 25 = .ok (.getfield 151, 3) := by decide +kernel
theorem dX11_group_28 : decode cX11_group 28 = .ok (.invokevirtual 185, 3) := by decide +kernel
theorem dX11_group_31 : decode cX11_group 31 = .ok (.aload_n 0, 1) := by decide +kernel
theorem dX11_group_32 : decode cX11_group 32 = .ok (.getfield 24, 3) := by decide +kernel
theorem dX11_group_35 : decode cX11_group 35 = .ok (.iload_n 1, 1) := by decide +kernel
theorem dX11_group_36 : decode cX11_group 36 = .ok (.invokevirtual 189, 3) := by decide +kernel
theorem dX11_group_39 : decode cX11_group 39 = .ok (.i2l, 1) := by decide +kernel
theorem dX11_group_40 : decode cX11_group 40 = .ok (.lreturn, 1) := by decide +kernel
set_option maxRecDepth 20000 in
theorem ggX11_groups_X3_sort : GoodIn wsX11_groups wsX3_sort := goodIn_r _ [8, 9, 10, 11, 12, 13, 7, 14, 15, 16, 17, 18, 19, 20, 21, 22, 23, 24, 25, 26, 27, 28, 29, 30, 31, 32, 33, 34, 35, 36, 37, 38, 39, 40, 41, 42, 43, 44, 45, 46, 47, 48, 49, 50, 51, 52, 53, 54, 55, 56, 57, 58, 59, 60, 61, 62, 63, 64, 65, 66, 67, 68, 69, 70, 71, 72, 73, 74, 75, 76, 77, 78, 79, 80, 81, 82, 83, 84, 85, 86, 87, 88, 89, 90, 108, 109, 110, 111, 112, 113, 114, 115, 116, 117, 118, 119, 120, 121, 122, 123, 124, 125, 126, 127, 128, 129] (by decide +kernel) (by decide +kernel)
set_option maxRecDepth 20000 in
theorem gX11_groups_X3_sort : GoodIn wsX11_groups (wsV RX11 185 RX3 yX3_sort wsX3_sort) := goodIn_app (goodIn_of _ (by decide +kernel)) ggX11_groups_X3_sort
set_option maxRecDepth 20000 in
theorem ggX11_groups_X3_count : GoodIn wsX11_groups wsX3_count := goodIn_r _ [94, 10, 108, 109, 110, 111, 112] (by decide +kernel) (by decide +kernel)
set_option maxRecDepth 20000 in
theorem gX11_groups_X3_count : GoodIn wsX11_groups (wsV RX11 193 RX3 yX3_count wsX3_count) := goodIn_app (goodIn_of _ (by decide +kernel)) ggX11_groups_X3_count
theorem dX11_groups_0 : decode cX11_groups 0 = .ok (.aload_n 0, 1) := by decide +kernel
theorem dX11_groups_1 : decode cX11_groups 1 = .ok (.getfield 24, 3) := by decide +kernel
theorem dX11_groups_4 : decode cX11_groups 4 = .ok (.aload_n 0, 1) := by decide +kernel
theorem dX11_groups_5 : decode cX11_groups 5 = .ok (.getfield 17, 3) := by decide +kernel
theorem dX11_groups_8 : decode cX11_groups 8 = .ok (.aload_n 0, 1) := by decide +kernel
theorem dX11_groups_9 : decode cX11_groups 9 = .ok (.getfield 151, 3) := by decide +kernel
theorem dX11_groups_12 : decode cX11_groups 12 = .ok (.invokevirtual 185, 3) := by decide +kernel
theorem dX11_groups_15 : decode cX11_groups 15 = .ok (.aload_n 0, 1) := by decide +kernel
theorem dX11_groups_16 : decode cX11_groups 16 = .ok (.getfield 24, 3) := by decide +kernel
theorem dX11_groups_19 : decode cX11_groups 19 = .ok (.invokevirtual 193, 3) := by decide +kernel
theorem dX11_groups_22 : decode cX11_groups 22 = .ok (.i2l, 1) := by decide +kernel
theorem dX11_groups_23 : decode cX11_groups 23 = .ok (.lreturn, 1) := by decide +kernel
set_option maxRecDepth 20000 in
theorem ggX11_rivals_X3_sort : GoodIn wsX11_rivals wsX3_sort := goodIn_r _ [9, 10, 11, 12, 13, 14, 8, 15, 16, 17, 18, 19, 20, 21, 22, 23, 24, 25, 26, 27, 28, 29, 30, 31, 32, 33, 34, 35, 36, 37, 38, 39, 40, 41, 42, 43, 44, 45, 46, 47, 48, 49, 50, 51, 52, 53, 54, 55, 56, 57, 58, 59, 60, 61, 62, 63, 64, 65, 66, 67, 68, 69, 70, 71, 72, 73, 74, 75, 76, 77, 78, 79, 80, 81, 82, 83, 84, 85, 86, 87, 88, 89, 90, 91, 121, 122, 123, 124, 125, 126, 127, 128, 129, 130, 131, 132, 133, 134, 135, 136, 137, 138, 139, 140, 141, 142] (by decide +kernel) (by decide +kernel)
set_option maxRecDepth 20000 in
theorem gX11_rivals_X3_sort : GoodIn wsX11_rivals (wsV RX11 185 RX3 yX3_sort wsX3_sort) := goodIn_app (goodIn_of _ (by decide +kernel)) ggX11_rivals_X3_sort
set_option maxRecDepth 20000 in
theorem ggX11_rivals_X3_has : GoodIn wsX11_rivals wsX3_has := goodIn_r _ [95, 11, 121, 122, 123, 124, 125] (by decide +kernel) (by decide +kernel)
set_option maxRecDepth 20000 in
theorem gX11_rivals_X3_has : GoodIn wsX11_rivals (wsV RX11 196 RX3 yX3_has wsX3_has) := goodIn_app (goodIn_of _ (by decide +kernel)) ggX11_rivals_X3_has
set_option maxRecDepth 20000 in
theorem ggX11_rivals_X3_rivalPairs : GoodIn wsX11_rivals wsX3_rivalPairs := goodIn_r _ [99, 10, 12, 100, 40, 41, 32, 42, 35, 121, 122, 123, 124, 125, 126, 127, 128, 129, 130, 131, 132, 133, 134] (by decide +kernel) (by decide +kernel)
set_option maxRecDepth 20000 in
theorem gX11_rivals_X3_rivalPairs : GoodIn wsX11_rivals (wsV RX11 199 RX3 yX3_rivalPairs wsX3_rivalPairs) := goodIn_app (goodIn_of _ (by decide +kernel)) ggX11_rivals_X3_rivalPairs
set_option maxRecDepth 20000 in
theorem ggX11_rivals_X11_told : GoodIn wsX11_rivals wsX11_told := goodIn_r _ [105, 106, 107, 108, 109, 110, 111, 112, 113, 114, 115, 116, 117, 118, 119, 120] (by decide +kernel) (by decide +kernel)
set_option maxRecDepth 20000 in
theorem gX11_rivals_X11_told : GoodIn wsX11_rivals (wsV RX11 75 RX11 yX11_told wsX11_told) := goodIn_app (goodIn_of _ (by decide +kernel)) ggX11_rivals_X11_told
theorem dX11_rivals_0 : decode cX11_rivals 0 = .ok (.aload_n 0, 1) := by decide +kernel
theorem dX11_rivals_1 : decode cX11_rivals 1 = .ok (.getfield 24, 3) := by decide +kernel
theorem dX11_rivals_4 : decode cX11_rivals 4 = .ok (.aload_n 0, 1) := by decide +kernel
theorem dX11_rivals_5 : decode cX11_rivals 5 = .ok (.getfield 17, 3) := by decide +kernel
theorem dX11_rivals_8 : decode cX11_rivals 8 = .ok (.aload_n 0, 1) := by decide +kernel
theorem dX11_rivals_9 : decode cX11_rivals 9 = .ok (.getfield 151, 3) := by decide +kernel
theorem dX11_rivals_12 : decode cX11_rivals 12 = .ok (.invokevirtual 185, 3) := by decide +kernel
theorem dX11_rivals_15 : decode cX11_rivals 15 = .ok (.aload_n 0, 1) := by decide +kernel
theorem dX11_rivals_16 : decode cX11_rivals 16 = .ok (.getfield 24, 3) := by decide +kernel
theorem dX11_rivals_19 : decode cX11_rivals 19 = .ok (.iload_n 1, 1) := by decide +kernel
theorem dX11_rivals_20 : decode cX11_rivals 20 = .ok (.invokevirtual 196, 3) := by decide +kernel
theorem dX11_rivals_23 : decode cX11_rivals 23 = .ok (.ifCond .eq 19, 3) := by decide +kernel
theorem dX11_rivals_26 : decode cX11_rivals 26 = .ok (.aload_n 0, 1) := by decide +kernel
theorem dX11_rivals_27 : decode cX11_rivals 27 = .ok (.getfield 24, 3) := by decide +kernel
theorem dX11_rivals_30 : decode cX11_rivals 30 = .ok (.aload_n 0, 1) := by decide +kernel
theorem dX11_rivals_31 : decode cX11_rivals 31 = .ok (.getfield 17, 3) := by decide +kernel
theorem dX11_rivals_34 : decode cX11_rivals 34 = .ok (.iload_n 1, 1) := by decide +kernel
theorem dX11_rivals_35 : decode cX11_rivals 35 = .ok (.invokevirtual 199, 3) := by decide +kernel
theorem dX11_rivals_38 : decode cX11_rivals 38 = .ok (.i2l, 1) := by decide +kernel
theorem dX11_rivals_39 : decode cX11_rivals 39 = .ok (.goto 10, 3) := by decide +kernel
theorem dX11_rivals_42 : decode cX11_rivals 42 = .ok (.aload_n 0, 1) := by decide +kernel
theorem dX11_rivals_43 : decode cX11_rivals 43 = .ok (.ldc2_w 94, 3) := by decide +kernel
theorem dX11_rivals_46 : decode cX11_rivals 46 = .ok (.invokevirtual 75, 3) := by decide +kernel
theorem dX11_rivals_49 : decode cX11_rivals 49 = .ok (.lreturn, 1) := by decide +kernel
set_option maxRecDepth 20000 in
theorem ggX11_sign_X11_isSign : GoodIn wsX11_sign wsX11_isSign := goodIn_r _ [8, 9, 10, 7, 11] (by decide +kernel) (by decide +kernel)
set_option maxRecDepth 20000 in
theorem gX11_sign_X11_isSign : GoodIn wsX11_sign (va_wsS RX11 203 yX11_isSign wsX11_isSign) := goodIn_app (goodIn_of _ (by decide +kernel)) ggX11_sign_X11_isSign
set_option maxRecDepth 20000 in
theorem ggX11_sign_X11_told : GoodIn wsX11_sign wsX11_told := goodIn_r _ [15, 16, 17, 41, 42, 43, 44, 45, 46, 47, 48, 49, 50, 51, 52, 53] (by decide +kernel) (by decide +kernel)
set_option maxRecDepth 20000 in
theorem gX11_sign_X11_told : GoodIn wsX11_sign (wsV RX11 75 RX11 yX11_told wsX11_told) := goodIn_app (goodIn_of _ (by decide +kernel)) ggX11_sign_X11_told
set_option maxRecDepth 20000 in
theorem ggX11_sign_X2_size : GoodIn wsX11_sign wsX2_size := goodIn_r _ [22, 23, 54, 55, 56] (by decide +kernel) (by decide +kernel)
set_option maxRecDepth 20000 in
theorem gX11_sign_X2_size : GoodIn wsX11_sign (wsV RX11 206 RX2 yX2_size wsX2_size) := goodIn_app (goodIn_of _ (by decide +kernel)) ggX11_sign_X2_size
set_option maxRecDepth 20000 in
theorem ggX11_sign_X6_keep : GoodIn wsX11_sign wsX6_keep := goodIn_r _ [28, 29, 30, 31, 32, 33, 34, 35, 57, 58, 59, 60, 61, 62] (by decide +kernel) (by decide +kernel)
set_option maxRecDepth 20000 in
theorem gX11_sign_X6_keep : GoodIn wsX11_sign (wsV RX11 79 RX6 yX6_keep wsX6_keep) := goodIn_app (goodIn_of _ (by decide +kernel)) ggX11_sign_X6_keep
set_option maxRecDepth 20000 in
theorem ggX11_sign_X2_add : GoodIn wsX11_sign wsX2_add := goodIn_r _ [39, 23, 40, 54, 55, 56] (by decide +kernel) (by decide +kernel)
set_option maxRecDepth 20000 in
theorem gX11_sign_X2_add : GoodIn wsX11_sign (wsV RX11 207 RX2 yX2_add wsX2_add) := goodIn_app (goodIn_of _ (by decide +kernel)) ggX11_sign_X2_add
theorem dX11_sign_0 : decode cX11_sign 0 = .ok (.iload_n 1, 1) := by decide +kernel
theorem dX11_sign_1 : decode cX11_sign 1 = .ok (.invokestatic 203, 3) := by decide +kernel
theorem dX11_sign_4 : decode cX11_sign 4 = .ok (.ifCond .ne 11, 3) := by decide +kernel
theorem dX11_sign_7 : decode cX11_sign 7 = .ok (.aload_n 0, 1) := by decide +kernel
theorem dX11_sign_8 : decode cX11_sign 8 = .ok (.ldc2_w 94, 3) := by decide +kernel
theorem dX11_sign_11 : decode cX11_sign 11 = .ok (.invokevirtual 75, 3) := by decide +kernel
theorem dX11_sign_14 : decode cX11_sign 14 = .ok (.lreturn, 1) := by decide +kernel
theorem dX11_sign_15 : decode cX11_sign 15 = .ok (.aload_n 0, 1) := by decide +kernel
theorem dX11_sign_16 : decode cX11_sign 16 = .ok (.getfield 31, 3) := by decide +kernel
theorem dX11_sign_19 : decode cX11_sign 19 = .ok (.invokevirtual 206, 3) := by decide +kernel
theorem dX11_sign_22 : decode cX11_sign 22 = .ok (.bipush 12, 2) := by decide +kernel
theorem dX11_sign_24 : decode cX11_sign 24 = .ok (.if_icmp .lt 11, 3) := by decide +kernel
theorem dX11_sign_27 : decode cX11_sign 27 = .ok (.aload_n 0, 1) := by decide +kernel
theorem dX11_sign_28 : decode cX11_sign 28 = .ok (.ldc2_w 73, 3) := by decide +kernel
theorem dX11_sign_31 : decode cX11_sign 31 = .ok (.invokevirtual 75, 3) := by decide +kernel
theorem dX11_sign_34 : decode cX11_sign 34 = .ok (.lreturn, 1) := by decide +kernel
theorem dX11_sign_35 : decode cX11_sign 35 = .ok (.aload_n 0, 1) := by decide +kernel
theorem dX11_sign_36 : decode cX11_sign 36 = .ok (.getfield 64, 3) := by decide +kernel
theorem dX11_sign_39 : decode cX11_sign 39 = .ok (.iconst 4, 1) := by decide +kernel
theorem dX11_sign_40 : decode cX11_sign 40 = .ok (.aload_n 0, 1) := by decide +kernel
theorem dX11_sign_41 : decode cX11_sign 41 = .ok (.getfield 31, 3) := by decide +kernel
theorem dX11_sign_44 : decode cX11_sign 44 = .ok (.invokevirtual 206, 3) := by decide +kernel
theorem dX11_sign_47 : decode cX11_sign 47 = .ok (.invokevirtual 79, 3) := by decide +kernel
theorem dX11_sign_50 : decode cX11_sign 50 = .ok (.pop, 1) := by decide +kernel
theorem dX11_sign_51 : decode cX11_sign 51 = .ok (.aload_n 0, 1) := by decide +kernel
theorem dX11_sign_52 : decode cX11_sign 52 = .ok (.getfield 31, 3) := by decide +kernel
theorem dX11_sign_55 : decode cX11_sign 55 = .ok (.iload_n 1, 1) := by decide +kernel
theorem dX11_sign_56 : decode cX11_sign 56 = .ok (.invokevirtual 207, 3) := by decide +kernel
theorem dX11_sign_59 : decode cX11_sign 59 = .ok (.aload_n 0, 1) := by decide +kernel
theorem dX11_sign_60 : decode cX11_sign 60 = .ok (.getfield 31, 3) := by decide +kernel
theorem dX11_sign_63 : decode cX11_sign 63 = .ok (.invokevirtual 206, 3) := by decide +kernel
theorem dX11_sign_66 : decode cX11_sign 66 = .ok (.i2l, 1) := by decide +kernel
theorem dX11_sign_67 : decode cX11_sign 67 = .ok (.lreturn, 1) := by decide +kernel
set_option maxRecDepth 20000 in
theorem ggX11_blank_X2_size : GoodIn wsX11_blank wsX2_size := goodIn_r _ [7, 8, 47, 48, 49] (by decide +kernel) (by decide +kernel)
set_option maxRecDepth 20000 in
theorem gX11_blank_X2_size : GoodIn wsX11_blank (wsV RX11 206 RX2 yX2_size wsX2_size) := goodIn_app (goodIn_of _ (by decide +kernel)) ggX11_blank_X2_size
set_option maxRecDepth 20000 in
theorem ggX11_blank_X6_keep : GoodIn wsX11_blank wsX6_keep := goodIn_r _ [13, 14, 15, 16, 17, 18, 19, 20, 50, 51, 52, 53, 54, 55] (by decide +kernel) (by decide +kernel)
set_option maxRecDepth 20000 in
theorem gX11_blank_X6_keep : GoodIn wsX11_blank (wsV RX11 79 RX6 yX6_keep wsX6_keep) := goodIn_app (goodIn_of _ (by decide +kernel)) ggX11_blank_X6_keep
set_option maxRecDepth 20000 in
theorem ggX11_blank_X2_saveTo : GoodIn wsX11_blank wsX2_saveTo := goodIn_r _ [24, 25, 8, 26, 27, 28, 29, 47, 48, 49, 53, 54, 55] (by decide +kernel) (by decide +kernel)
set_option maxRecDepth 20000 in
theorem gX11_blank_X2_saveTo : GoodIn wsX11_blank (wsV RX11 210 RX2 yX2_saveTo wsX2_saveTo) := goodIn_app (goodIn_of _ (by decide +kernel)) ggX11_blank_X2_saveTo
set_option maxRecDepth 20000 in
theorem ggX11_blank_X2_clear : GoodIn wsX11_blank wsX2_clear := goodIn_r _ [33, 8, 47, 48, 49] (by decide +kernel) (by decide +kernel)
set_option maxRecDepth 20000 in
theorem gX11_blank_X2_clear : GoodIn wsX11_blank (wsV RX11 213 RX2 yX2_clear wsX2_clear) := goodIn_app (goodIn_of _ (by decide +kernel)) ggX11_blank_X2_clear
theorem dX11_blank_0 : decode cX11_blank 0 = .ok (.aload_n 0, 1) := by decide +kernel
theorem dX11_blank_1 : decode cX11_blank 1 = .ok (.getfield 31, 3) := by decide +kernel
theorem dX11_blank_4 : decode cX11_blank 4 = .ok (.invokevirtual 206, 3) := by decide +kernel
theorem dX11_blank_7 : decode cX11_blank 7 = .ok (.istore_n 1, 1) := by decide +kernel
theorem dX11_blank_8 : decode cX11_blank 8 = .ok (.aload_n 0, 1) := by decide +kernel
theorem dX11_blank_9 : decode cX11_blank 9 = .ok (.getfield 31, 3) := by decide +kernel
theorem dX11_blank_12 : decode cX11_blank 12 = .ok (.aload_n 0, 1) := by decide +kernel
theorem dX11_blank_13 : decode cX11_blank 13 = .ok (.getfield 64, 3) := by decide +kernel
theorem dX11_blank_16 : decode cX11_blank 16 = .ok (.iconst 5, 1) := by decide +kernel
theorem dX11_blank_17 : decode cX11_blank 17 = .ok (.iload_n 1, 1) := by decide +kernel
theorem dX11_blank_18 : decode cX11_blank 18 = .ok (.invokevirtual 79, 3) := by decide +kernel
theorem dX11_blank_21 : decode cX11_blank 21 = .ok (.invokevirtual 210, 3) := by decide +kernel
theorem dX11_blank_24 : decode cX11_blank 24 = .ok (.aload_n 0, 1) := by decide +kernel
theorem dX11_blank_25 : decode cX11_blank 25 = .ok (.getfield 31, 3) := by decide +kernel
theorem dX11_blank_28 : decode cX11_blank 28 = .ok (.invokevirtual 213, 3) := by decide +kernel
theorem dX11_blank_31 : decode cX11_blank 31 = .ok (.iload_n 1, 1) := by decide +kernel
theorem dX11_blank_32 : decode cX11_blank 32 = .ok (.i2l, 1) := by decide +kernel
theorem dX11_blank_33 : decode cX11_blank 33 = .ok (.lreturn, 1) := by decide +kernel
set_option maxRecDepth 20000 in
theorem ggX11_wrong_X2_firstWrong : GoodIn wsX11_wrong wsX2_firstWrong := goodIn_r _ [6, 7, 8, 9, 10, 5, 11, 25, 26, 27] (by decide +kernel) (by decide +kernel)
set_option maxRecDepth 20000 in
theorem gX11_wrong_X2_firstWrong : GoodIn wsX11_wrong (wsV RX11 216 RX2 yX2_firstWrong wsX2_firstWrong) := goodIn_app (goodIn_of _ (by decide +kernel)) ggX11_wrong_X2_firstWrong
theorem dX11_wrong_0 : decode cX11_wrong 0 = .ok (.aload_n 0, 1) := by decide +kernel
theorem dX11_wrong_1 : decode cX11_wrong 1 = .ok (.getfield 31, 3) := by decide +kernel
theorem dX11_wrong_4 : decode cX11_wrong 4 = .ok (.invokevirtual 216, 3) := by decide +kernel
theorem dX11_wrong_7 : decode cX11_wrong 7 = .ok (.i2l, 1) := by decide +kernel
theorem dX11_wrong_8 : decode cX11_wrong 8 = .ok (.lreturn, 1) := by decide +kernel
set_option maxRecDepth 20000 in
theorem ggX11_is_X3_sort : GoodIn wsX11_is wsX3_sort := goodIn_r _ [11, 12, 13, 14, 15, 16, 10, 17, 18, 19, 20, 21, 22, 23, 24, 25, 26, 27, 28, 29, 30, 31, 32, 33, 34, 35, 36, 37, 38, 39, 40, 41, 42, 43, 44, 45, 46, 47, 48, 49, 50, 51, 52, 53, 54, 55, 56, 57, 58, 59, 60, 61, 62, 63, 64, 65, 66, 67, 68, 69, 70, 71, 72, 73, 74, 75, 76, 77, 78, 79, 80, 81, 82, 83, 84, 85, 86, 87, 88, 89, 90, 91, 92, 93, 153, 154, 155, 156, 157, 158, 159, 160, 161, 162, 163, 164, 165, 166, 167, 168, 169, 170, 171, 172, 173, 174] (by decide +kernel) (by decide +kernel)
set_option maxRecDepth 20000 in
theorem gX11_is_X3_sort : GoodIn wsX11_is (wsV RX11 185 RX3 yX3_sort wsX3_sort) := goodIn_app (goodIn_of _ (by decide +kernel)) ggX11_is_X3_sort
set_option maxRecDepth 20000 in
theorem ggX11_is_X3_has : GoodIn wsX11_is wsX3_has := goodIn_r _ [97, 13, 153, 154, 155, 156, 157] (by decide +kernel) (by decide +kernel)
set_option maxRecDepth 20000 in
theorem gX11_is_X3_has : GoodIn wsX11_is (wsV RX11 196 RX3 yX3_has wsX3_has) := goodIn_app (goodIn_of _ (by decide +kernel)) ggX11_is_X3_has
set_option maxRecDepth 20000 in
theorem ggX11_is_X11_told : GoodIn wsX11_is wsX11_told := goodIn_r _ [102, 103, 104, 140, 141, 142, 143, 144, 145, 146, 147, 148, 149, 150, 151, 152] (by decide +kernel) (by decide +kernel)
set_option maxRecDepth 20000 in
theorem gX11_is_X11_told : GoodIn wsX11_is (wsV RX11 75 RX11 yX11_told wsX11_told) := goodIn_app (goodIn_of _ (by decide +kernel)) ggX11_is_X11_told
set_option maxRecDepth 20000 in
theorem ggX11_is_X2_firstWrong : GoodIn wsX11_is wsX2_firstWrong := goodIn_r _ [109, 110, 111, 112, 113, 108, 114, 175, 176, 177] (by decide +kernel) (by decide +kernel)
set_option maxRecDepth 20000 in
theorem gX11_is_X2_firstWrong : GoodIn wsX11_is (wsV RX11 216 RX2 yX2_firstWrong wsX2_firstWrong) := goodIn_app (goodIn_of _ (by decide +kernel)) ggX11_is_X2_firstWrong
set_option maxRecDepth 20000 in
theorem ggX11_is_X3_facts : GoodIn wsX11_is wsX3_facts := goodIn_r _ [118, 119, 12, 14, 120, 121, 20, 122, 22, 23, 24, 25, 123, 124, 125, 126, 127, 128, 129, 153, 154, 155, 156, 157, 158, 159, 160, 161, 162, 163] (by decide +kernel) (by decide +kernel)
set_option maxRecDepth 20000 in
theorem gX11_is_X3_facts : GoodIn wsX11_is (wsV RX11 219 RX3 yX3_facts wsX3_facts) := goodIn_app (goodIn_of _ (by decide +kernel)) ggX11_is_X3_facts
set_option maxRecDepth 20000 in
theorem ggX11_is_X2_holds : GoodIn wsX11_is wsX2_holds := goodIn_r _ [133, 110, 111, 134, 112, 113, 108, 114, 135, 136, 137, 138, 101, 139, 175, 176, 177] (by decide +kernel) (by decide +kernel)
set_option maxRecDepth 20000 in
theorem gX11_is_X2_holds : GoodIn wsX11_is (wsV RX11 223 RX2 yX2_holds wsX2_holds) := goodIn_app (goodIn_of _ (by decide +kernel)) ggX11_is_X2_holds
theorem dX11_is_0 : decode cX11_is 0 = .ok (.aload_n 0, 1) := by decide +kernel
theorem dX11_is_1 : decode cX11_is 1 = .ok (.getfield 24, 3) := by decide +kernel
theorem dX11_is_4 : decode cX11_is 4 = .ok (.aload_n 0, 1) := by decide +kernel
theorem dX11_is_5 : decode cX11_is 5 = .ok (.getfield 17, 3) := by decide +kernel
theorem dX11_is_8 : decode cX11_is 8 = .ok (.aload_n 0, 1) := by decide +kernel
theorem dX11_is_9 : decode cX11_is 9 = .ok (.getfield 151, 3) := by decide +kernel
theorem dX11_is_12 : decode cX11_is 12 = .ok (.invokevirtual 185, 3) := by decide +kernel
theorem dX11_is_15 : decode cX11_is 15 = .ok (.aload_n 0, 1) := by decide +kernel
theorem dX11_is_16 : decode cX11_is 16 = .ok (.getfield 24, 3) := by decide +kernel
theorem dX11_is_19 : decode cX11_is 19 = .ok (.iload_n 1, 1) := by decide +kernel
theorem dX11_is_20 : decode cX11_is 20 = .ok (.invokevirtual 196, 3) := by decide +kernel
theorem dX11_is_23 : decode cX11_is 23 = .ok (.ifCond .ne 11, 3) := by decide +kernel
theorem dX11_is_26 : decode cX11_is 26 = .ok (.aload_n 0, 1) := by decide +kernel
theorem dX11_is_27 : decode cX11_is 27 = .ok (.ldc2_w 94, 3) := by decide +kernel
theorem dX11_is_30 : decode cX11_is 30 = .ok (.invokevirtual 75, 3) := by decide +kernel
theorem dX11_is_33 : decode cX11_is 33 = .ok (.lreturn, 1) := by decide +kernel
theorem dX11_is_34 : decode cX11_is 34 = .ok (.aload_n 0, 1) := by decide +kernel
theorem dX11_is_35 : decode cX11_is 35 = .ok (.getfield 31, 3) := by decide +kernel
theorem dX11_is_38 : decode cX11_is 38 = .ok (.invokevirtual 216, 3) := by decide +kernel
theorem dX11_is_41 : decode cX11_is 41 = .ok (.ifCond .lt 11, 3) := by decide +kernel
theorem dX11_is_44 : decode cX11_is 44 = .ok (.aload_n 0, 1) := by decide +kernel
theorem dX11_is_45 : decode cX11_is 45 = .ok (.ldc2_w 171, 3) := by decide +kernel
theorem dX11_is_48 : decode cX11_is 48 = .ok (.invokevirtual 75, 3) := by decide +kernel
theorem dX11_is_51 : decode cX11_is 51 = .ok (.lreturn, 1) := by decide +kernel
theorem dX11_is_52 : decode cX11_is 52 = .ok (.aload_n 0, 1) := by decide +kernel
theorem dX11_is_53 : decode cX11_is 53 = .ok (.getfield 31, 3) := by decide +kernel
theorem dX11_is_56 : decode cX11_is 56 = .ok (.aload_n 0, 1) := by decide +kernel
theorem dX11_is_57 : decode cX11_is 57 = .ok (.getfield 24, 3) := by decide +kernel
theorem dX11_is_60 : decode cX11_is 60 = .ok (.aload_n 0, 1) := by decide +kernel
theorem dX11_is_61 : decode cX11_is 61 = .ok (.getfield 17, 3) := by decide +kernel
theorem dX11_is_64 : decode cX11_is 64 = .ok (.iload_n 1, 1) := by decide +kernel
theorem dX11_is_65 : decode cX11_is 65 = .ok (.invokevirtual 219, 3) := by decide +kernel
theorem dX11_is_68 : decode cX11_is 68 = .ok (.invokevirtual 223, 3) := by decide +kernel
theorem dX11_is_71 : decode cX11_is 71 = .ok (.ifCond .eq 7, 3) := by decide +kernel
theorem dX11_is_74 : decode cX11_is 74 = .ok (.lconst 1, 1) := by decide +kernel
theorem dX11_is_75 : decode cX11_is 75 = .ok (.goto 4, 3) := by decide +kernel
theorem dX11_is_78 : decode cX11_is 78 = .ok (.lconst 0, 1) := by decide +kernel
theorem dX11_is_79 : decode cX11_is 79 = .ok (.lreturn, 1) := by decide +kernel
set_option maxRecDepth 20000 in
theorem ggX11_field_X11_isLevel : GoodIn wsX11_field wsX11_isLevel := goodIn_r _ [12, 13, 14, 11, 15] (by decide +kernel) (by decide +kernel)
set_option maxRecDepth 20000 in
theorem gX11_field_X11_isLevel : GoodIn wsX11_field (va_wsS RX11 227 yX11_isLevel wsX11_isLevel) := goodIn_app (goodIn_of _ (by decide +kernel)) ggX11_field_X11_isLevel
set_option maxRecDepth 20000 in
theorem ggX11_field_X11_isWithin : GoodIn wsX11_field wsX11_isWithin := goodIn_r _ [15] (by decide +kernel) (by decide +kernel)
set_option maxRecDepth 20000 in
theorem gX11_field_X11_isWithin : GoodIn wsX11_field (va_wsS RX11 230 yX11_isWithin wsX11_isWithin) := goodIn_app (goodIn_of _ (by decide +kernel)) ggX11_field_X11_isWithin
set_option maxRecDepth 20000 in
theorem ggX11_field_X11_told : GoodIn wsX11_field wsX11_told := goodIn_r _ [19, 20, 21, 48, 49, 50, 51, 52, 53, 54, 55, 56, 57, 58, 59, 60] (by decide +kernel) (by decide +kernel)
set_option maxRecDepth 20000 in
theorem gX11_field_X11_told : GoodIn wsX11_field (wsV RX11 75 RX11 yX11_told wsX11_told) := goodIn_app (goodIn_of _ (by decide +kernel)) ggX11_field_X11_told
set_option maxRecDepth 20000 in
theorem ggX11_field_X6_keep : GoodIn wsX11_field wsX6_keep := goodIn_r _ [26, 27, 28, 29, 30, 31, 32, 33, 70, 71, 72, 73, 74, 75] (by decide +kernel) (by decide +kernel)
set_option maxRecDepth 20000 in
theorem gX11_field_X6_keep : GoodIn wsX11_field (wsV RX11 79 RX6 yX6_keep wsX6_keep) := goodIn_app (goodIn_of _ (by decide +kernel)) ggX11_field_X6_keep
set_option maxRecDepth 20000 in
theorem ggX11_field_X0_init : GoodIn wsX11_field wsX0_init := goodIn_r _ [36, 37, 38, 39, 40, 41, 42, 43, 44, 45, 46, 47, 61, 62, 63, 64, 65, 66, 67, 68, 69] (by decide +kernel) (by decide +kernel)
set_option maxRecDepth 20000 in
theorem gX11_field_X0_init : GoodIn wsX11_field (wsX0_init) := ggX11_field_X0_init
theorem dX11_field_0 : decode cX11_field 0 = .ok (.iload_n 1, 1) := by decide +kernel
theorem dX11_field_1 : decode cX11_field 1 = .ok (.invokestatic 227, 3) := by decide +kernel
theorem dX11_field_4 : decode cX11_field 4 = .ok (.ifCond .eq 23, 3) := by decide +kernel
theorem dX11_field_7 : decode cX11_field 7 = .ok (.iload_n 2, 1) := by decide +kernel
theorem dX11_field_8 : decode cX11_field 8 = .ok (.iconst 1, 1) := by decide +kernel
theorem dX11_field_9 : decode cX11_field 9 = .ok (.bipush 99, 2) := by decide +kernel
theorem dX11_field_11 : decode cX11_field 11 = .ok (.invokestatic 230, 3) := by decide +kernel
theorem dX11_field_14 : decode cX11_field 14 = .ok (.ifCond .eq 13, 3) := by decide +kernel
theorem dX11_field_17 : decode cX11_field 17 = .ok (.iload_n 3, 1) := by decide +kernel
theorem dX11_field_18 : decode cX11_field 18 = .ok (.iconst 1, 1) := by decide +kernel
theorem dX11_field_19 : decode cX11_field 19 = .ok (.bipush 9, 2) := by decide +kernel
theorem dX11_field_21 : decode cX11_field 21 = .ok (.invokestatic 230, 3) := by decide +kernel
theorem dX11_field_24 : decode cX11_field 24 = .ok (.ifCond .ne 11, 3) := by decide +kernel
theorem dX11_field_27 : decode cX11_field 27 = .ok (.aload_n 0, 1) := by decide +kernel
theorem dX11_field_28 : decode cX11_field 28 = .ok (.ldc2_w 94, 3) := by decide +kernel
theorem dX11_field_31 : decode cX11_field 31 = .ok (.invokevirtual 75, 3) := by decide +kernel
theorem dX11_field_34 : decode cX11_field 34 = .ok (.lreturn, 1) := by decide +kernel
theorem dX11_field_35 : decode cX11_field 35 = .ok (.aload_n 0, 1) := by decide +kernel
theorem dX11_field_36 : decode cX11_field 36 = .ok (.getfield 233, 3) := by decide +kernel
theorem dX11_field_39 : decode cX11_field 39 = .ok (.bipush 8, 2) := by decide +kernel
theorem dX11_field_41 : decode cX11_field 41 = .ok (.if_icmp .lt 11, 3) := by decide +kernel
theorem dX11_field_44 : decode cX11_field 44 = .ok (.aload_n 0, 1) := by decide +kernel
theorem dX11_field_45 : decode cX11_field 45 = .ok (.ldc2_w 73, 3) := by decide +kernel
theorem dX11_field_48 : decode cX11_field 48 = .ok (.invokevirtual 75, 3) := by decide +kernel
theorem dX11_field_51 : decode cX11_field 51 = .ok (.lreturn, 1) := by decide +kernel
theorem dX11_field_52 : decode cX11_field 52 = .ok (.aload_n 0, 1) := by decide +kernel
theorem dX11_field_53 : decode cX11_field 53 = .ok (.getfield 64, 3) := by decide +kernel
theorem dX11_field_56 : decode cX11_field 56 = .ok (.bipush 6, 2) := by decide +kernel
theorem dX11_field_58 : decode cX11_field 58 = .ok (.aload_n 0, 1) := by decide +kernel
theorem dX11_field_59 : decode cX11_field 59 = .ok (.getfield 233, 3) := by decide +kernel
theorem dX11_field_62 : decode cX11_field 62 = .ok (.invokevirtual 79, 3) := by decide +kernel
theorem dX11_field_65 : decode cX11_field 65 = .ok (.pop, 1) := by decide +kernel
theorem dX11_field_66 : decode cX11_field 66 = .ok (.aload_n 0, 1) := by decide +kernel
theorem dX11_field_67 : decode cX11_field 67 = .ok (.getfield 37, 3) := by decide +kernel
theorem dX11_field_70 : decode cX11_field 70 = .ok (.aload_n 0, 1) := by decide +kernel
theorem dX11_field_71 : decode cX11_field 71 = .ok (.getfield 233, 3) := by decide +kernel
theorem dX11_field_74 : decode cX11_field 74 = .ok (.new 35, 3) := by decide +kernel
theorem dX11_field_77 : decode cX11_field 77 = .ok (.dup, 1) := by decide +kernel
theorem dX11_field_78 : decode cX11_field 78 = .ok (.iload_n 1, 1) := by decide +kernel
theorem dX11_field_79 : decode cX11_field 79 = .ok (.iload_n 2, 1) := by decide +kernel
theorem dX11_field_80 : decode cX11_field 80 = .ok (.iload_n 3, 1) := by decide +kernel
theorem dX11_field_81 : decode cX11_field 81 = .ok (.invokespecial 236, 3) := by decide +kernel
theorem dX11_field_84 : decode cX11_field 84 = .ok (.aastore, 1) := by decide +kernel
theorem dX11_field_85 : decode cX11_field 85 = .ok (.aload_n 0, 1) := by decide +kernel
theorem dX11_field_86 : decode cX11_field 86 = .ok (.dup, 1) := by decide +kernel
theorem dX11_field_87 : decode cX11_field 87 = .ok (.getfield 233, 3) := by decide +kernel
theorem dX11_field_90 : decode cX11_field 90 = .ok (.iconst 1, 1) := by decide +kernel
theorem dX11_field_91 : decode cX11_field 91 = .ok (.iadd, 1) := by decide +kernel
theorem dX11_field_92 : decode cX11_field 92 = .ok (.putfield 233, 3) := by decide +kernel
theorem dX11_field_95 : decode cX11_field 95 = .ok (.aload_n 0, 1) := by decide +kernel
theorem dX11_field_96 : decode cX11_field 96 = .ok (.getfield 233, 3) := by decide +kernel
theorem dX11_field_99 : decode cX11_field 99 = .ok (.iconst 1, 1) := by decide +kernel
theorem dX11_field_100 : decode cX11_field 100 = .ok (.isub, 1) := by decide +kernel
theorem dX11_field_101 : decode cX11_field 101 = .ok (.i2l, 1) := by decide +kernel
theorem dX11_field_102 : decode cX11_field 102 = .ok (.lreturn, 1) := by decide +kernel
set_option maxRecDepth 20000 in
theorem ggX11_look_X11_fieldAt : GoodIn wsX11_look wsX11_fieldAt := goodIn_r _ [9, 10, 11, 54, 55, 56, 57, 58, 59, 60, 61, 62, 63, 64, 65, 66] (by decide +kernel) (by decide +kernel)
set_option maxRecDepth 20000 in
theorem gX11_look_X11_fieldAt : GoodIn wsX11_look (wsV RX11 239 RX11 yX11_fieldAt wsX11_fieldAt) := goodIn_app (goodIn_of _ (by decide +kernel)) ggX11_look_X11_fieldAt
set_option maxRecDepth 20000 in
theorem ggX11_look_X11_isLevel : GoodIn wsX11_look wsX11_isLevel := goodIn_r _ [14, 15, 16, 8, 17] (by decide +kernel) (by decide +kernel)
set_option maxRecDepth 20000 in
theorem gX11_look_X11_isLevel : GoodIn wsX11_look (va_wsS RX11 227 yX11_isLevel wsX11_isLevel) := goodIn_app (goodIn_of _ (by decide +kernel)) ggX11_look_X11_isLevel
set_option maxRecDepth 20000 in
theorem ggX11_look_X11_told : GoodIn wsX11_look wsX11_told := goodIn_r _ [21, 22, 23, 54, 55, 56, 57, 58, 59, 60, 61, 62, 63, 64, 65, 66] (by decide +kernel) (by decide +kernel)
set_option maxRecDepth 20000 in
theorem gX11_look_X11_told : GoodIn wsX11_look (wsV RX11 75 RX11 yX11_told wsX11_told) := goodIn_app (goodIn_of _ (by decide +kernel)) ggX11_look_X11_told
set_option maxRecDepth 20000 in
theorem ggX11_look_X0_isDug : GoodIn wsX11_look wsX0_isDug := goodIn_r _ [28, 29, 67, 68, 69, 70, 71, 72, 73, 74, 75] (by decide +kernel) (by decide +kernel)
set_option maxRecDepth 20000 in
theorem gX11_look_X0_isDug : GoodIn wsX11_look (wsV RX11 243 RX0 yX0_isDug wsX0_isDug) := goodIn_app (goodIn_of _ (by decide +kernel)) ggX11_look_X0_isDug
set_option maxRecDepth 20000 in
theorem ggX11_look_X0_looks : GoodIn wsX11_look wsX0_looks := goodIn_r _ [33, 34, 67, 68, 69, 70, 71, 72, 73, 74, 75] (by decide +kernel) (by decide +kernel)
set_option maxRecDepth 20000 in
theorem gX11_look_X0_looks : GoodIn wsX11_look (wsV RX11 246 RX0 yX0_looks wsX0_looks) := goodIn_app (goodIn_of _ (by decide +kernel)) ggX11_look_X0_looks
set_option maxRecDepth 20000 in
theorem ggX11_look_X6_keep : GoodIn wsX11_look wsX6_keep := goodIn_r _ [39, 40, 41, 42, 43, 44, 45, 46, 76, 77, 78, 79, 80, 81] (by decide +kernel) (by decide +kernel)
set_option maxRecDepth 20000 in
theorem gX11_look_X6_keep : GoodIn wsX11_look (wsV RX11 79 RX6 yX6_keep wsX6_keep) := goodIn_app (goodIn_of _ (by decide +kernel)) ggX11_look_X6_keep
set_option maxRecDepth 20000 in
theorem ggX11_look_X0_addLook : GoodIn wsX11_look wsX0_addLook := goodIn_r _ [50, 34, 51, 52, 53, 67, 68, 69, 70, 71, 72, 73, 74, 75] (by decide +kernel) (by decide +kernel)
set_option maxRecDepth 20000 in
theorem gX11_look_X0_addLook : GoodIn wsX11_look (wsV RX11 249 RX0 yX0_addLook wsX0_addLook) := goodIn_app (goodIn_of _ (by decide +kernel)) ggX11_look_X0_addLook
theorem dX11_look_0 : decode cX11_look 0 = .ok (.aload_n 0, 1) := by decide +kernel
theorem dX11_look_1 : decode cX11_look 1 = .ok (.iload_n 1, 1) := by decide +kernel
theorem dX11_look_2 : decode cX11_look 2 = .ok (.invokevirtual 239, 3) := by decide +kernel
theorem dX11_look_5 : decode cX11_look 5 = .ok (.astore 5, 2) := by decide +kernel
theorem dX11_look_7 : decode cX11_look 7 = .ok (.aload 5, 2) := by decide +kernel
theorem dX11_look_9 : decode cX11_look 9 = .ok (.ifnull 17, 3) := by decide +kernel
theorem dX11_look_12 : decode cX11_look 12 = .ok (.iload_n 2, 1) := by decide +kernel
theorem dX11_look_13 : decode cX11_look 13 = .ok (.invokestatic 227, 3) := by decide +kernel
theorem dX11_look_16 : decode cX11_look 16 = .ok (.ifCond .eq 10, 3) := by decide +kernel
theorem dX11_look_19 : decode cX11_look 19 = .ok (.iload_n 3, 1) := by decide +kernel
theorem dX11_look_20 : decode cX11_look 20 = .ok (.invokestatic 227, 3) := by decide +kernel
theorem dX11_look_23 : decode cX11_look 23 = .ok (.ifCond .ne 11, 3) := by decide +kernel
theorem dX11_look_26 : decode cX11_look 26 = .ok (.aload_n 0, 1) := by decide +kernel
theorem dX11_look_27 : decode cX11_look 27 = .ok (.ldc2_w 94, 3) := by decide +kernel
theorem dX11_look_30 : decode cX11_look 30 = .ok (.invokevirtual 75, 3) := by decide +kernel
theorem dX11_look_33 : decode cX11_look 33 = .ok (.lreturn, 1) := by decide +kernel
theorem dX11_look_34 : decode cX11_look 34 = .ok (.aload 5, 2) := by decide +kernel
theorem dX11_look_36 : decode cX11_look 36 = .ok (.invokevirtual 243, 3) := by decide +kernel
theorem dX11_look_39 : decode cX11_look 39 = .ok (.ifCond .eq 11, 3) := by decide +kernel
theorem dX11_look_42 : decode cX11_look 42 = .ok (.aload_n 0, 1) := by decide +kernel
theorem dX11_look_43 : decode cX11_look 43 = .ok (.ldc2_w 171, 3) := by decide +kernel
theorem dX11_look_46 : decode cX11_look 46 = .ok (.invokevirtual 75, 3) := by decide +kernel
theorem dX11_look_49 : decode cX11_look 49 = .ok (.lreturn, 1) := by decide +kernel
theorem dX11_look_50 : decode cX11_look 50 = .ok (.aload 5, 2) := by decide +kernel
theorem dX11_look_52 : decode cX11_look 52 = .ok (.invokevirtual 246, 3) := by decide +kernel
theorem dX11_look_55 : decode cX11_look 55 = .ok (.iconst 4, 1) := by decide +kernel
theorem dX11_look_56 : decode cX11_look 56 = .ok (.if_icmp .lt 11, 3) := by decide +kernel
theorem dX11_look_59 : decode cX11_look 59 = .ok (.aload_n 0, 1) := by decide +kernel
theorem dX11_look_60 : decode cX11_look 60 = .ok (.ldc2_w 73, 3) := by decide +kernel
theorem dX11_look_63 : decode cX11_look 63 = .ok (.invokevirtual 75, 3) := by decide +kernel
theorem dX11_look_66 : decode cX11_look 66 = .ok (.lreturn, 1) := by decide +kernel
theorem dX11_look_67 : decode cX11_look 67 = .ok (.aload_n 0, 1) := by decide +kernel
theorem dX11_look_68 : decode cX11_look 68 = .ok (.getfield 64, 3) := by decide +kernel
theorem dX11_look_71 : decode cX11_look 71 = .ok (.bipush 7, 2) := by decide +kernel
theorem dX11_look_73 : decode cX11_look 73 = .ok (.iload_n 1, 1) := by decide +kernel
theorem dX11_look_74 : decode cX11_look 74 = .ok (.invokevirtual 79, 3) := by decide +kernel
theorem dX11_look_77 : decode cX11_look 77 = .ok (.pop, 1) := by decide +kernel
theorem dX11_look_78 : decode cX11_look 78 = .ok (.aload 5, 2) := by decide +kernel
theorem dX11_look_80 : decode cX11_look 80 = .ok (.iload_n 2, 1) := by decide +kernel
theorem dX11_look_81 : decode cX11_look 81 = .ok (.iload_n 3, 1) := by decide +kernel
theorem dX11_look_82 : decode cX11_look 82 = .ok (.iload 4, 2) := by decide +kernel
theorem dX11_look_84 : decode cX11_look 84 = .ok (.invokevirtual 249, 3) := by decide +kernel
theorem dX11_look_87 : decode cX11_look 87 = .ok (.aload 5, 2) := by decide +kernel
theorem dX11_look_89 : decode cX11_look 89 = .ok (.invokevirtual 246, 3) := by decide +kernel
theorem dX11_look_92 : decode cX11_look 92 = .ok (.i2l, 1) := by decide +kernel
theorem dX11_look_93 : decode cX11_look 93 = .ok (.lreturn, 1) := by decide +kernel
set_option maxRecDepth 20000 in
theorem ggX11_belief_X11_fieldAt : GoodIn wsX11_belief wsX11_fieldAt := goodIn_r _ [7, 8, 9, 60, 61, 62, 63, 64, 65, 66, 67, 68, 69, 70, 71, 72] (by decide +kernel) (by decide +kernel)
set_option maxRecDepth 20000 in
theorem gX11_belief_X11_fieldAt : GoodIn wsX11_belief (wsV RX11 239 RX11 yX11_fieldAt wsX11_fieldAt) := goodIn_app (goodIn_of _ (by decide +kernel)) ggX11_belief_X11_fieldAt
set_option maxRecDepth 20000 in
theorem ggX11_belief_X11_told : GoodIn wsX11_belief wsX11_told := goodIn_r _ [13, 14, 15, 60, 61, 62, 63, 64, 65, 66, 67, 68, 69, 70, 71, 72] (by decide +kernel) (by decide +kernel)
set_option maxRecDepth 20000 in
theorem gX11_belief_X11_told : GoodIn wsX11_belief (wsV RX11 75 RX11 yX11_told wsX11_told) := goodIn_app (goodIn_of _ (by decide +kernel)) ggX11_belief_X11_told
set_option maxRecDepth 20000 in
theorem ggX11_belief_X0_believed : GoodIn wsX11_belief wsX0_believed := goodIn_r _ [20, 21, 22, 23, 24, 25, 26, 27, 28, 29, 19, 30, 31, 32, 33, 34, 35, 36, 37, 38, 39, 40, 41, 6, 42, 43, 44, 45, 46, 47, 48, 49, 50, 51, 52, 53, 54, 55, 56, 57, 58, 59, 73, 74, 75, 76, 77, 78, 79, 80, 81, 82, 83] (by decide +kernel) (by decide +kernel)
set_option maxRecDepth 20000 in
theorem gX11_belief_X0_believed : GoodIn wsX11_belief (wsV RX11 253 RX0 yX0_believed wsX0_believed) := goodIn_app (goodIn_of _ (by decide +kernel)) ggX11_belief_X0_believed
theorem dX11_belief_0 : decode cX11_belief 0 = .ok (.aload_n 0, 1) := by decide +kernel
theorem dX11_belief_1 : decode cX11_belief 1 = .ok (.iload_n 1, 1) := by decide +kernel
theorem dX11_belief_2 : decode cX11_belief 2 = .ok (.invokevirtual 239, 3) := by decide +kernel
theorem dX11_belief_5 : decode cX11_belief 5 = .ok (.astore_n 3, 1) := by decide +kernel
theorem dX11_belief_6 : decode cX11_belief 6 = .ok (.aload_n 3, 1) := by decide +kernel
theorem dX11_belief_7 : decode cX11_belief 7 = .ok (.ifnonnull 13, 3) := by decide +kernel
theorem dX11_belief_10 : decode cX11_belief 10 = .ok (.aload_n 0, 1) := by decide +kernel
theorem dX11_belief_11 : decode cX11_belief 11 = .ok (.ldc2_w 94, 3) := by decide +kernel
theorem dX11_belief_14 : decode cX11_belief 14 = .ok (.invokevirtual 75, 3) := by decide +kernel
theorem dX11_belief_17 : decode cX11_belief 17 = .ok (.goto 12, 3) := by decide +kernel
theorem dX11_belief_20 : decode cX11_belief 20 = .ok (.aload_n 3, 1) := by decide +kernel
theorem dX11_belief_21 : decode cX11_belief 21 = .ok (.aload_n 0, 1) := by decide +kernel
theorem dX11_belief_22 : decode cX11_belief 22 = .ok (.getfield 44, 3) := by decide +kernel
theorem dX11_belief_25 : decode cX11_belief 25 = .ok (.iload_n 2, 1) := by decide +kernel
theorem dX11_belief_26 : decode cX11_belief 26 = .ok (.invokevirtual 253, 3) := by decide +kernel
theorem dX11_belief_29 : decode cX11_belief 29 = .ok (.lreturn, 1) := by decide +kernel
set_option maxRecDepth 20000 in
theorem ggX11_showing_X11_isLevel : GoodIn wsX11_showing wsX11_isLevel := goodIn_r _ [6, 7, 8, 5, 9] (by decide +kernel) (by decide +kernel)
set_option maxRecDepth 20000 in
theorem gX11_showing_X11_isLevel : GoodIn wsX11_showing (va_wsS RX11 227 yX11_isLevel wsX11_isLevel) := goodIn_app (goodIn_of _ (by decide +kernel)) ggX11_showing_X11_isLevel
set_option maxRecDepth 20000 in
theorem ggX11_showing_X11_told : GoodIn wsX11_showing wsX11_told := goodIn_r _ [13, 14, 15, 30, 31, 32, 33, 34, 35, 36, 37, 38, 39, 40, 41, 42] (by decide +kernel) (by decide +kernel)
set_option maxRecDepth 20000 in
theorem gX11_showing_X11_told : GoodIn wsX11_showing (wsV RX11 75 RX11 yX11_told wsX11_told) := goodIn_app (goodIn_of _ (by decide +kernel)) ggX11_showing_X11_told
set_option maxRecDepth 20000 in
theorem ggX11_showing_X10_lower : GoodIn wsX11_showing wsX10_lower := goodIn_r _ [20, 21, 22, 23, 19, 24, 4, 5, 6, 7, 8, 9, 43, 44] (by decide +kernel) (by decide +kernel)
set_option maxRecDepth 20000 in
theorem gX11_showing_X10_lower : GoodIn wsX11_showing (wsV RX11 257 RX10 yX10_lower wsX10_lower) := goodIn_app (goodIn_of _ (by decide +kernel)) ggX11_showing_X10_lower
set_option maxRecDepth 20000 in
theorem ggX11_showing_X10_upper : GoodIn wsX11_showing wsX10_upper := goodIn_r _ [28, 29, 22, 23, 19, 24, 4, 5, 6, 7, 8, 9, 43, 44] (by decide +kernel) (by decide +kernel)
set_option maxRecDepth 20000 in
theorem gX11_showing_X10_upper : GoodIn wsX11_showing (wsV RX11 260 RX10 yX10_upper wsX10_upper) := goodIn_app (goodIn_of _ (by decide +kernel)) ggX11_showing_X10_upper
theorem dX11_showing_0 : decode cX11_showing 0 = .ok (.iload_n 1, 1) := by decide +kernel
theorem dX11_showing_1 : decode cX11_showing 1 = .ok (.invokestatic 227, 3) := by decide +kernel
theorem dX11_showing_4 : decode cX11_showing 4 = .ok (.ifCond .eq 17, 3) := by decide +kernel
theorem dX11_showing_7 : decode cX11_showing 7 = .ok (.iload_n 2, 1) := by decide +kernel
theorem dX11_showing_8 : decode cX11_showing 8 = .ok (.invokestatic 227, 3) := by decide +kernel
theorem dX11_showing_11 : decode cX11_showing 11 = .ok (.ifCond .eq 10, 3) := by decide +kernel
theorem dX11_showing_14 : decode cX11_showing 14 = .ok (.iload_n 3, 1) := by decide +kernel
theorem dX11_showing_15 : decode cX11_showing 15 = .ok (.invokestatic 227, 3) := by decide +kernel
theorem dX11_showing_18 : decode cX11_showing 18 = .ok (.ifCond .ne 11, 3) := by decide +kernel
theorem dX11_showing_21 : decode cX11_showing 21 = .ok (.aload_n 0, 1) := by decide +kernel
theorem dX11_showing_22 : decode cX11_showing 22 = .ok (.ldc2_w 94, 3) := by decide +kernel
theorem dX11_showing_25 : decode cX11_showing 25 = .ok (.invokevirtual 75, 3) := by decide +kernel
theorem dX11_showing_28 : decode cX11_showing 28 = .ok (.lreturn, 1) := by decide +kernel
theorem dX11_showing_29 : decode cX11_showing 29 = .ok (.iload 4, 2) := by decide +kernel
theorem dX11_showing_31 : decode cX11_showing 31 = .ok (.ifCond .eq 17, 3) := by decide +kernel
theorem dX11_showing_34 : decode cX11_showing 34 = .ok (.aload_n 0, 1) := by decide +kernel
theorem dX11_showing_35 : decode cX11_showing 35 = .ok (.getfield 44, 3) := by decide +kernel
theorem dX11_showing_38 : decode cX11_showing 38 = .ok (.iload_n 1, 1) := by decide +kernel
theorem dX11_showing_39 : decode cX11_showing 39 = .ok (.iload_n 2, 1) := by decide +kernel
theorem dX11_showing_40 : decode cX11_showing 40 = .ok (.iload_n 3, 1) := by decide +kernel
theorem dX11_showing_41 : decode cX11_showing 41 = .ok (.invokevirtual 257, 3) := by decide +kernel
theorem dX11_showing_44 : decode cX11_showing 44 = .ok (.i2l, 1) := by decide +kernel
theorem dX11_showing_45 : decode cX11_showing 45 = .ok (.goto 14, 3) := by decide +kernel
theorem dX11_showing_48 : decode cX11_showing 48 = .ok (.aload_n 0, 1) := by decide +kernel
theorem dX11_showing_49 : decode cX11_showing 49 = .ok (.getfield 44, 3) := by decide +kernel
theorem dX11_showing_52 : decode cX11_showing 52 = .ok (.iload_n 1, 1) := by decide +kernel
theorem dX11_showing_53 : decode cX11_showing 53 = .ok (.iload_n 2, 1) := by decide +kernel
theorem dX11_showing_54 : decode cX11_showing 54 = .ok (.iload_n 3, 1) := by decide +kernel
theorem dX11_showing_55 : decode cX11_showing 55 = .ok (.invokevirtual 260, 3) := by decide +kernel
theorem dX11_showing_58 : decode cX11_showing 58 = .ok (.i2l, 1) := by decide +kernel
theorem dX11_showing_59 : decode cX11_showing 59 = .ok (.lreturn, 1) := by decide +kernel
set_option maxRecDepth 20000 in
theorem ggX11_dig_X11_fieldAt : GoodIn wsX11_dig wsX11_fieldAt := goodIn_r _ [9, 10, 11, 64, 65, 66, 67, 68, 69, 70, 71, 72, 73, 74, 75, 76] (by decide +kernel) (by decide +kernel)
set_option maxRecDepth 20000 in
theorem gX11_dig_X11_fieldAt : GoodIn wsX11_dig (wsV RX11 239 RX11 yX11_fieldAt wsX11_fieldAt) := goodIn_app (goodIn_of _ (by decide +kernel)) ggX11_dig_X11_fieldAt
set_option maxRecDepth 20000 in
theorem ggX11_dig_X11_told : GoodIn wsX11_dig wsX11_told := goodIn_r _ [15, 16, 17, 64, 65, 66, 67, 68, 69, 70, 71, 72, 73, 74, 75, 76] (by decide +kernel) (by decide +kernel)
set_option maxRecDepth 20000 in
theorem gX11_dig_X11_told : GoodIn wsX11_dig (wsV RX11 75 RX11 yX11_told wsX11_told) := goodIn_app (goodIn_of _ (by decide +kernel)) ggX11_dig_X11_told
set_option maxRecDepth 20000 in
theorem ggX11_dig_X0_isDug : GoodIn wsX11_dig wsX0_isDug := goodIn_r _ [22, 23, 77, 78, 79, 80, 81, 82, 83, 84, 85] (by decide +kernel) (by decide +kernel)
