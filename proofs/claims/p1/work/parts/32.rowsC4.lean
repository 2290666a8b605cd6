set_option maxRecDepth 20000 in
theorem gX11_dig_X0_isDug : GoodIn wsX11_dig (wsV RX11 243 RX0 yX0_isDug wsX0_isDug) := goodIn_app (goodIn_of _ (by decide +kernel)) ggX11_dig_X0_isDug
set_option maxRecDepth 20000 in
theorem ggX11_dig_X6_keep : GoodIn wsX11_dig wsX6_keep := goodIn_r _ [28, 29, 30, 31, 32, 33, 34, 35, 86, 87, 88, 89, 90, 91] (by decide +kernel) (by decide +kernel)
set_option maxRecDepth 20000 in
theorem gX11_dig_X6_keep : GoodIn wsX11_dig (wsV RX11 79 RX6 yX6_keep wsX6_keep) := goodIn_app (goodIn_of _ (by decide +kernel)) ggX11_dig_X6_keep
set_option maxRecDepth 20000 in
theorem ggX11_dig_X0_open : GoodIn wsX11_dig wsX0_open := goodIn_r _ [39, 23, 40, 41, 42, 43, 21, 44, 45, 46, 47, 48, 49, 50, 51, 52, 53, 8, 54, 55, 56, 57, 58, 59, 60, 61, 62, 63, 77, 78, 79, 80, 81, 82, 83, 84, 85, 92, 93] (by decide +kernel) (by decide +kernel)
set_option maxRecDepth 20000 in
theorem gX11_dig_X0_open : GoodIn wsX11_dig (wsV RX11 263 RX0 yX0_open wsX0_open) := goodIn_app (goodIn_of _ (by decide +kernel)) ggX11_dig_X0_open
theorem dX11_dig_0 : decode cX11_dig 0 = .ok (.aload_n 0, 1) := by decide +kernel
theorem dX11_dig_1 : decode cX11_dig 1 = .ok (.iload_n 1, 1) := by decide +kernel
theorem dX11_dig_2 : decode cX11_dig 2 = .ok (.invokevirtual 239, 3) := by decide +kernel
theorem dX11_dig_5 : decode cX11_dig 5 = .ok (.astore_n 3, 1) := by decide +kernel
theorem dX11_dig_6 : decode cX11_dig 6 = .ok (.aload_n 3, 1) := by decide +kernel
theorem dX11_dig_7 : decode cX11_dig 7 = .ok (.ifnonnull 11, 3) := by decide +kernel
theorem dX11_dig_10 : decode cX11_dig 10 = .ok (.aload_n 0, 1) := by decide +kernel
theorem dX11_dig_11 : decode cX11_dig 11 = .ok (.ldc2_w 94, 3) := by decide +kernel
theorem dX11_dig_14 : decode cX11_dig 14 = .ok (.invokevirtual 75, 3) := by decide +kernel
theorem dX11_dig_17 : decode cX11_dig 17 = .ok (.lreturn, 1) := by decide +kernel
theorem dX11_dig_18 : decode cX11_dig 18 = .ok (.aload_n 3, 1) := by decide +kernel
theorem dX11_dig_19 : decode cX11_dig 19 = .ok (.invokevirtual 243, 3) := by decide +kernel
theorem dX11_dig_22 : decode cX11_dig 22 = .ok (.ifCond .eq 11, 3) := by decide +kernel
theorem dX11_dig_25 : decode cX11_dig 25 = .ok (.aload_n 0, 1) := by decide +kernel
theorem dX11_dig_26 : decode cX11_dig 26 = .ok (.ldc2_w 171, 3) := by decide +kernel
theorem dX11_dig_29 : decode cX11_dig 29 = .ok (.invokevirtual 75, 3) := by decide +kernel
theorem dX11_dig_32 : decode cX11_dig 32 = .ok (.lreturn, 1) := by decide +kernel
theorem dX11_dig_33 : decode cX11_dig 33 = .ok (.aload_n 0, 1) := by decide +kernel
theorem dX11_dig_34 : decode cX11_dig 34 = .ok (.getfield 64, 3) := by decide +kernel
theorem dX11_dig_37 : decode cX11_dig 37 = .ok (.bipush 8, 2) := by decide +kernel
theorem dX11_dig_39 : decode cX11_dig 39 = .ok (.iload_n 1, 1) := by decide +kernel
theorem dX11_dig_40 : decode cX11_dig 40 = .ok (.invokevirtual 79, 3) := by decide +kernel
theorem dX11_dig_43 : decode cX11_dig 43 = .ok (.pop, 1) := by decide +kernel
theorem dX11_dig_44 : decode cX11_dig 44 = .ok (.aload_n 3, 1) := by decide +kernel
theorem dX11_dig_45 : decode cX11_dig 45 = .ok (.iload_n 2, 1) := by decide +kernel
theorem dX11_dig_46 : decode cX11_dig 46 = .ok (.aload_n 0, 1) := by decide +kernel
theorem dX11_dig_47 : decode cX11_dig 47 = .ok (.getfield 44, 3) := by decide +kernel
theorem dX11_dig_50 : decode cX11_dig 50 = .ok (.invokevirtual 263, 3) := by decide +kernel
theorem dX11_dig_53 : decode cX11_dig 53 = .ok (.i2l, 1) := by decide +kernel
theorem dX11_dig_54 : decode cX11_dig 54 = .ok (.lreturn, 1) := by decide +kernel
set_option maxRecDepth 20000 in
theorem ggX11_plan_X11_isFlight : GoodIn wsX11_plan wsX11_isFlight := goodIn_r _ [6, 7, 8, 5, 9, 10, 11, 12] (by decide +kernel) (by decide +kernel)
set_option maxRecDepth 20000 in
theorem gX11_plan_X11_isFlight : GoodIn wsX11_plan (va_wsS RX11 267 yX11_isFlight wsX11_isFlight) := goodIn_app (goodIn_of _ (by decide +kernel)) ggX11_plan_X11_isFlight
set_option maxRecDepth 20000 in
theorem ggX11_plan_X11_told : GoodIn wsX11_plan wsX11_told := goodIn_r _ [16, 17, 18, 81, 82, 83, 84, 85, 86, 87, 88, 89, 90, 91, 92, 93] (by decide +kernel) (by decide +kernel)
set_option maxRecDepth 20000 in
theorem gX11_plan_X11_told : GoodIn wsX11_plan (wsV RX11 75 RX11 yX11_told wsX11_told) := goodIn_app (goodIn_of _ (by decide +kernel)) ggX11_plan_X11_told
set_option maxRecDepth 20000 in
theorem ggX11_plan_X11_choose : GoodIn wsX11_plan wsX11_choose := goodIn_r _ [22, 2, 23, 24, 25, 26, 27, 28, 29, 30, 31, 32, 33, 34, 35, 36, 37, 38, 39, 40, 41, 42, 43, 44, 45, 46, 47, 48, 49, 50, 11, 5, 12, 7, 8, 9, 51, 52, 53, 54, 55, 56, 57, 58, 59, 60, 61, 62, 63, 64, 65, 66, 67, 68, 69, 70, 71, 72, 73, 74, 75, 76, 81, 82, 83, 84, 85, 86, 87, 88, 89, 90, 91, 92, 93, 94, 95, 96, 97, 98, 99, 100, 101, 102, 103, 104, 105, 106, 107, 108, 109] (by decide +kernel) (by decide +kernel)
set_option maxRecDepth 20000 in
theorem gX11_plan_X11_choose : GoodIn wsX11_plan (wsV RX11 270 RX11 yX11_choose wsX11_choose) := goodIn_app (goodIn_of _ (by decide +kernel)) ggX11_plan_X11_choose
set_option maxRecDepth 20000 in
theorem ggX11_plan_X1_set : GoodIn wsX11_plan wsX1_set := goodIn_r _ [80, 66, 94, 95, 96, 97, 98] (by decide +kernel) (by decide +kernel)
set_option maxRecDepth 20000 in
theorem gX11_plan_X1_set : GoodIn wsX11_plan (wsV RX11 273 RX1 yX1_set wsX1_set) := goodIn_app (goodIn_of _ (by decide +kernel)) ggX11_plan_X1_set
theorem dX11_plan_0 : decode cX11_plan 0 = .ok (.iload_n 1, 1) := by decide +kernel
theorem dX11_plan_1 : decode cX11_plan 1 = .ok (.iload_n 2, 1) := by decide +kernel
theorem dX11_plan_2 : decode cX11_plan 2 = .ok (.iload_n 3, 1) := by decide +kernel
theorem dX11_plan_3 : decode cX11_plan 3 = .ok (.invokestatic 267, 3) := by decide +kernel
theorem dX11_plan_6 : decode cX11_plan 6 = .ok (.ifCond .ne 11, 3) := by decide +kernel
theorem dX11_plan_9 : decode cX11_plan 9 = .ok (.aload_n 0, 1) := by decide +kernel
theorem dX11_plan_10 : decode cX11_plan 10 = .ok (.ldc2_w 94, 3) := by decide +kernel
theorem dX11_plan_13 : decode cX11_plan 13 = .ok (.invokevirtual 75, 3) := by decide +kernel
theorem dX11_plan_16 : decode cX11_plan 16 = .ok (.lreturn, 1) := by decide +kernel
theorem dX11_plan_17 : decode cX11_plan 17 = .ok (.aload_n 0, 1) := by decide +kernel
theorem dX11_plan_18 : decode cX11_plan 18 = .ok (.iload_n 1, 1) := by decide +kernel
theorem dX11_plan_19 : decode cX11_plan 19 = .ok (.iload_n 2, 1) := by decide +kernel
theorem dX11_plan_20 : decode cX11_plan 20 = .ok (.iload_n 3, 1) := by decide +kernel
theorem dX11_plan_21 : decode cX11_plan 21 = .ok (.invokevirtual 270, 3) := by decide +kernel
theorem dX11_plan_24 : decode cX11_plan 24 = .ok (.aload_n 0, 1) := by decide +kernel
theorem dX11_plan_25 : decode cX11_plan 25 = .ok (.getfield 51, 3) := by decide +kernel
theorem dX11_plan_28 : decode cX11_plan 28 = .ok (.invokevirtual 273, 3) := by decide +kernel
theorem dX11_plan_31 : decode cX11_plan 31 = .ok (.i2l, 1) := by decide +kernel
theorem dX11_plan_32 : decode cX11_plan 32 = .ok (.lreturn, 1) := by decide +kernel
set_option maxRecDepth 20000 in
theorem ggX11_brings_X11_isFlight : GoodIn wsX11_brings wsX11_isFlight := goodIn_r _ [6, 7, 8, 5, 9, 10, 11, 12] (by decide +kernel) (by decide +kernel)
set_option maxRecDepth 20000 in
theorem gX11_brings_X11_isFlight : GoodIn wsX11_brings (va_wsS RX11 267 yX11_isFlight wsX11_isFlight) := goodIn_app (goodIn_of _ (by decide +kernel)) ggX11_brings_X11_isFlight
set_option maxRecDepth 20000 in
theorem ggX11_brings_X11_told : GoodIn wsX11_brings wsX11_told := goodIn_r _ [16, 17, 18, 81, 82, 83, 84, 85, 86, 87, 88, 89, 90, 91, 92, 93] (by decide +kernel) (by decide +kernel)
set_option maxRecDepth 20000 in
theorem gX11_brings_X11_told : GoodIn wsX11_brings (wsV RX11 75 RX11 yX11_told wsX11_told) := goodIn_app (goodIn_of _ (by decide +kernel)) ggX11_brings_X11_told
set_option maxRecDepth 20000 in
theorem ggX11_brings_X11_choose : GoodIn wsX11_brings wsX11_choose := goodIn_r _ [22, 2, 23, 24, 25, 26, 27, 28, 29, 30, 31, 32, 33, 34, 35, 36, 37, 38, 39, 40, 41, 42, 43, 44, 45, 46, 47, 48, 49, 50, 11, 5, 12, 7, 8, 9, 51, 52, 53, 54, 55, 56, 57, 58, 59, 60, 61, 62, 63, 64, 65, 66, 67, 68, 69, 70, 71, 72, 73, 74, 75, 76, 81, 82, 83, 84, 85, 86, 87, 88, 89, 90, 91, 92, 93, 94, 95, 96, 97, 98, 99, 100, 101, 102, 103, 104, 105, 106, 107, 108, 109] (by decide +kernel) (by decide +kernel)
set_option maxRecDepth 20000 in
theorem gX11_brings_X11_choose : GoodIn wsX11_brings (wsV RX11 270 RX11 yX11_choose wsX11_choose) := goodIn_app (goodIn_of _ (by decide +kernel)) ggX11_brings_X11_choose
set_option maxRecDepth 20000 in
theorem ggX11_brings_X1_gain : GoodIn wsX11_brings wsX1_gain := goodIn_r _ [80, 67, 94, 95, 96, 97, 98] (by decide +kernel) (by decide +kernel)
set_option maxRecDepth 20000 in
theorem gX11_brings_X1_gain : GoodIn wsX11_brings (wsV RX11 276 RX1 yX1_gain wsX1_gain) := goodIn_app (goodIn_of _ (by decide +kernel)) ggX11_brings_X1_gain
theorem dX11_brings_0 : decode cX11_brings 0 = .ok (.iload_n 1, 1) := by decide +kernel
theorem dX11_brings_1 : decode cX11_brings 1 = .ok (.iload_n 2, 1) := by decide +kernel
theorem dX11_brings_2 : decode cX11_brings 2 = .ok (.iload_n 3, 1) := by decide +kernel
theorem dX11_brings_3 : decode cX11_brings 3 = .ok (.invokestatic 267, 3) := by decide +kernel
theorem dX11_brings_6 : decode cX11_brings 6 = .ok (.ifCond .ne 11, 3) := by decide +kernel
theorem dX11_brings_9 : decode cX11_brings 9 = .ok (.aload_n 0, 1) := by decide +kernel
theorem dX11_brings_10 : decode cX11_brings 10 = .ok (.ldc2_w 94, 3) := by decide +kernel
theorem dX11_brings_13 : decode cX11_brings 13 = .ok (.invokevirtual 75, 3) := by decide +kernel
theorem dX11_brings_16 : decode cX11_brings 16 = .ok (.lreturn, 1) := by decide +kernel
theorem dX11_brings_17 : decode cX11_brings 17 = .ok (.aload_n 0, 1) := by decide +kernel
theorem dX11_brings_18 : decode cX11_brings 18 = .ok (.iload_n 1, 1) := by decide +kernel
theorem dX11_brings_19 : decode cX11_brings 19 = .ok (.iload_n 2, 1) := by decide +kernel
theorem dX11_brings_20 : decode cX11_brings 20 = .ok (.iload_n 3, 1) := by decide +kernel
theorem dX11_brings_21 : decode cX11_brings 21 = .ok (.invokevirtual 270, 3) := by decide +kernel
theorem dX11_brings_24 : decode cX11_brings 24 = .ok (.aload_n 0, 1) := by decide +kernel
theorem dX11_brings_25 : decode cX11_brings 25 = .ok (.getfield 51, 3) := by decide +kernel
theorem dX11_brings_28 : decode cX11_brings 28 = .ok (.invokevirtual 276, 3) := by decide +kernel
theorem dX11_brings_31 : decode cX11_brings 31 = .ok (.lreturn, 1) := by decide +kernel
set_option maxRecDepth 20000 in
theorem ggX11_sheet_X11_sheetAt : GoodIn wsX11_sheet wsX11_sheetAt := goodIn_r _ [7, 8, 34, 35, 36, 37, 38, 39, 40, 41, 42, 43, 44, 45, 46] (by decide +kernel) (by decide +kernel)
set_option maxRecDepth 20000 in
theorem gX11_sheet_X11_sheetAt : GoodIn wsX11_sheet (wsV RX11 279 RX11 yX11_sheetAt wsX11_sheetAt) := goodIn_app (goodIn_of _ (by decide +kernel)) ggX11_sheet_X11_sheetAt
set_option maxRecDepth 20000 in
theorem ggX11_sheet_X11_isWidth : GoodIn wsX11_sheet wsX11_isWidth := goodIn_r _ [11] (by decide +kernel) (by decide +kernel)
set_option maxRecDepth 20000 in
theorem gX11_sheet_X11_isWidth : GoodIn wsX11_sheet (va_wsS RX11 283 yX11_isWidth wsX11_isWidth) := goodIn_app (goodIn_of _ (by decide +kernel)) ggX11_sheet_X11_isWidth
set_option maxRecDepth 20000 in
theorem ggX11_sheet_X11_told : GoodIn wsX11_sheet wsX11_told := goodIn_r _ [15, 16, 17, 34, 35, 36, 37, 38, 39, 40, 41, 42, 43, 44, 45, 46] (by decide +kernel) (by decide +kernel)
set_option maxRecDepth 20000 in
theorem gX11_sheet_X11_told : GoodIn wsX11_sheet (wsV RX11 75 RX11 yX11_told wsX11_told) := goodIn_app (goodIn_of _ (by decide +kernel)) ggX11_sheet_X11_told
set_option maxRecDepth 20000 in
theorem ggX11_sheet_X8_become : GoodIn wsX11_sheet wsX8_become := goodIn_r _ [22, 23, 24, 25, 26, 27, 28, 29, 47, 48, 49] (by decide +kernel) (by decide +kernel)
set_option maxRecDepth 20000 in
theorem gX11_sheet_X8_become : GoodIn wsX11_sheet (wsV RX11 288 RX8 yX8_become wsX8_become) := goodIn_app (goodIn_of _ (by decide +kernel)) ggX11_sheet_X8_become
set_option maxRecDepth 20000 in
theorem ggX11_sheet_X8_size : GoodIn wsX11_sheet wsX8_size := goodIn_r _ [33, 24, 47, 48, 49] (by decide +kernel) (by decide +kernel)
set_option maxRecDepth 20000 in
theorem gX11_sheet_X8_size : GoodIn wsX11_sheet (wsV RX11 292 RX8 yX8_size wsX8_size) := goodIn_app (goodIn_of _ (by decide +kernel)) ggX11_sheet_X8_size
theorem dX11_sheet_0 : decode cX11_sheet 0 = .ok (.aload_n 0, 1) := by decide +kernel
theorem dX11_sheet_1 : decode cX11_sheet 1 = .ok (.iload_n 1, 1) := by decide +kernel
theorem dX11_sheet_2 : decode cX11_sheet 2 = .ok (.invokevirtual 279, 3) := by decide +kernel
theorem dX11_sheet_5 : decode cX11_sheet 5 = .ok (.astore 4, 2) := by decide +kernel
theorem dX11_sheet_7 : decode cX11_sheet 7 = .ok (.aload 4, 2) := by decide +kernel
theorem dX11_sheet_9 : decode cX11_sheet 9 = .ok (.ifnull 10, 3) := by decide +kernel
theorem dX11_sheet_12 : decode cX11_sheet 12 = .ok (.iload_n 2, 1) := by decide +kernel
theorem dX11_sheet_13 : decode cX11_sheet 13 = .ok (.invokestatic 283, 3) := by decide +kernel
theorem dX11_sheet_16 : decode cX11_sheet 16 = .ok (.ifCond .ne 11, 3) := by decide +kernel
theorem dX11_sheet_19 : decode cX11_sheet 19 = .ok (.aload_n 0, 1) := by decide +kernel
theorem dX11_sheet_20 : decode cX11_sheet 20 = .ok (.ldc2_w 94, 3) := by decide +kernel
theorem dX11_sheet_23 : decode cX11_sheet 23 = .ok (.invokevirtual 75, 3) := by decide +kernel
theorem dX11_sheet_26 : decode cX11_sheet 26 = .ok (.lreturn, 1) := by decide +kernel
theorem dX11_sheet_27 : decode cX11_sheet 27 = .ok (.iload_n 3, 1) := by decide +kernel
theorem dX11_sheet_28 : decode cX11_sheet 28 = .ok (.ifCond .ge 11, 3) := by decide +kernel
theorem dX11_sheet_31 : decode cX11_sheet 31 = .ok (.aload_n 0, 1) := by decide +kernel
theorem dX11_sheet_32 : decode cX11_sheet 32 = .ok (.ldc2_w 286, 3) := by decide +kernel
theorem dX11_sheet_35 : decode cX11_sheet 35 = .ok (.invokevirtual 75, 3) := by decide +kernel
theorem dX11_sheet_38 : decode cX11_sheet 38 = .ok (.lreturn, 1) := by decide +kernel
theorem dX11_sheet_39 : decode cX11_sheet 39 = .ok (.iload_n 3, 1) := by decide +kernel
theorem dX11_sheet_40 : decode cX11_sheet 40 = .ok (.bipush 16, 2) := by decide +kernel
theorem dX11_sheet_42 : decode cX11_sheet 42 = .ok (.if_icmp .le 11, 3) := by decide +kernel
theorem dX11_sheet_45 : decode cX11_sheet 45 = .ok (.aload_n 0, 1) := by decide +kernel
theorem dX11_sheet_46 : decode cX11_sheet 46 = .ok (.ldc2_w 94, 3) := by decide +kernel
theorem dX11_sheet_49 : decode cX11_sheet 49 = .ok (.invokevirtual 75, 3) := by decide +kernel
theorem dX11_sheet_52 : decode cX11_sheet 52 = .ok (.lreturn, 1) := by decide +kernel
theorem dX11_sheet_53 : decode cX11_sheet 53 = .ok (.aload 4, 2) := by decide +kernel
theorem dX11_sheet_55 : decode cX11_sheet 55 = .ok (.iload_n 2, 1) := by decide +kernel
theorem dX11_sheet_56 : decode cX11_sheet 56 = .ok (.iload_n 3, 1) := by decide +kernel
theorem dX11_sheet_57 : decode cX11_sheet 57 = .ok (.invokevirtual 288, 3) := by decide +kernel
theorem dX11_sheet_60 : decode cX11_sheet 60 = .ok (.aload 4, 2) := by decide +kernel
theorem dX11_sheet_62 : decode cX11_sheet 62 = .ok (.invokevirtual 292, 3) := by decide +kernel
theorem dX11_sheet_65 : decode cX11_sheet 65 = .ok (.i2l, 1) := by decide +kernel
theorem dX11_sheet_66 : decode cX11_sheet 66 = .ok (.lreturn, 1) := by decide +kernel
set_option maxRecDepth 20000 in
theorem ggX11_put_X11_sheetAt : GoodIn wsX11_put wsX11_sheetAt := goodIn_r _ [7, 8, 31, 32, 33, 34, 35, 36, 37, 38, 39, 40, 41, 42, 43] (by decide +kernel) (by decide +kernel)
set_option maxRecDepth 20000 in
theorem gX11_put_X11_sheetAt : GoodIn wsX11_put (wsV RX11 279 RX11 yX11_sheetAt wsX11_sheetAt) := goodIn_app (goodIn_of _ (by decide +kernel)) ggX11_put_X11_sheetAt
set_option maxRecDepth 20000 in
theorem ggX11_put_X11_told : GoodIn wsX11_put wsX11_told := goodIn_r _ [12, 13, 14, 31, 32, 33, 34, 35, 36, 37, 38, 39, 40, 41, 42, 43] (by decide +kernel) (by decide +kernel)
set_option maxRecDepth 20000 in
theorem gX11_put_X11_told : GoodIn wsX11_put (wsV RX11 75 RX11 yX11_told wsX11_told) := goodIn_app (goodIn_of _ (by decide +kernel)) ggX11_put_X11_told
set_option maxRecDepth 20000 in
theorem ggX11_put_X8_isMissing : GoodIn wsX11_put wsX8_isMissing := goodIn_r _ [19, 20, 44, 45, 46] (by decide +kernel) (by decide +kernel)
set_option maxRecDepth 20000 in
theorem gX11_put_X8_isMissing : GoodIn wsX11_put (wsV RX11 293 RX8 yX8_isMissing wsX8_isMissing) := goodIn_app (goodIn_of _ (by decide +kernel)) ggX11_put_X8_isMissing
set_option maxRecDepth 20000 in
theorem ggX11_put_X8_hasRun : GoodIn wsX11_put wsX8_hasRun := goodIn_r _ [24, 25, 44, 45, 46] (by decide +kernel) (by decide +kernel)
set_option maxRecDepth 20000 in
theorem gX11_put_X8_hasRun : GoodIn wsX11_put (wsV RX11 298 RX8 yX8_hasRun wsX8_hasRun) := goodIn_app (goodIn_of _ (by decide +kernel)) ggX11_put_X8_hasRun
set_option maxRecDepth 20000 in
theorem ggX11_put_X8_write : GoodIn wsX11_put wsX8_write := goodIn_r _ [29, 25, 30, 20, 44, 45, 46] (by decide +kernel) (by decide +kernel)
set_option maxRecDepth 20000 in
theorem gX11_put_X8_write : GoodIn wsX11_put (wsV RX11 301 RX8 yX8_write wsX8_write) := goodIn_app (goodIn_of _ (by decide +kernel)) ggX11_put_X8_write
theorem dX11_put_0 : decode cX11_put 0 = .ok (.aload_n 0, 1) := by decide +kernel
theorem dX11_put_1 : decode cX11_put 1 = .ok (.iload_n 1, 1) := by decide +kernel
theorem dX11_put_2 : decode cX11_put 2 = .ok (.invokevirtual 279, 3) := by decide +kernel
theorem dX11_put_5 : decode cX11_put 5 = .ok (.astore 4, 2) := by decide +kernel
theorem dX11_put_7 : decode cX11_put 7 = .ok (.aload 4, 2) := by decide +kernel
theorem dX11_put_9 : decode cX11_put 9 = .ok (.ifnonnull 11, 3) := by decide +kernel
theorem dX11_put_12 : decode cX11_put 12 = .ok (.aload_n 0, 1) := by decide +kernel
theorem dX11_put_13 : decode cX11_put 13 = .ok (.ldc2_w 94, 3) := by decide +kernel
theorem dX11_put_16 : decode cX11_put 16 = .ok (.invokevirtual 75, 3) := by decide +kernel
theorem dX11_put_19 : decode cX11_put 19 = .ok (.lreturn, 1) := by decide +kernel
theorem dX11_put_20 : decode cX11_put 20 = .ok (.aload 4, 2) := by decide +kernel
theorem dX11_put_22 : decode cX11_put 22 = .ok (.invokevirtual 293, 3) := by decide +kernel
theorem dX11_put_25 : decode cX11_put 25 = .ok (.ifCond .eq 11, 3) := by decide +kernel
theorem dX11_put_28 : decode cX11_put 28 = .ok (.aload_n 0, 1) := by decide +kernel
theorem dX11_put_29 : decode cX11_put 29 = .ok (.ldc2_w 296, 3) := by decide +kernel
theorem dX11_put_32 : decode cX11_put 32 = .ok (.invokevirtual 75, 3) := by decide +kernel
theorem dX11_put_35 : decode cX11_put 35 = .ok (.lreturn, 1) := by decide +kernel
theorem dX11_put_36 : decode cX11_put 36 = .ok (.aload 4, 2) := by decide +kernel
theorem dX11_put_38 : decode cX11_put 38 = .ok (.iload_n 2, 1) := by decide +kernel
theorem dX11_put_39 : decode cX11_put 39 = .ok (.iconst 1, 1) := by decide +kernel
theorem dX11_put_40 : decode cX11_put 40 = .ok (.invokevirtual 298, 3) := by decide +kernel
theorem dX11_put_43 : decode cX11_put 43 = .ok (.ifCond .ne 11, 3) := by decide +kernel
theorem dX11_put_46 : decode cX11_put 46 = .ok (.aload_n 0, 1) := by decide +kernel
theorem dX11_put_47 : decode cX11_put 47 = .ok (.ldc2_w 94, 3) := by decide +kernel
theorem dX11_put_50 : decode cX11_put 50 = .ok (.invokevirtual 75, 3) := by decide +kernel
theorem dX11_put_53 : decode cX11_put 53 = .ok (.lreturn, 1) := by decide +kernel
theorem dX11_put_54 : decode cX11_put 54 = .ok (.aload 4, 2) := by decide +kernel
theorem dX11_put_56 : decode cX11_put 56 = .ok (.iload_n 2, 1) := by decide +kernel
theorem dX11_put_57 : decode cX11_put 57 = .ok (.iload_n 3, 1) := by decide +kernel
theorem dX11_put_58 : decode cX11_put 58 = .ok (.invokevirtual 301, 3) := by decide +kernel
theorem dX11_put_61 : decode cX11_put 61 = .ok (.lconst 0, 1) := by decide +kernel
theorem dX11_put_62 : decode cX11_put 62 = .ok (.lreturn, 1) := by decide +kernel
set_option maxRecDepth 20000 in
theorem ggX11_copy_X11_sheetAt : GoodIn wsX11_copy wsX11_sheetAt := goodIn_r _ [8, 9, 41, 42, 43, 44, 45, 46, 47, 48, 49, 50, 51, 52, 53] (by decide +kernel) (by decide +kernel)
set_option maxRecDepth 20000 in
theorem gX11_copy_X11_sheetAt : GoodIn wsX11_copy (wsV RX11 279 RX11 yX11_sheetAt wsX11_sheetAt) := goodIn_app (goodIn_of _ (by decide +kernel)) ggX11_copy_X11_sheetAt
set_option maxRecDepth 20000 in
theorem ggX11_copy_X11_told : GoodIn wsX11_copy wsX11_told := goodIn_r _ [13, 14, 15, 41, 42, 43, 44, 45, 46, 47, 48, 49, 50, 51, 52, 53] (by decide +kernel) (by decide +kernel)
set_option maxRecDepth 20000 in
theorem gX11_copy_X11_told : GoodIn wsX11_copy (wsV RX11 75 RX11 yX11_told wsX11_told) := goodIn_app (goodIn_of _ (by decide +kernel)) ggX11_copy_X11_told
set_option maxRecDepth 20000 in
theorem ggX11_copy_X8_isMissing : GoodIn wsX11_copy wsX8_isMissing := goodIn_r _ [20, 21, 54, 55, 56] (by decide +kernel) (by decide +kernel)
set_option maxRecDepth 20000 in
theorem gX11_copy_X8_isMissing : GoodIn wsX11_copy (wsV RX11 293 RX8 yX8_isMissing wsX8_isMissing) := goodIn_app (goodIn_of _ (by decide +kernel)) ggX11_copy_X8_isMissing
set_option maxRecDepth 20000 in
theorem ggX11_copy_X8_bits : GoodIn wsX11_copy wsX8_bits := goodIn_r _ [25, 21, 54, 55, 56] (by decide +kernel) (by decide +kernel)
set_option maxRecDepth 20000 in
theorem gX11_copy_X8_bits : GoodIn wsX11_copy (wsV RX11 304 RX8 yX8_bits wsX8_bits) := goodIn_app (goodIn_of _ (by decide +kernel)) ggX11_copy_X8_bits
set_option maxRecDepth 20000 in
theorem ggX11_copy_X8_hasRun : GoodIn wsX11_copy wsX8_hasRun := goodIn_r _ [29, 30, 54, 55, 56] (by decide +kernel) (by decide +kernel)
set_option maxRecDepth 20000 in
theorem gX11_copy_X8_hasRun : GoodIn wsX11_copy (wsV RX11 298 RX8 yX8_hasRun wsX8_hasRun) := goodIn_app (goodIn_of _ (by decide +kernel)) ggX11_copy_X8_hasRun
set_option maxRecDepth 20000 in
theorem ggX11_copy_X8_take : GoodIn wsX11_copy wsX8_take := goodIn_r _ [34, 35, 36, 37, 38, 39, 40, 27, 28, 19, 29, 30, 54, 55, 56] (by decide +kernel) (by decide +kernel)
set_option maxRecDepth 20000 in
theorem gX11_copy_X8_take : GoodIn wsX11_copy (wsV RX11 307 RX8 yX8_take wsX8_take) := goodIn_app (goodIn_of _ (by decide +kernel)) ggX11_copy_X8_take
theorem dX11_copy_0 : decode cX11_copy 0 = .ok (.aload_n 0, 1) := by decide +kernel
theorem dX11_copy_1 : decode cX11_copy 1 = .ok (.iload_n 1, 1) := by decide +kernel
theorem dX11_copy_2 : decode cX11_copy 2 = .ok (.invokevirtual 279, 3) := by decide +kernel
theorem dX11_copy_5 : decode cX11_copy 5 = .ok (.astore 6, 2) := by decide +kernel
theorem dX11_copy_7 : decode cX11_copy 7 = .ok (.aload_n 0, 1) := by decide +kernel
theorem dX11_copy_8 : decode cX11_copy 8 = .ok (.iload_n 3, 1) := by decide +kernel
theorem dX11_copy_9 : decode cX11_copy 9 = .ok (.invokevirtual 279, 3) := by decide +kernel
theorem dX11_copy_12 : decode cX11_copy 12 = .ok (.astore 7, 2) := by decide +kernel
theorem dX11_copy_14 : decode cX11_copy 14 = .ok (.aload 6, 2) := by decide +kernel
theorem dX11_copy_16 : decode cX11_copy 16 = .ok (.ifnull 8, 3) := by decide +kernel
theorem dX11_copy_19 : decode cX11_copy 19 = .ok (.aload 7, 2) := by decide +kernel
theorem dX11_copy_21 : decode cX11_copy 21 = .ok (.ifnonnull 11, 3) := by decide +kernel
theorem dX11_copy_24 : decode cX11_copy 24 = .ok (.aload_n 0, 1) := by decide +kernel
theorem dX11_copy_25 : decode cX11_copy 25 = .ok (.ldc2_w 94, 3) := by decide +kernel
theorem dX11_copy_28 : decode cX11_copy 28 = .ok (.invokevirtual 75, 3) := by decide +kernel
theorem dX11_copy_31 : decode cX11_copy 31 = .ok (.lreturn, 1) := by decide +kernel
theorem dX11_copy_32 : decode cX11_copy 32 = .ok (.aload 6, 2) := by decide +kernel
theorem dX11_copy_34 : decode cX11_copy 34 = .ok (.invokevirtual 293, 3) := by decide +kernel
theorem dX11_copy_37 : decode cX11_copy 37 = .ok (.ifCond .ne 11, 3) := by decide +kernel
theorem dX11_copy_40 : decode cX11_copy 40 = .ok (.aload 7, 2) := by decide +kernel
theorem dX11_copy_42 : decode cX11_copy 42 = .ok (.invokevirtual 293, 3) := by decide +kernel
theorem dX11_copy_45 : decode cX11_copy 45 = .ok (.ifCond .eq 11, 3) := by decide +kernel
theorem dX11_copy_48 : decode cX11_copy 48 = .ok (.aload_n 0, 1) := by decide +kernel
theorem dX11_copy_49 : decode cX11_copy 49 = .ok (.ldc2_w 296, 3) := by decide +kernel
theorem dX11_copy_52 : decode cX11_copy 52 = .ok (.invokevirtual 75, 3) := by decide +kernel
theorem dX11_copy_55 : decode cX11_copy 55 = .ok (.lreturn, 1) := by decide +kernel
theorem dX11_copy_56 : decode cX11_copy 56 = .ok (.aload 6, 2) := by decide +kernel
theorem dX11_copy_58 : decode cX11_copy 58 = .ok (.invokevirtual 304, 3) := by decide +kernel
theorem dX11_copy_61 : decode cX11_copy 61 = .ok (.aload 7, 2) := by decide +kernel
theorem dX11_copy_63 : decode cX11_copy 63 = .ok (.invokevirtual 304, 3) := by decide +kernel
theorem dX11_copy_66 : decode cX11_copy 66 = .ok (.if_icmp .eq 11, 3) := by decide +kernel
theorem dX11_copy_69 : decode cX11_copy 69 = .ok (.aload_n 0, 1) := by decide +kernel
theorem dX11_copy_70 : decode cX11_copy 70 = .ok (.ldc2_w 171, 3) := by decide +kernel
theorem dX11_copy_73 : decode cX11_copy 73 = .ok (.invokevirtual 75, 3) := by decide +kernel
theorem dX11_copy_76 : decode cX11_copy 76 = .ok (.lreturn, 1) := by decide +kernel
theorem dX11_copy_77 : decode cX11_copy 77 = .ok (.aload 6, 2) := by decide +kernel
theorem dX11_copy_79 : decode cX11_copy 79 = .ok (.iload_n 2, 1) := by decide +kernel
theorem dX11_copy_80 : decode cX11_copy 80 = .ok (.iload 5, 2) := by decide +kernel
theorem dX11_copy_82 : decode cX11_copy 82 = .ok (.invokevirtual 298, 3) := by decide +kernel
theorem dX11_copy_85 : decode cX11_copy 85 = .ok (.ifCond .eq 15, 3) := by decide +kernel
theorem dX11_copy_88 : decode cX11_copy 88 = .ok (.aload 7, 2) := by decide +kernel
theorem dX11_copy_90 : decode cX11_copy 90 = .ok (.iload 4, 2) := by decide +kernel
theorem dX11_copy_92 : decode cX11_copy 92 = .ok (.iload 5, 2) := by decide +kernel
theorem dX11_copy_94 : decode cX11_copy 94 = .ok (.invokevirtual 298, 3) := by decide +kernel
theorem dX11_copy_97 : decode cX11_copy 97 = .ok (.ifCond .ne 11, 3) := by decide +kernel
theorem dX11_copy_100 : decode cX11_copy 100 = .ok (.aload_n 0, 1) := by decide +kernel
theorem dX11_copy_101 : decode cX11_copy 101 = .ok (.ldc2_w 94, 3) := by decide +kernel
theorem dX11_copy_104 : decode cX11_copy 104 = .ok (.invokevirtual 75, 3) := by decide +kernel
theorem dX11_copy_107 : decode cX11_copy 107 = .ok (.lreturn, 1) := by decide +kernel
theorem dX11_copy_108 : decode cX11_copy 108 = .ok (.aload 7, 2) := by decide +kernel
theorem dX11_copy_110 : decode cX11_copy 110 = .ok (.aload 6, 2) := by decide +kernel
theorem dX11_copy_112 : decode cX11_copy 112 = .ok (.iload_n 2, 1) := by decide +kernel
theorem dX11_copy_113 : decode cX11_copy 113 = .ok (.iload 4, 2) := by decide +kernel
theorem dX11_copy_115 : decode cX11_copy 115 = .ok (.iload 5, 2) := by decide +kernel
theorem dX11_copy_117 : decode cX11_copy 117 = .ok (.invokevirtual 307, 3) := by decide +kernel
theorem dX11_copy_120 : decode cX11_copy 120 = .ok (.iload 5, 2) := by decide +kernel
theorem dX11_copy_122 : decode cX11_copy 122 = .ok (.i2l, 1) := by decide +kernel
theorem dX11_copy_123 : decode cX11_copy 123 = .ok (.lreturn, 1) := by decide +kernel
set_option maxRecDepth 20000 in
theorem ggX11_text_X11_sheetAt : GoodIn wsX11_text wsX11_sheetAt := goodIn_r _ [10, 11, 74, 75, 76, 77, 78, 79, 80, 81, 82, 83, 84, 85, 86] (by decide +kernel) (by decide +kernel)
set_option maxRecDepth 20000 in
theorem gX11_text_X11_sheetAt : GoodIn wsX11_text (wsV RX11 279 RX11 yX11_sheetAt wsX11_sheetAt) := goodIn_app (goodIn_of _ (by decide +kernel)) ggX11_text_X11_sheetAt
set_option maxRecDepth 20000 in
theorem ggX11_text_X11_told : GoodIn wsX11_text wsX11_told := goodIn_r _ [15, 16, 17, 74, 75, 76, 77, 78, 79, 80, 81, 82, 83, 84, 85, 86] (by decide +kernel) (by decide +kernel)
set_option maxRecDepth 20000 in
theorem gX11_text_X11_told : GoodIn wsX11_text (wsV RX11 75 RX11 yX11_told wsX11_told) := goodIn_app (goodIn_of _ (by decide +kernel)) ggX11_text_X11_told
set_option maxRecDepth 20000 in
theorem ggX11_text_X8_isMissing : GoodIn wsX11_text wsX8_isMissing := goodIn_r _ [22, 23, 87, 88, 89] (by decide +kernel) (by decide +kernel)
set_option maxRecDepth 20000 in
theorem gX11_text_X8_isMissing : GoodIn wsX11_text (wsV RX11 293 RX8 yX8_isMissing wsX8_isMissing) := goodIn_app (goodIn_of _ (by decide +kernel)) ggX11_text_X8_isMissing
set_option maxRecDepth 20000 in
theorem ggX11_text_X8_size : GoodIn wsX11_text wsX8_size := goodIn_r _ [27, 28, 87, 88, 89] (by decide +kernel) (by decide +kernel)
set_option maxRecDepth 20000 in
theorem gX11_text_X8_size : GoodIn wsX11_text (wsV RX11 292 RX8 yX8_size wsX8_size) := goodIn_app (goodIn_of _ (by decide +kernel)) ggX11_text_X8_size
set_option maxRecDepth 20000 in
theorem ggX11_text_X8_holdsSigns : GoodIn wsX11_text wsX8_holdsSigns := goodIn_r _ [32, 28, 33, 34, 9, 35, 36, 37, 38, 87, 88, 89] (by decide +kernel) (by decide +kernel)
set_option maxRecDepth 20000 in
theorem gX11_text_X8_holdsSigns : GoodIn wsX11_text (wsV RX11 311 RX8 yX8_holdsSigns wsX8_holdsSigns) := goodIn_app (goodIn_of _ (by decide +kernel)) ggX11_text_X8_holdsSigns
set_option maxRecDepth 20000 in
theorem ggX11_text_X2_size : GoodIn wsX11_text wsX2_size := goodIn_r _ [43, 44, 90, 91, 92] (by decide +kernel) (by decide +kernel)
set_option maxRecDepth 20000 in
theorem gX11_text_X2_size : GoodIn wsX11_text (wsV RX11 206 RX2 yX2_size wsX2_size) := goodIn_app (goodIn_of _ (by decide +kernel)) ggX11_text_X2_size
set_option maxRecDepth 20000 in
theorem ggX11_text_X6_keep : GoodIn wsX11_text wsX6_keep := goodIn_r _ [49, 50, 51, 52, 53, 54, 55, 56, 93, 94, 95, 96, 97, 98] (by decide +kernel) (by decide +kernel)
set_option maxRecDepth 20000 in
theorem gX11_text_X6_keep : GoodIn wsX11_text (wsV RX11 79 RX6 yX6_keep wsX6_keep) := goodIn_app (goodIn_of _ (by decide +kernel)) ggX11_text_X6_keep
set_option maxRecDepth 20000 in
theorem ggX11_text_X2_saveTo : GoodIn wsX11_text wsX2_saveTo := goodIn_r _ [60, 61, 44, 62, 63, 64, 65, 90, 91, 92, 96, 97, 98] (by decide +kernel) (by decide +kernel)
set_option maxRecDepth 20000 in
theorem gX11_text_X2_saveTo : GoodIn wsX11_text (wsV RX11 210 RX2 yX2_saveTo wsX2_saveTo) := goodIn_app (goodIn_of _ (by decide +kernel)) ggX11_text_X2_saveTo
set_option maxRecDepth 20000 in
theorem ggX11_text_X2_become : GoodIn wsX11_text wsX2_become := goodIn_r _ [69, 70, 54, 55, 56, 71, 72, 73, 44, 61, 62, 63, 64, 65, 90, 91, 92] (by decide +kernel) (by decide +kernel)
set_option maxRecDepth 20000 in
theorem gX11_text_X2_become : GoodIn wsX11_text (wsV RX11 318 RX2 yX2_become wsX2_become) := goodIn_app (goodIn_of _ (by decide +kernel)) ggX11_text_X2_become
theorem dX11_text_0 : decode cX11_text 0 = .ok (.aload_n 0, 1) := by decide +kernel
theorem dX11_text_1 : decode cX11_text 1 = .ok (.iload_n 1, 1) := by decide +kernel
theorem dX11_text_2 : decode cX11_text 2 = .ok (.invokevirtual 279, 3) := by decide +kernel
theorem dX11_text_5 : decode cX11_text 5 = .ok (.astore_n 2, 1) := by decide +kernel
theorem dX11_text_6 : decode cX11_text 6 = .ok (.aload_n 2, 1) := by decide +kernel
theorem dX11_text_7 : decode cX11_text 7 = .ok (.ifnonnull 11, 3) := by decide +kernel
theorem dX11_text_10 : decode cX11_text 10 = .ok (.aload_n 0, 1) := by decide +kernel
theorem dX11_text_11 : decode cX11_text 11 = .ok (.ldc2_w 94, 3) := by decide +kernel
theorem dX11_text_14 : decode cX11_text 14 = .ok (.invokevirtual 75, 3) := by decide +kernel
theorem dX11_text_17 : decode cX11_text 17 = .ok (.lreturn, 1) := by decide +kernel
theorem dX11_text_18 : decode cX11_text 18 = .ok (.aload_n 2, 1) := by decide +kernel
theorem dX11_text_19 : decode cX11_text 19 = .ok (.invokevirtual 293, 3) := by decide +kernel
theorem dX11_text_22 : decode cX11_text 22 = .ok (.ifCond .eq 11, 3) := by decide +kernel
theorem dX11_text_25 : decode cX11_text 25 = .ok (.aload_n 0, 1) := by decide +kernel
theorem dX11_text_26 : decode cX11_text 26 = .ok (.ldc2_w 296, 3) := by decide +kernel
theorem dX11_text_29 : decode cX11_text 29 = .ok (.invokevirtual 75, 3) := by decide +kernel
theorem dX11_text_32 : decode cX11_text 32 = .ok (.lreturn, 1) := by decide +kernel
theorem dX11_text_33 : decode cX11_text 33 = .ok (.aload_n 2, 1) := by decide +kernel
theorem dX11_text_34 : decode cX11_text 34 = .ok (.invokevirtual 292, 3) := by decide +kernel
theorem dX11_text_37 : decode cX11_text 37 = .ok (.bipush 12, 2) := by decide +kernel
theorem dX11_text_39 : decode cX11_text 39 = .ok (.if_icmp .le 11, 3) := by decide +kernel
theorem dX11_text_42 : decode cX11_text 42 = .ok (.aload_n 0, 1) := by decide +kernel
theorem dX11_text_43 : decode cX11_text 43 = .ok (.ldc2_w 286, 3) := by decide +kernel
theorem dX11_text_46 : decode cX11_text 46 = .ok (.invokevirtual 75, 3) := by decide +kernel
theorem dX11_text_49 : decode cX11_text 49 = .ok (.lreturn, 1) := by decide +kernel
theorem dX11_text_50 : decode cX11_text 50 = .ok (.aload_n 2, 1) := by decide +kernel
theorem dX11_text_51 : decode cX11_text 51 = .ok (.invokevirtual 311, 3) := by decide +kernel
theorem dX11_text_54 : decode cX11_text 54 = .ok (.ifCond .ne 11, 3) := by decide +kernel
theorem dX11_text_57 : decode cX11_text 57 = .ok (.aload_n 0, 1) := by decide +kernel
theorem dX11_text_58 : decode cX11_text 58 = .ok (.ldc2_w 94, 3) := by decide +kernel
theorem dX11_text_61 : decode cX11_text 61 = .ok (.invokevirtual 75, 3) := by decide +kernel
theorem dX11_text_64 : decode cX11_text 64 = .ok (.lreturn, 1) := by decide +kernel
theorem dX11_text_65 : decode cX11_text 65 = .ok (.aload_n 0, 1) := by decide +kernel
theorem dX11_text_66 : decode cX11_text 66 = .ok (.getfield 31, 3) := by decide +kernel
theorem dX11_text_69 : decode cX11_text 69 = .ok (.aload_n 0, 1) := by decide +kernel
theorem dX11_text_70 : decode cX11_text 70 = .ok (.getfield 64, 3) := by decide +kernel
theorem dX11_text_73 : decode cX11_text 73 = .ok (.iconst 5, 1) := by decide +kernel
theorem dX11_text_74 : decode cX11_text 74 = .ok (.aload_n 0, 1) := by decide +kernel
theorem dX11_text_75 : decode cX11_text 75 = .ok (.getfield 31, 3) := by decide +kernel
theorem dX11_text_78 : decode cX11_text 78 = .ok (.invokevirtual 206, 3) := by decide +kernel
theorem dX11_text_81 : decode cX11_text 81 = .ok (.invokevirtual 79, 3) := by decide +kernel
theorem dX11_text_84 : decode cX11_text 84 = .ok (.invokevirtual 210, 3) := by decide +kernel
theorem dX11_text_87 : decode cX11_text 87 = .ok (.aload_n 0, 1) := by decide +kernel
theorem dX11_text_88 : decode cX11_text 88 = .ok (.getfield 31, 3) := by decide +kernel
theorem dX11_text_91 : decode cX11_text 91 = .ok (.aload_n 2, 1) := by decide +kernel
theorem dX11_text_92 : decode cX11_text 92 = .ok (.getfield 314, 3) := by decide +kernel
theorem dX11_text_95 : decode cX11_text 95 = .ok (.aload_n 2, 1) := by decide +kernel
theorem dX11_text_96 : decode cX11_text 96 = .ok (.invokevirtual 292, 3) := by decide +kernel
theorem dX11_text_99 : decode cX11_text 99 = .ok (.invokevirtual 318, 3) := by decide +kernel
theorem dX11_text_102 : decode cX11_text 102 = .ok (.aload_n 0, 1) := by decide +kernel
theorem dX11_text_103 : decode cX11_text 103 = .ok (.getfield 31, 3) := by decide +kernel
theorem dX11_text_106 : decode cX11_text 106 = .ok (.invokevirtual 206, 3) := by decide +kernel
theorem dX11_text_109 : decode cX11_text 109 = .ok (.i2l, 1) := by decide +kernel
theorem dX11_text_110 : decode cX11_text 110 = .ok (.lreturn, 1) := by decide +kernel
set_option maxRecDepth 20000 in
theorem ggX11_undo_X6_takeLatest : GoodIn wsX11_undo wsX6_takeLatest := goodIn_r _ [7, 8, 9, 10, 163, 164, 165] (by decide +kernel) (by decide +kernel)
set_option maxRecDepth 20000 in
theorem gX11_undo_X6_takeLatest : GoodIn wsX11_undo (wsV RX11 321 RX6 yX6_takeLatest wsX6_takeLatest) := goodIn_app (goodIn_of _ (by decide +kernel)) ggX11_undo_X6_takeLatest
set_option maxRecDepth 20000 in
theorem ggX11_undo_X11_told : GoodIn wsX11_undo wsX11_told := goodIn_r _ [15, 16, 17, 150, 151, 152, 153, 154, 155, 156, 157, 158, 159, 160, 161, 162] (by decide +kernel) (by decide +kernel)
set_option maxRecDepth 20000 in
theorem gX11_undo_X11_told : GoodIn wsX11_undo (wsV RX11 75 RX11 yX11_told wsX11_told) := goodIn_app (goodIn_of _ (by decide +kernel)) ggX11_undo_X11_told
set_option maxRecDepth 20000 in
theorem ggX11_undo_X11_takeBack : GoodIn wsX11_undo wsX11_takeBack := goodIn_r _ [21, 22, 23, 24, 25, 26, 27, 28, 14, 29, 30, 31, 32, 33, 34, 35, 36, 37, 38, 39, 40, 41, 42, 43, 44, 45, 46, 47, 48, 49, 50, 51, 52, 53, 54, 55, 56, 57, 58, 59, 60, 61, 62, 63, 64, 65, 66, 67, 68, 69, 70, 71, 72, 73, 74, 75, 76, 77, 78, 79, 80, 81, 82, 83, 84, 85, 86, 87, 88, 89, 90, 91, 92, 93, 94, 95, 96, 97, 98, 99, 100, 101, 102, 103, 104, 105, 106, 107, 108, 109, 110, 111, 112, 113, 114, 115, 116, 117, 118, 119, 120, 121, 122, 123, 124, 125, 126, 127, 128, 129, 130, 131, 132, 133, 134, 135, 136, 137, 138, 139, 140, 141, 142, 143, 144, 145, 166, 167, 168, 150, 151, 152, 153, 154, 155, 156, 157, 158, 159, 160, 161, 162, 169, 170, 171, 172, 173, 174, 175, 176, 177, 178, 179, 180, 181, 182, 183, 184, 185, 186, 187, 188, 189, 190, 191, 192, 193] (by decide +kernel) (by decide +kernel)
set_option maxRecDepth 20000 in
theorem gX11_undo_X11_takeBack : GoodIn wsX11_undo (wsV RX11 325 RX11 yX11_takeBack wsX11_takeBack) := goodIn_app (goodIn_of _ (by decide +kernel)) ggX11_undo_X11_takeBack
set_option maxRecDepth 20000 in
theorem ggX11_undo_X6_kept : GoodIn wsX11_undo wsX6_kept := goodIn_r _ [149, 8, 163, 164, 165] (by decide +kernel) (by decide +kernel)
set_option maxRecDepth 20000 in
theorem gX11_undo_X6_kept : GoodIn wsX11_undo (wsV RX11 328 RX6 yX6_kept wsX6_kept) := goodIn_app (goodIn_of _ (by decide +kernel)) ggX11_undo_X6_kept
theorem dX11_undo_0 : decode cX11_undo 0 = .ok (.aload_n 0, 1) := by decide +kernel
theorem dX11_undo_1 : decode cX11_undo 1 = .ok (.getfield 64, 3) := by decide +kernel
theorem dX11_undo_4 : decode cX11_undo 4 = .ok (.invokevirtual 321, 3) := by decide +kernel
theorem dX11_undo_7 : decode cX11_undo 7 = .ok (.astore_n 1, 1) := by decide +kernel
theorem dX11_undo_8 : decode cX11_undo 8 = .ok (.aload_n 1, 1) := by decide +kernel
theorem dX11_undo_9 : decode cX11_undo 9 = .ok (.ifnonnull 11, 3) := by decide +kernel
theorem dX11_undo_12 : decode cX11_undo 12 = .ok (.aload_n 0, 1) := by decide +kernel
theorem dX11_undo_13 : decode cX11_undo 13 = .ok (.ldc2_w 104, 3) := by decide +kernel
theorem dX11_undo_16 : decode cX11_undo 16 = .ok (.invokevirtual 75, 3) := by decide +kernel
theorem dX11_undo_19 : decode cX11_undo 19 = .ok (.lreturn, 1) := by decide +kernel
theorem dX11_undo_20 : decode cX11_undo 20 = .ok (.aload_n 0, 1) := by decide +kernel
theorem dX11_undo_21 : decode cX11_undo 21 = .ok (.aload_n 1, 1) := by decide +kernel
theorem dX11_undo_22 : decode cX11_undo 22 = .ok (.invokevirtual 325, 3) := by decide +kernel
theorem dX11_undo_25 : decode cX11_undo 25 = .ok (.aload_n 0, 1) := by decide +kernel
theorem dX11_undo_26 : decode cX11_undo 26 = .ok (.getfield 64, 3) := by decide +kernel
theorem dX11_undo_29 : decode cX11_undo 29 = .ok (.invokevirtual 328, 3) := by decide +kernel
theorem dX11_undo_32 : decode cX11_undo 32 = .ok (.i2l, 1) := by decide +kernel
theorem dX11_undo_33 : decode cX11_undo 33 = .ok (.lreturn, 1) := by decide +kernel
set_option maxRecDepth 20000 in
theorem ggX11_all_X2_size : GoodIn wsX11_all wsX2_size := goodIn_r _ [11, 12, 32, 33, 34] (by decide +kernel) (by decide +kernel)
set_option maxRecDepth 20000 in
theorem gX11_all_X2_size : GoodIn wsX11_all (wsV RX11 206 RX2 yX2_size wsX2_size) := goodIn_app (goodIn_of _ (by decide +kernel)) ggX11_all_X2_size
set_option maxRecDepth 20000 in
theorem ggX11_all_X11_told : GoodIn wsX11_all wsX11_told := goodIn_r _ [17, 18, 5, 19, 20, 21, 22, 23, 24, 25, 26, 27, 28, 29, 30, 31] (by decide +kernel) (by decide +kernel)
set_option maxRecDepth 20000 in
theorem gX11_all_X11_told : GoodIn wsX11_all (wsV RX11 75 RX11 yX11_told wsX11_told) := goodIn_app (goodIn_of _ (by decide +kernel)) ggX11_all_X11_told
theorem dX11_all_0 : decode cX11_all 0 = .ok (.iload_n 1, 1) := by decide +kernel
theorem dX11_all_1 : decode cX11_all 1 = .ok (.tableswitch 67 0 4 #[35, 41, 47, 53, 62], 35) := by decide +kernel
theorem dX11_all_36 : decode cX11_all 36 = .ok (.aload_n 0, 1) := by decide +kernel
theorem dX11_all_37 : decode cX11_all 37 = .ok (.getfield 69, 3) := by decide +kernel
theorem dX11_all_40 : decode cX11_all 40 = .ok (.i2l, 1) := by decide +kernel
theorem dX11_all_41 : decode cX11_all 41 = .ok (.lreturn, 1) := by decide +kernel
theorem dX11_all_42 : decode cX11_all 42 = .ok (.aload_n 0, 1) := by decide +kernel
theorem dX11_all_43 : decode cX11_all 43 = .ok (.getfield 151, 3) := by decide +kernel
theorem dX11_all_46 : decode cX11_all 46 = .ok (.i2l, 1) := by decide +kernel
theorem dX11_all_47 : decode cX11_all 47 = .ok (.lreturn, 1) := by decide +kernel
theorem dX11_all_48 : decode cX11_all 48 = .ok (.aload_n 0, 1) := by decide +kernel
theorem dX11_all_49 : decode cX11_all 49 = .ok (.getfield 233, 3) := by decide +kernel
theorem dX11_all_52 : decode cX11_all 52 = .ok (.i2l, 1) := by decide +kernel
theorem dX11_all_53 : decode cX11_all 53 = .ok (.lreturn, 1) := by decide +kernel
theorem dX11_all_54 : decode cX11_all 54 = .ok (.aload_n 0, 1) := by decide +kernel
theorem dX11_all_55 : decode cX11_all 55 = .ok (.getfield 31, 3) := by decide +kernel
theorem dX11_all_58 : decode cX11_all 58 = .ok (.invokevirtual 206, 3) := by decide +kernel
theorem dX11_all_61 : decode cX11_all 61 = .ok (.i2l, 1) := by decide +kernel
theorem dX11_all_62 : decode cX11_all 62 = .ok (.lreturn, 1) := by decide +kernel
theorem dX11_all_63 : decode cX11_all 63 = .ok (.aload_n 0, 1) := by decide +kernel
theorem dX11_all_64 : decode cX11_all 64 = .ok (.getfield 331, 3) := by decide +kernel
theorem dX11_all_67 : decode cX11_all 67 = .ok (.lreturn, 1) := by decide +kernel
theorem dX11_all_68 : decode cX11_all 68 = .ok (.aload_n 0, 1) := by decide +kernel
theorem dX11_all_69 : decode cX11_all 69 = .ok (.ldc2_w 94, 3) := by decide +kernel
theorem dX11_all_72 : decode cX11_all 72 = .ok (.invokevirtual 75, 3) := by decide +kernel
theorem dX11_all_75 : decode cX11_all 75 = .ok (.lreturn, 1) := by decide +kernel
theorem dX11_told_0 : decode cX11_told 0 = .ok (.lload_n 1, 1) := by decide +kernel
theorem dX11_told_1 : decode cX11_told 1 = .ok (.ldc2_w 335, 3) := by decide +kernel
theorem dX11_told_4 : decode cX11_told 4 = .ok (.lcmp, 1) := by decide +kernel
theorem dX11_told_5 : decode cX11_told 5 = .ok (.ifCond .gt 13, 3) := by decide +kernel
theorem dX11_told_8 : decode cX11_told 8 = .ok (.aload_n 0, 1) := by decide +kernel
theorem dX11_told_9 : decode cX11_told 9 = .ok (.dup, 1) := by decide +kernel
theorem dX11_told_10 : decode cX11_told 10 = .ok (.getfield 331, 3) := by decide +kernel
theorem dX11_told_13 : decode cX11_told 13 = .ok (.lconst 1, 1) := by decide +kernel
theorem dX11_told_14 : decode cX11_told 14 = .ok (.ladd, 1) := by decide +kernel
theorem dX11_told_15 : decode cX11_told 15 = .ok (.putfield 331, 3) := by decide +kernel
theorem dX11_told_18 : decode cX11_told 18 = .ok (.lload_n 1, 1) := by decide +kernel
theorem dX11_told_19 : decode cX11_told 19 = .ok (.lreturn, 1) := by decide +kernel
theorem dX11_pictureAt_0 : decode cX11_pictureAt 0 = .ok (.iload_n 1, 1) := by decide +kernel
theorem dX11_pictureAt_1 : decode cX11_pictureAt 1 = .ok (.ifCond .lt 29, 3) := by decide +kernel
theorem dX11_pictureAt_4 : decode cX11_pictureAt 4 = .ok (.iload_n 1, 1) := by decide +kernel
theorem dX11_pictureAt_5 : decode cX11_pictureAt 5 = .ok (.aload_n 0, 1) := by decide +kernel
theorem dX11_pictureAt_6 : decode cX11_pictureAt 6 = .ok (.getfield 69, 3) := by decide +kernel
theorem dX11_pictureAt_9 : decode cX11_pictureAt 9 = .ok (.if_icmp .ge 21, 3) := by decide +kernel
theorem dX11_pictureAt_12 : decode cX11_pictureAt 12 = .ok (.iload_n 1, 1) := by decide +kernel
theorem dX11_pictureAt_13 : decode cX11_pictureAt 13 = .ok (.aload_n 0, 1) := by decide +kernel
theorem dX11_pictureAt_14 : decode cX11_pictureAt 14 = .ok (.getfield 11, 3) := by decide +kernel
theorem dX11_pictureAt_17 : decode cX11_pictureAt 17 = .ok (.arraylength, 1) := by decide +kernel
theorem dX11_pictureAt_18 : decode cX11_pictureAt 18 = .ok (.if_icmp .ge 12, 3) := by decide +kernel
theorem dX11_pictureAt_21 : decode cX11_pictureAt 21 = .ok (.aload_n 0, 1) := by decide +kernel
theorem dX11_pictureAt_22 : decode cX11_pictureAt 22 = .ok (.getfield 11, 3) := by decide +kernel
theorem dX11_pictureAt_25 : decode cX11_pictureAt 25 = .ok (.iload_n 1, 1) := by decide +kernel
theorem dX11_pictureAt_26 : decode cX11_pictureAt 26 = .ok (.aaload, 1) := by decide +kernel
theorem dX11_pictureAt_27 : decode cX11_pictureAt 27 = .ok (.goto 4, 3) := by decide +kernel
theorem dX11_pictureAt_30 : decode cX11_pictureAt 30 = .ok (.aconst_null, 1) := by decide +kernel
theorem dX11_pictureAt_31 : decode cX11_pictureAt 31 = .ok (.areturn, 1) := by decide +kernel
theorem dX11_markAt_0 : decode cX11_markAt 0 = .ok (.iload_n 1, 1) := by decide +kernel
theorem dX11_markAt_1 : decode cX11_markAt 1 = .ok (.ifCond .lt 29, 3) := by decide +kernel
theorem dX11_markAt_4 : decode cX11_markAt 4 = .ok (.iload_n 1, 1) := by decide +kernel
theorem dX11_markAt_5 : decode cX11_markAt 5 = .ok (.aload_n 0, 1) := by decide +kernel
theorem dX11_markAt_6 : decode cX11_markAt 6 = .ok (.getfield 151, 3) := by decide +kernel
theorem dX11_markAt_9 : decode cX11_markAt 9 = .ok (.if_icmp .ge 21, 3) := by decide +kernel
theorem dX11_markAt_12 : decode cX11_markAt 12 = .ok (.iload_n 1, 1) := by decide +kernel
theorem dX11_markAt_13 : decode cX11_markAt 13 = .ok (.aload_n 0, 1) := by decide +kernel
theorem dX11_markAt_14 : decode cX11_markAt 14 = .ok (.getfield 17, 3) := by decide +kernel
theorem dX11_markAt_17 : decode cX11_markAt 17 = .ok (.arraylength, 1) := by decide +kernel
theorem dX11_markAt_18 : decode cX11_markAt 18 = .ok (.if_icmp .ge 12, 3) := by decide +kernel
theorem dX11_markAt_21 : decode cX11_markAt 21 = .ok (.aload_n 0, 1) := by decide +kernel
theorem dX11_markAt_22 : decode cX11_markAt 22 = .ok (.getfield 17, 3) := by decide +kernel
theorem dX11_markAt_25 : decode cX11_markAt 25 = .ok (.iload_n 1, 1) := by decide +kernel
theorem dX11_markAt_26 : decode cX11_markAt 26 = .ok (.aaload, 1) := by decide +kernel
theorem dX11_markAt_27 : decode cX11_markAt 27 = .ok (.goto 4, 3) := by decide +kernel
theorem dX11_markAt_30 : decode cX11_markAt 30 = .ok (.aconst_null, 1) := by decide +kernel
theorem dX11_markAt_31 : decode cX11_markAt 31 = .ok (.areturn, 1) := by decide +kernel
theorem dX11_fieldAt_0 : decode cX11_fieldAt 0 = .ok (.iload_n 1, 1) := by decide +kernel
theorem dX11_fieldAt_1 : decode cX11_fieldAt 1 = .ok (.ifCond .lt 29, 3) := by decide +kernel
theorem dX11_fieldAt_4 : decode cX11_fieldAt 4 = .ok (.iload_n 1, 1) := by decide +kernel
theorem dX11_fieldAt_5 : decode cX11_fieldAt 5 = .ok (.aload_n 0, 1) := by decide +kernel
theorem dX11_fieldAt_6 : decode cX11_fieldAt 6 = .ok (.getfield 233, 3) := by decide +kernel
theorem dX11_fieldAt_9 : decode cX11_fieldAt 9 = .ok (.if_icmp .ge 21, 3) := by decide +kernel
theorem dX11_fieldAt_12 : decode cX11_fieldAt 12 = .ok (.iload_n 1, 1) := by decide +kernel
theorem dX11_fieldAt_13 : decode cX11_fieldAt 13 = .ok (.aload_n 0, 1) := by decide +kernel
theorem dX11_fieldAt_14 : decode cX11_fieldAt 14 = .ok (.getfield 37, 3) := by decide +kernel
theorem dX11_fieldAt_17 : decode cX11_fieldAt 17 = .ok (.arraylength, 1) := by decide +kernel
theorem dX11_fieldAt_18 : decode cX11_fieldAt 18 = .ok (.if_icmp .ge 12, 3) := by decide +kernel
theorem dX11_fieldAt_21 : decode cX11_fieldAt 21 = .ok (.aload_n 0, 1) := by decide +kernel
theorem dX11_fieldAt_22 : decode cX11_fieldAt 22 = .ok (.getfield 37, 3) := by decide +kernel
theorem dX11_fieldAt_25 : decode cX11_fieldAt 25 = .ok (.iload_n 1, 1) := by decide +kernel
theorem dX11_fieldAt_26 : decode cX11_fieldAt 26 = .ok (.aaload, 1) := by decide +kernel
theorem dX11_fieldAt_27 : decode cX11_fieldAt 27 = .ok (.goto 4, 3) := by decide +kernel
theorem dX11_fieldAt_30 : decode cX11_fieldAt 30 = .ok (.aconst_null, 1) := by decide +kernel
theorem dX11_fieldAt_31 : decode cX11_fieldAt 31 = .ok (.areturn, 1) := by decide +kernel
theorem dX11_sheetAt_0 : decode cX11_sheetAt 0 = .ok (.iload_n 1, 1) := by decide +kernel
theorem dX11_sheetAt_1 : decode cX11_sheetAt 1 = .ok (.ifCond .lt 21, 3) := by decide +kernel
theorem dX11_sheetAt_4 : decode cX11_sheetAt 4 = .ok (.iload_n 1, 1) := by decide +kernel
theorem dX11_sheetAt_5 : decode cX11_sheetAt 5 = .ok (.aload_n 0, 1) := by decide +kernel
theorem dX11_sheetAt_6 : decode cX11_sheetAt 6 = .ok (.getfield 57, 3) := by decide +kernel
theorem dX11_sheetAt_9 : decode cX11_sheetAt 9 = .ok (.arraylength, 1) := by decide +kernel
theorem dX11_sheetAt_10 : decode cX11_sheetAt 10 = .ok (.if_icmp .ge 12, 3) := by decide +kernel
theorem dX11_sheetAt_13 : decode cX11_sheetAt 13 = .ok (.aload_n 0, 1) := by decide +kernel
theorem dX11_sheetAt_14 : decode cX11_sheetAt 14 = .ok (.getfield 57, 3) := by decide +kernel
theorem dX11_sheetAt_17 : decode cX11_sheetAt 17 = .ok (.iload_n 1, 1) := by decide +kernel
theorem dX11_sheetAt_18 : decode cX11_sheetAt 18 = .ok (.aaload, 1) := by decide +kernel
theorem dX11_sheetAt_19 : decode cX11_sheetAt 19 = .ok (.goto 4, 3) := by decide +kernel
theorem dX11_sheetAt_22 : decode cX11_sheetAt 22 = .ok (.aconst_null, 1) := by decide +kernel
theorem dX11_sheetAt_23 : decode cX11_sheetAt 23 = .ok (.areturn, 1) := by decide +kernel
set_option maxRecDepth 20000 in
theorem ggX11_choose_X1_weighFields : GoodIn wsX11_choose wsX1_weighFields := goodIn_r _ [9, 10, 11, 12, 13, 14, 15, 16, 17, 18, 19, 20, 21, 22, 23, 24, 25, 26, 27, 28, 29, 30, 31, 32, 33, 34, 35, 36, 37, 38, 39, 40, 41, 42, 43, 44, 45, 46, 75, 76, 77, 78, 79, 80, 81, 82, 83, 84, 85, 86, 87, 88, 89, 90] (by decide +kernel) (by decide +kernel)
set_option maxRecDepth 20000 in
theorem gX11_choose_X1_weighFields : GoodIn wsX11_choose (wsV RX11 337 RX1 yX1_weighFields wsX1_weighFields) := goodIn_app (goodIn_of _ (by decide +kernel)) ggX11_choose_X1_weighFields
set_option maxRecDepth 20000 in
theorem ggX11_choose_X1_choose : GoodIn wsX11_choose wsX1_choose := goodIn_r _ [50, 51, 52, 53, 54, 55, 56, 57, 58, 59, 60, 8, 61, 10, 11, 75, 76, 77, 78, 79] (by decide +kernel) (by decide +kernel)
set_option maxRecDepth 20000 in
theorem gX11_choose_X1_choose : GoodIn wsX11_choose (wsV RX11 341 RX1 yX1_choose wsX1_choose) := goodIn_app (goodIn_of _ (by decide +kernel)) ggX11_choose_X1_choose
theorem dX11_choose_0 : decode cX11_choose 0 = .ok (.aload_n 0, 1) := by decide +kernel
theorem dX11_choose_1 : decode cX11_choose 1 = .ok (.getfield 51, 3) := by decide +kernel
theorem dX11_choose_4 : decode cX11_choose 4 = .ok (.aload_n 0, 1) := by decide +kernel
theorem dX11_choose_5 : decode cX11_choose 5 = .ok (.getfield 37, 3) := by decide +kernel
theorem dX11_choose_8 : decode cX11_choose 8 = .ok (.aload_n 0, 1) := by decide +kernel
theorem dX11_choose_9 : decode cX11_choose 9 = .ok (.getfield 233, 3) := by decide +kernel
theorem dX11_choose_12 : decode cX11_choose 12 = .ok (.aload_n 0, 1) := by decide +kernel
theorem dX11_choose_13 : decode cX11_choose 13 = .ok (.getfield 44, 3) := by decide +kernel
theorem dX11_choose_16 : decode cX11_choose 16 = .ok (.iload_n 2, 1) := by decide +kernel
theorem dX11_choose_17 : decode cX11_choose 17 = .ok (.iload_n 3, 1) := by decide +kernel
theorem dX11_choose_18 : decode cX11_choose 18 = .ok (.invokevirtual 337, 3) := by decide +kernel
theorem dX11_choose_21 : decode cX11_choose 21 = .ok (.aload_n 0, 1) := by decide +kernel
theorem dX11_choose_22 : decode cX11_choose 22 = .ok (.getfield 51, 3) := by decide +kernel
theorem dX11_choose_25 : decode cX11_choose 25 = .ok (.aload_n 0, 1) := by decide +kernel
theorem dX11_choose_26 : decode cX11_choose 26 = .ok (.getfield 233, 3) := by decide +kernel
theorem dX11_choose_29 : decode cX11_choose 29 = .ok (.iload_n 1, 1) := by decide +kernel
theorem dX11_choose_30 : decode cX11_choose 30 = .ok (.invokevirtual 341, 3) := by decide +kernel
theorem dX11_choose_33 : decode cX11_choose 33 = .ok (.return_, 1) := by decide +kernel
set_option maxRecDepth 20000 in
theorem ggX11_takeBack_X11_pictureAt : GoodIn wsX11_takeBack wsX11_pictureAt := goodIn_r _ [9, 1, 10, 129, 130, 131, 132, 133, 134, 135, 136, 137, 138, 139, 140, 141] (by decide +kernel) (by decide +kernel)
set_option maxRecDepth 20000 in
theorem gX11_takeBack_X11_pictureAt : GoodIn wsX11_takeBack (wsV RX11 86 RX11 yX11_pictureAt wsX11_pictureAt) := goodIn_app (goodIn_of _ (by decide +kernel)) ggX11_takeBack_X11_pictureAt
set_option maxRecDepth 20000 in
theorem ggX11_takeBack_X11_takeBackPlace : GoodIn wsX11_takeBack wsX11_takeBackPlace := goodIn_r _ [13, 14, 15, 16, 17, 18, 19, 20, 21, 22, 23, 24, 25, 26, 27, 28, 29, 30, 31, 32, 33, 34, 35, 36, 37, 38, 39, 40, 41, 42, 43, 44, 45, 46, 47, 48, 49, 50, 51, 52, 53, 54, 55, 56, 57, 58, 59, 60, 126, 127, 128, 142, 143, 144, 145, 146, 147, 148, 149, 150, 151, 152] (by decide +kernel) (by decide +kernel)
set_option maxRecDepth 20000 in
theorem gX11_takeBack_X11_takeBackPlace : GoodIn wsX11_takeBack (va_wsS RX11 351 yX11_takeBackPlace wsX11_takeBackPlace) := goodIn_app (goodIn_of _ (by decide +kernel)) ggX11_takeBack_X11_takeBackPlace
set_option maxRecDepth 20000 in
theorem ggX11_takeBack_X2_drop : GoodIn wsX11_takeBack wsX2_drop := goodIn_r _ [65, 66, 153, 154, 155] (by decide +kernel) (by decide +kernel)
set_option maxRecDepth 20000 in
theorem gX11_takeBack_X2_drop : GoodIn wsX11_takeBack (wsV RX11 355 RX2 yX2_drop wsX2_drop) := goodIn_app (goodIn_of _ (by decide +kernel)) ggX11_takeBack_X2_drop
set_option maxRecDepth 20000 in
theorem ggX11_takeBack_X2_become : GoodIn wsX11_takeBack wsX2_become := goodIn_r _ [70, 71, 72, 44, 73, 74, 75, 76, 66, 77, 78, 79, 80, 81, 153, 154, 155] (by decide +kernel) (by decide +kernel)
set_option maxRecDepth 20000 in
theorem gX11_takeBack_X2_become : GoodIn wsX11_takeBack (wsV RX11 318 RX2 yX2_become wsX2_become) := goodIn_app (goodIn_of _ (by decide +kernel)) ggX11_takeBack_X2_become
set_option maxRecDepth 20000 in
theorem ggX11_takeBack_X11_fieldAt : GoodIn wsX11_takeBack wsX11_fieldAt := goodIn_r _ [85, 4, 86, 129, 130, 131, 132, 133, 134, 135, 136, 137, 138, 139, 140, 141] (by decide +kernel) (by decide +kernel)
set_option maxRecDepth 20000 in
theorem gX11_takeBack_X11_fieldAt : GoodIn wsX11_takeBack (wsV RX11 239 RX11 yX11_fieldAt wsX11_fieldAt) := goodIn_app (goodIn_of _ (by decide +kernel)) ggX11_takeBack_X11_fieldAt
set_option maxRecDepth 20000 in
theorem ggX11_takeBack_X11_takeBackVisit : GoodIn wsX11_takeBack wsX11_takeBackVisit := goodIn_r _ [90, 91, 92, 93, 94, 95, 96, 97, 98, 99, 100, 101, 102, 103, 104, 105, 106, 107, 108, 109, 110, 111, 112, 113, 114, 115, 8, 116, 117, 118, 119, 120, 121, 122, 123, 124, 125, 126, 127, 128, 129, 130, 131, 132, 133, 134, 135, 136, 137, 138, 139, 140, 141, 156, 157, 158, 159, 160, 161, 162, 163, 164, 165, 166] (by decide +kernel) (by decide +kernel)
set_option maxRecDepth 20000 in
theorem gX11_takeBack_X11_takeBackVisit : GoodIn wsX11_takeBack (wsV RX11 361 RX11 yX11_takeBackVisit wsX11_takeBackVisit) := goodIn_app (goodIn_of _ (by decide +kernel)) ggX11_takeBack_X11_takeBackVisit
theorem dX11_takeBack_0 : decode cX11_takeBack 0 = .ok (.aload_n 1, 1) := by decide +kernel
theorem dX11_takeBack_1 : decode cX11_takeBack 1 = .ok (.getfield 343, 3) := by decide +kernel
theorem dX11_takeBack_4 : decode cX11_takeBack 4 = .ok (.tableswitch 126 0 6 #[44, 57, 57, 72, 85, 95, 113], 44) := by decide +kernel
theorem dX11_takeBack_48 : decode cX11_takeBack 48 = .ok (.aload_n 0, 1) := by decide +kernel
theorem dX11_takeBack_49 : decode cX11_takeBack 49 = .ok (.dup, 1) := by decide +kernel
theorem dX11_takeBack_50 : decode cX11_takeBack 50 = .ok (.getfield 69, 3) := by decide +kernel
theorem dX11_takeBack_53 : decode cX11_takeBack 53 = .ok (.iconst 1, 1) := by decide +kernel
theorem dX11_takeBack_54 : decode cX11_takeBack 54 = .ok (.isub, 1) := by decide +kernel
theorem dX11_takeBack_55 : decode cX11_takeBack 55 = .ok (.putfield 69, 3) := by decide +kernel
theorem dX11_takeBack_58 : decode cX11_takeBack 58 = .ok (.goto 85, 3) := by decide +kernel
theorem dX11_takeBack_61 : decode cX11_takeBack 61 = .ok (.aload_n 1, 1) := by decide +kernel
theorem dX11_takeBack_62 : decode cX11_takeBack 62 = .ok (.aload_n 0, 1) := by decide +kernel
theorem dX11_takeBack_63 : decode cX11_takeBack 63 = .ok (.aload_n 1, 1) := by decide +kernel
theorem dX11_takeBack_64 : decode cX11_takeBack 64 = .ok (.getfield 348, 3) := by decide +kernel
theorem dX11_takeBack_67 : decode cX11_takeBack 67 = .ok (.invokevirtual 86, 3) := by decide +kernel
theorem dX11_takeBack_70 : decode cX11_takeBack 70 = .ok (.invokestatic 351, 3) := by decide +kernel
theorem dX11_takeBack_73 : decode cX11_takeBack 73 = .ok (.goto 70, 3) := by decide +kernel
theorem dX11_takeBack_76 : decode cX11_takeBack 76 = .ok (.aload_n 0, 1) := by decide +kernel
theorem dX11_takeBack_77 : decode cX11_takeBack 77 = .ok (.dup, 1) := by decide +kernel
theorem dX11_takeBack_78 : decode cX11_takeBack 78 = .ok (.getfield 151, 3) := by decide +kernel
theorem dX11_takeBack_81 : decode cX11_takeBack 81 = .ok (.iconst 1, 1) := by decide +kernel
theorem dX11_takeBack_82 : decode cX11_takeBack 82 = .ok (.isub, 1) := by decide +kernel
theorem dX11_takeBack_83 : decode cX11_takeBack 83 = .ok (.putfield 151, 3) := by decide +kernel
theorem dX11_takeBack_86 : decode cX11_takeBack 86 = .ok (.goto 57, 3) := by decide +kernel
theorem dX11_takeBack_89 : decode cX11_takeBack 89 = .ok (.aload_n 0, 1) := by decide +kernel
theorem dX11_takeBack_90 : decode cX11_takeBack 90 = .ok (.getfield 31, 3) := by decide +kernel
theorem dX11_takeBack_93 : decode cX11_takeBack 93 = .ok (.invokevirtual 355, 3) := by decide +kernel
theorem dX11_takeBack_96 : decode cX11_takeBack 96 = .ok (.goto 47, 3) := by decide +kernel
theorem dX11_takeBack_99 : decode cX11_takeBack 99 = .ok (.aload_n 0, 1) := by decide +kernel
theorem dX11_takeBack_100 : decode cX11_takeBack 100 = .ok (.getfield 31, 3) := by decide +kernel
theorem dX11_takeBack_103 : decode cX11_takeBack 103 = .ok (.aload_n 1, 1) := by decide +kernel
theorem dX11_takeBack_104 : decode cX11_takeBack 104 = .ok (.getfield 358, 3) := by decide +kernel
theorem dX11_takeBack_107 : decode cX11_takeBack 107 = .ok (.aload_n 1, 1) := by decide +kernel
theorem dX11_takeBack_108 : decode cX11_takeBack 108 = .ok (.getfield 348, 3) := by decide +kernel
theorem dX11_takeBack_111 : decode cX11_takeBack 111 = .ok (.invokevirtual 318, 3) := by decide +kernel
theorem dX11_takeBack_114 : decode cX11_takeBack 114 = .ok (.goto 29, 3) := by decide +kernel
theorem dX11_takeBack_117 : decode cX11_takeBack 117 = .ok (.aload_n 0, 1) := by decide +kernel
theorem dX11_takeBack_118 : decode cX11_takeBack 118 = .ok (.dup, 1) := by decide +kernel
theorem dX11_takeBack_119 : decode cX11_takeBack 119 = .ok (.getfield 233, 3) := by decide +kernel
theorem dX11_takeBack_122 : decode cX11_takeBack 122 = .ok (.iconst 1, 1) := by decide +kernel
theorem dX11_takeBack_123 : decode cX11_takeBack 123 = .ok (.isub, 1) := by decide +kernel
theorem dX11_takeBack_124 : decode cX11_takeBack 124 = .ok (.putfield 233, 3) := by decide +kernel
theorem dX11_takeBack_127 : decode cX11_takeBack 127 = .ok (.goto 16, 3) := by decide +kernel
theorem dX11_takeBack_130 : decode cX11_takeBack 130 = .ok (.aload_n 0, 1) := by decide +kernel
theorem dX11_takeBack_131 : decode cX11_takeBack 131 = .ok (.aload_n 1, 1) := by decide +kernel
theorem dX11_takeBack_132 : decode cX11_takeBack 132 = .ok (.aload_n 0, 1) := by decide +kernel
theorem dX11_takeBack_133 : decode cX11_takeBack 133 = .ok (.aload_n 1, 1) := by decide +kernel
theorem dX11_takeBack_134 : decode cX11_takeBack 134 = .ok (.getfield 348, 3) := by decide +kernel
theorem dX11_takeBack_137 : decode cX11_takeBack 137 = .ok (.invokevirtual 239, 3) := by decide +kernel
theorem dX11_takeBack_140 : decode cX11_takeBack 140 = .ok (.invokevirtual 361, 3) := by decide +kernel
theorem dX11_takeBack_143 : decode cX11_takeBack 143 = .ok (.return_, 1) := by decide +kernel
set_option maxRecDepth 20000 in
theorem ggX11_takeBackPlace_X7_dropPlace : GoodIn wsX11_takeBackPlace wsX7_dropPlace := goodIn_r _ [5, 6, 7, 8, 9, 10, 11, 12, 13, 14, 15, 16, 17, 18, 19, 20, 21, 22, 23, 24, 25, 26, 27, 28, 29, 30, 31, 32, 33, 34, 35, 36, 37, 38, 39, 51, 52, 53, 54, 55, 56, 57, 58, 59, 60, 61] (by decide +kernel) (by decide +kernel)
set_option maxRecDepth 20000 in
theorem gX11_takeBackPlace_X7_dropPlace : GoodIn wsX11_takeBackPlace (wsV RX11 110 RX7 yX7_dropPlace wsX7_dropPlace) := goodIn_app (goodIn_of _ (by decide +kernel)) ggX11_takeBackPlace_X7_dropPlace
set_option maxRecDepth 20000 in
theorem ggX11_takeBackPlace_X7_addPlace : GoodIn wsX11_takeBackPlace wsX7_addPlace := goodIn_r _ [43, 6, 7, 44, 45, 46, 11, 47, 13, 18, 19, 14, 15, 16, 17, 20, 21, 22, 23, 24, 25, 26, 27, 28, 29, 30, 31, 32, 33, 34, 35, 36, 37, 38, 39, 51, 52, 53, 54, 55, 56, 57, 58, 59, 60, 61] (by decide +kernel) (by decide +kernel)
set_option maxRecDepth 20000 in
theorem gX11_takeBackPlace_X7_addPlace : GoodIn wsX11_takeBackPlace (wsV RX11 100 RX7 yX7_addPlace wsX7_addPlace) := goodIn_app (goodIn_of _ (by decide +kernel)) ggX11_takeBackPlace_X7_addPlace
theorem dX11_takeBackPlace_0 : decode cX11_takeBackPlace 0 = .ok (.aload_n 1, 1) := by decide +kernel
theorem dX11_takeBackPlace_1 : decode cX11_takeBackPlace 1 = .ok (.ifnonnull 4, 3) := by decide +kernel
theorem dX11_takeBackPlace_4 : decode cX11_takeBackPlace 4 = .ok (.return_, 1) := by decide +kernel
theorem dX11_takeBackPlace_5 : decode cX11_takeBackPlace 5 = .ok (.aload_n 0, 1) := by decide +kernel
theorem dX11_takeBackPlace_6 : decode cX11_takeBackPlace 6 = .ok (.getfield 343, 3) := by decide +kernel
theorem dX11_takeBackPlace_9 : decode cX11_takeBackPlace 9 = .ok (.iconst 1, 1) := by decide +kernel
theorem dX11_takeBackPlace_10 : decode cX11_takeBackPlace 10 = .ok (.if_icmp .ne 10, 3) := by decide +kernel
theorem dX11_takeBackPlace_13 : decode cX11_takeBackPlace 13 = .ok (.aload_n 1, 1) := by decide +kernel
theorem dX11_takeBackPlace_14 : decode cX11_takeBackPlace 14 = .ok (.invokevirtual 110, 3) := by decide +kernel
theorem dX11_takeBackPlace_17 : decode cX11_takeBackPlace 17 = .ok (.goto 31, 3) := by decide +kernel
theorem dX11_takeBackPlace_20 : decode cX11_takeBackPlace 20 = .ok (.aload_n 1, 1) := by decide +kernel
theorem dX11_takeBackPlace_21 : decode cX11_takeBackPlace 21 = .ok (.aload_n 0, 1) := by decide +kernel
theorem dX11_takeBackPlace_22 : decode cX11_takeBackPlace 22 = .ok (.getfield 358, 3) := by decide +kernel
theorem dX11_takeBackPlace_25 : decode cX11_takeBackPlace 25 = .ok (.iconst 0, 1) := by decide +kernel
theorem dX11_takeBackPlace_26 : decode cX11_takeBackPlace 26 = .ok (.iaload, 1) := by decide +kernel
theorem dX11_takeBackPlace_27 : decode cX11_takeBackPlace 27 = .ok (.aload_n 0, 1) := by decide +kernel
theorem dX11_takeBackPlace_28 : decode cX11_takeBackPlace 28 = .ok (.getfield 358, 3) := by decide +kernel
theorem dX11_takeBackPlace_31 : decode cX11_takeBackPlace 31 = .ok (.iconst 1, 1) := by decide +kernel
theorem dX11_takeBackPlace_32 : decode cX11_takeBackPlace 32 = .ok (.iaload, 1) := by decide +kernel
theorem dX11_takeBackPlace_33 : decode cX11_takeBackPlace 33 = .ok (.aload_n 0, 1) := by decide +kernel
theorem dX11_takeBackPlace_34 : decode cX11_takeBackPlace 34 = .ok (.getfield 358, 3) := by decide +kernel
theorem dX11_takeBackPlace_37 : decode cX11_takeBackPlace 37 = .ok (.iconst 2, 1) := by decide +kernel
theorem dX11_takeBackPlace_38 : decode cX11_takeBackPlace 38 = .ok (.iaload, 1) := by decide +kernel
theorem dX11_takeBackPlace_39 : decode cX11_takeBackPlace 39 = .ok (.aload_n 0, 1) := by decide +kernel
theorem dX11_takeBackPlace_40 : decode cX11_takeBackPlace 40 = .ok (.getfield 358, 3) := by decide +kernel
theorem dX11_takeBackPlace_43 : decode cX11_takeBackPlace 43 = .ok (.iconst 3, 1) := by decide +kernel
theorem dX11_takeBackPlace_44 : decode cX11_takeBackPlace 44 = .ok (.iaload, 1) := by decide +kernel
theorem dX11_takeBackPlace_45 : decode cX11_takeBackPlace 45 = .ok (.invokevirtual 100, 3) := by decide +kernel
theorem dX11_takeBackPlace_48 : decode cX11_takeBackPlace 48 = .ok (.return_, 1) := by decide +kernel
set_option maxRecDepth 20000 in
theorem ggX11_takeBackVisit_X0_dropLook : GoodIn wsX11_takeBackVisit wsX0_dropLook := goodIn_r _ [6, 7, 53, 54, 55, 56, 57, 58, 59, 60, 61] (by decide +kernel) (by decide +kernel)
set_option maxRecDepth 20000 in
theorem gX11_takeBackVisit_X0_dropLook : GoodIn wsX11_takeBackVisit (wsV RX11 365 RX0 yX0_dropLook wsX0_dropLook) := goodIn_app (goodIn_of _ (by decide +kernel)) ggX11_takeBackVisit_X0_dropLook
set_option maxRecDepth 20000 in
theorem ggX11_takeBackVisit_X0_close : GoodIn wsX11_takeBackVisit wsX0_close := goodIn_r _ [11, 12, 13, 14, 15, 16, 5, 17, 7, 18, 19, 20, 21, 22, 23, 24, 25, 26, 27, 28, 29, 30, 31, 32, 33, 34, 35, 36, 53, 54, 55, 56, 57, 58, 59, 60, 61, 62, 63] (by decide +kernel) (by decide +kernel)
set_option maxRecDepth 20000 in
theorem gX11_takeBackVisit_X0_close : GoodIn wsX11_takeBackVisit (wsV RX11 368 RX0 yX0_close wsX0_close) := goodIn_app (goodIn_of _ (by decide +kernel)) ggX11_takeBackVisit_X0_close
theorem dX11_takeBackVisit_0 : decode cX11_takeBackVisit 0 = .ok (.aload_n 2, 1) := by decide +kernel
theorem dX11_takeBackVisit_1 : decode cX11_takeBackVisit 1 = .ok (.ifnonnull 4, 3) := by decide +kernel
theorem dX11_takeBackVisit_4 : decode cX11_takeBackVisit 4 = .ok (.return_, 1) := by decide +kernel
theorem dX11_takeBackVisit_5 : decode cX11_takeBackVisit 5 = .ok (.aload_n 1, 1) := by decide +kernel
theorem dX11_takeBackVisit_6 : decode cX11_takeBackVisit 6 = .ok (.getfield 343, 3) := by decide +kernel
theorem dX11_takeBackVisit_9 : decode cX11_takeBackVisit 9 = .ok (.bipush 7, 2) := by decide +kernel
theorem dX11_takeBackVisit_11 : decode cX11_takeBackVisit 11 = .ok (.if_icmp .ne 10, 3) := by decide +kernel
theorem dX11_takeBackVisit_14 : decode cX11_takeBackVisit 14 = .ok (.aload_n 2, 1) := by decide +kernel
theorem dX11_takeBackVisit_15 : decode cX11_takeBackVisit 15 = .ok (.invokevirtual 365, 3) := by decide +kernel
theorem dX11_takeBackVisit_18 : decode cX11_takeBackVisit 18 = .ok (.goto 11, 3) := by decide +kernel
theorem dX11_takeBackVisit_21 : decode cX11_takeBackVisit 21 = .ok (.aload_n 2, 1) := by decide +kernel
theorem dX11_takeBackVisit_22 : decode cX11_takeBackVisit 22 = .ok (.aload_n 0, 1) := by decide +kernel
theorem dX11_takeBackVisit_23 : decode cX11_takeBackVisit 23 = .ok (.getfield 44, 3) := by decide +kernel
theorem dX11_takeBackVisit_26 : decode cX11_takeBackVisit 26 = .ok (.invokevirtual 368, 3) := by decide +kernel
theorem dX11_takeBackVisit_29 : decode cX11_takeBackVisit 29 = .ok (.return_, 1) := by decide +kernel
theorem dX11_isWithin_0 : decode cX11_isWithin 0 = .ok (.iload_n 0, 1) := by decide +kernel
theorem dX11_isWithin_1 : decode cX11_isWithin 1 = .ok (.iload_n 1, 1) := by decide +kernel
theorem dX11_isWithin_2 : decode cX11_isWithin 2 = .ok (.if_icmp .lt 12, 3) := by decide +kernel
theorem dX11_isWithin_5 : decode cX11_isWithin 5 = .ok (.iload_n 0, 1) := by decide +kernel
theorem dX11_isWithin_6 : decode cX11_isWithin 6 = .ok (.iload_n 2, 1) := by decide +kernel
theorem dX11_isWithin_7 : decode cX11_isWithin 7 = .ok (.if_icmp .gt 7, 3) := by decide +kernel
theorem dX11_isWithin_10 : decode cX11_isWithin 10 = .ok (.iconst 1, 1) := by decide +kernel
theorem dX11_isWithin_11 : decode cX11_isWithin 11 = .ok (.goto 4, 3) := by decide +kernel
theorem dX11_isWithin_14 : decode cX11_isWithin 14 = .ok (.iconst 0, 1) := by decide +kernel
theorem dX11_isWithin_15 : decode cX11_isWithin 15 = .ok (.ireturn, 1) := by decide +kernel
set_option maxRecDepth 20000 in
theorem ggX11_isSpot_X11_isWithin : GoodIn wsX11_isSpot wsX11_isWithin := goodIn_r _ [4] (by decide +kernel) (by decide +kernel)
set_option maxRecDepth 20000 in
theorem gX11_isSpot_X11_isWithin : GoodIn wsX11_isSpot (va_wsS RX11 230 yX11_isWithin wsX11_isWithin) := goodIn_app (goodIn_of _ (by decide +kernel)) ggX11_isSpot_X11_isWithin
theorem dX11_isSpot_0 : decode cX11_isSpot 0 = .ok (.iload_n 0, 1) := by decide +kernel
theorem dX11_isSpot_1 : decode cX11_isSpot 1 = .ok (.iconst 0, 1) := by decide +kernel
theorem dX11_isSpot_2 : decode cX11_isSpot 2 = .ok (.sipush 999, 3) := by decide +kernel
theorem dX11_isSpot_5 : decode cX11_isSpot 5 = .ok (.invokestatic 230, 3) := by decide +kernel
theorem dX11_isSpot_8 : decode cX11_isSpot 8 = .ok (.ireturn, 1) := by decide +kernel
set_option maxRecDepth 20000 in
theorem ggX11_isLevel_X11_isWithin : GoodIn wsX11_isLevel wsX11_isWithin := goodIn_r _ [4] (by decide +kernel) (by decide +kernel)
set_option maxRecDepth 20000 in
theorem gX11_isLevel_X11_isWithin : GoodIn wsX11_isLevel (va_wsS RX11 230 yX11_isWithin wsX11_isWithin) := goodIn_app (goodIn_of _ (by decide +kernel)) ggX11_isLevel_X11_isWithin
theorem dX11_isLevel_0 : decode cX11_isLevel 0 = .ok (.iload_n 0, 1) := by decide +kernel
theorem dX11_isLevel_1 : decode cX11_isLevel 1 = .ok (.iconst 0, 1) := by decide +kernel
theorem dX11_isLevel_2 : decode cX11_isLevel 2 = .ok (.iconst 3, 1) := by decide +kernel
theorem dX11_isLevel_3 : decode cX11_isLevel 3 = .ok (.invokestatic 230, 3) := by decide +kernel
theorem dX11_isLevel_6 : decode cX11_isLevel 6 = .ok (.ireturn, 1) := by decide +kernel
set_option maxRecDepth 20000 in
theorem ggX11_isKind_X11_isWithin : GoodIn wsX11_isKind wsX11_isWithin := goodIn_r _ [5] (by decide +kernel) (by decide +kernel)
set_option maxRecDepth 20000 in
theorem gX11_isKind_X11_isWithin : GoodIn wsX11_isKind (va_wsS RX11 230 yX11_isWithin wsX11_isWithin) := goodIn_app (goodIn_of _ (by decide +kernel)) ggX11_isKind_X11_isWithin
theorem dX11_isKind_0 : decode cX11_isKind 0 = .ok (.iload_n 0, 1) := by decide +kernel
theorem dX11_isKind_1 : decode cX11_isKind 1 = .ok (.iconst 0, 1) := by decide +kernel
theorem dX11_isKind_2 : decode cX11_isKind 2 = .ok (.getstatic 372, 3) := by decide +kernel
theorem dX11_isKind_5 : decode cX11_isKind 5 = .ok (.arraylength, 1) := by decide +kernel
theorem dX11_isKind_6 : decode cX11_isKind 6 = .ok (.iconst 1, 1) := by decide +kernel
theorem dX11_isKind_7 : decode cX11_isKind 7 = .ok (.isub, 1) := by decide +kernel
theorem dX11_isKind_8 : decode cX11_isKind 8 = .ok (.invokestatic 230, 3) := by decide +kernel
theorem dX11_isKind_11 : decode cX11_isKind 11 = .ok (.ireturn, 1) := by decide +kernel
theorem dX11_isWidth_0 : decode cX11_isWidth 0 = .ok (.iload_n 0, 1) := by decide +kernel
theorem dX11_isWidth_1 : decode cX11_isWidth 1 = .ok (.ifCond .eq 21, 3) := by decide +kernel
theorem dX11_isWidth_4 : decode cX11_isWidth 4 = .ok (.iload_n 0, 1) := by decide +kernel
theorem dX11_isWidth_5 : decode cX11_isWidth 5 = .ok (.bipush 8, 2) := by decide +kernel
theorem dX11_isWidth_7 : decode cX11_isWidth 7 = .ok (.if_icmp .eq 15, 3) := by decide +kernel
theorem dX11_isWidth_10 : decode cX11_isWidth 10 = .ok (.iload_n 0, 1) := by decide +kernel
theorem dX11_isWidth_11 : decode cX11_isWidth 11 = .ok (.bipush 16, 2) := by decide +kernel
theorem dX11_isWidth_13 : decode cX11_isWidth 13 = .ok (.if_icmp .eq 9, 3) := by decide +kernel
theorem dX11_isWidth_16 : decode cX11_isWidth 16 = .ok (.iload_n 0, 1) := by decide +kernel
theorem dX11_isWidth_17 : decode cX11_isWidth 17 = .ok (.bipush 32, 2) := by decide +kernel
theorem dX11_isWidth_19 : decode cX11_isWidth 19 = .ok (.if_icmp .ne 7, 3) := by decide +kernel
theorem dX11_isWidth_22 : decode cX11_isWidth 22 = .ok (.iconst 1, 1) := by decide +kernel
theorem dX11_isWidth_23 : decode cX11_isWidth 23 = .ok (.goto 4, 3) := by decide +kernel
theorem dX11_isWidth_26 : decode cX11_isWidth 26 = .ok (.iconst 0, 1) := by decide +kernel
theorem dX11_isWidth_27 : decode cX11_isWidth 27 = .ok (.ireturn, 1) := by decide +kernel
set_option maxRecDepth 20000 in
theorem ggX11_isSign_X11_isWithin : GoodIn wsX11_isSign wsX11_isWithin := goodIn_r _ [4] (by decide +kernel) (by decide +kernel)
set_option maxRecDepth 20000 in
theorem gX11_isSign_X11_isWithin : GoodIn wsX11_isSign (va_wsS RX11 230 yX11_isWithin wsX11_isWithin) := goodIn_app (goodIn_of _ (by decide +kernel)) ggX11_isSign_X11_isWithin
theorem dX11_isSign_0 : decode cX11_isSign 0 = .ok (.iload_n 0, 1) := by decide +kernel
theorem dX11_isSign_1 : decode cX11_isSign 1 = .ok (.iconst 1, 1) := by decide +kernel
theorem dX11_isSign_2 : decode cX11_isSign 2 = .ok (.iconst 4, 1) := by decide +kernel
theorem dX11_isSign_3 : decode cX11_isSign 3 = .ok (.invokestatic 230, 3) := by decide +kernel
theorem dX11_isSign_6 : decode cX11_isSign 6 = .ok (.ifCond .ne 14, 3) := by decide +kernel
theorem dX11_isSign_9 : decode cX11_isSign 9 = .ok (.iload_n 0, 1) := by decide +kernel
theorem dX11_isSign_10 : decode cX11_isSign 10 = .ok (.bipush 10, 2) := by decide +kernel
theorem dX11_isSign_12 : decode cX11_isSign 12 = .ok (.bipush 24, 2) := by decide +kernel
theorem dX11_isSign_14 : decode cX11_isSign 14 = .ok (.invokestatic 230, 3) := by decide +kernel
theorem dX11_isSign_17 : decode cX11_isSign 17 = .ok (.ifCond .eq 7, 3) := by decide +kernel
theorem dX11_isSign_20 : decode cX11_isSign 20 = .ok (.iconst 1, 1) := by decide +kernel
theorem dX11_isSign_21 : decode cX11_isSign 21 = .ok (.goto 4, 3) := by decide +kernel
theorem dX11_isSign_24 : decode cX11_isSign 24 = .ok (.iconst 0, 1) := by decide +kernel
theorem dX11_isSign_25 : decode cX11_isSign 25 = .ok (.ireturn, 1) := by decide +kernel
set_option maxRecDepth 20000 in
theorem ggX11_isFlight_X11_isWithin : GoodIn wsX11_isFlight wsX11_isWithin := goodIn_r _ [4] (by decide +kernel) (by decide +kernel)
set_option maxRecDepth 20000 in
theorem gX11_isFlight_X11_isWithin : GoodIn wsX11_isFlight (va_wsS RX11 230 yX11_isWithin wsX11_isWithin) := goodIn_app (goodIn_of _ (by decide +kernel)) ggX11_isFlight_X11_isWithin
set_option maxRecDepth 20000 in
theorem ggX11_isFlight_X11_isLevel : GoodIn wsX11_isFlight wsX11_isLevel := goodIn_r _ [7, 1, 2, 3, 4] (by decide +kernel) (by decide +kernel)
set_option maxRecDepth 20000 in
theorem gX11_isFlight_X11_isLevel : GoodIn wsX11_isFlight (va_wsS RX11 227 yX11_isLevel wsX11_isLevel) := goodIn_app (goodIn_of _ (by decide +kernel)) ggX11_isFlight_X11_isLevel
theorem dX11_isFlight_0 : decode cX11_isFlight 0 = .ok (.iload_n 0, 1) := by decide +kernel
theorem dX11_isFlight_1 : decode cX11_isFlight 1 = .ok (.iconst 0, 1) := by decide +kernel
theorem dX11_isFlight_2 : decode cX11_isFlight 2 = .ok (.bipush 99, 2) := by decide +kernel
theorem dX11_isFlight_4 : decode cX11_isFlight 4 = .ok (.invokestatic 230, 3) := by decide +kernel
theorem dX11_isFlight_7 : decode cX11_isFlight 7 = .ok (.ifCond .eq 21, 3) := by decide +kernel
theorem dX11_isFlight_10 : decode cX11_isFlight 10 = .ok (.iload_n 1, 1) := by decide +kernel
theorem dX11_isFlight_11 : decode cX11_isFlight 11 = .ok (.invokestatic 227, 3) := by decide +kernel
theorem dX11_isFlight_14 : decode cX11_isFlight 14 = .ok (.ifCond .eq 14, 3) := by decide +kernel
theorem dX11_isFlight_17 : decode cX11_isFlight 17 = .ok (.iload_n 2, 1) := by decide +kernel
theorem dX11_isFlight_18 : decode cX11_isFlight 18 = .ok (.invokestatic 227, 3) := by decide +kernel
theorem dX11_isFlight_21 : decode cX11_isFlight 21 = .ok (.ifCond .eq 7, 3) := by decide +kernel
theorem dX11_isFlight_24 : decode cX11_isFlight 24 = .ok (.iconst 1, 1) := by decide +kernel
theorem dX11_isFlight_25 : decode cX11_isFlight 25 = .ok (.goto 4, 3) := by decide +kernel
theorem dX11_isFlight_28 : decode cX11_isFlight 28 = .ok (.iconst 0, 1) := by decide +kernel
theorem dX11_isFlight_29 : decode cX11_isFlight 29 = .ok (.ireturn, 1) := by decide +kernel
set_option maxRecDepth 20000 in
theorem ggX11_isMarkOf_X11_isKind : GoodIn wsX11_isMarkOf wsX11_isKind := goodIn_r _ [4, 5, 6, 7, 3, 8] (by decide +kernel) (by decide +kernel)
set_option maxRecDepth 20000 in
theorem gX11_isMarkOf_X11_isKind : GoodIn wsX11_isMarkOf (va_wsS RX11 161 yX11_isKind wsX11_isKind) := goodIn_app (goodIn_of _ (by decide +kernel)) ggX11_isMarkOf_X11_isKind
set_option maxRecDepth 20000 in
theorem ggX11_isMarkOf_X11_isUnder : GoodIn wsX11_isMarkOf wsX11_isUnder := goodIn_r _ [11, 5, 1, 2, 3, 4, 6, 7, 8] (by decide +kernel) (by decide +kernel)
set_option maxRecDepth 20000 in
theorem gX11_isMarkOf_X11_isUnder : GoodIn wsX11_isMarkOf (va_wsS RX11 167 yX11_isUnder wsX11_isUnder) := goodIn_app (goodIn_of _ (by decide +kernel)) ggX11_isMarkOf_X11_isUnder
set_option maxRecDepth 20000 in
theorem ggX11_isMarkOf_X11_isWithin : GoodIn wsX11_isMarkOf wsX11_isWithin := goodIn_r _ [8] (by decide +kernel) (by decide +kernel)
set_option maxRecDepth 20000 in
theorem gX11_isMarkOf_X11_isWithin : GoodIn wsX11_isMarkOf (va_wsS RX11 230 yX11_isWithin wsX11_isWithin) := goodIn_app (goodIn_of _ (by decide +kernel)) ggX11_isMarkOf_X11_isWithin
theorem dX11_isMarkOf_0 : decode cX11_isMarkOf 0 = .ok (.iload_n 0, 1) := by decide +kernel
theorem dX11_isMarkOf_1 : decode cX11_isMarkOf 1 = .ok (.invokestatic 161, 3) := by decide +kernel
theorem dX11_isMarkOf_4 : decode cX11_isMarkOf 4 = .ok (.ifCond .ne 5, 3) := by decide +kernel
theorem dX11_isMarkOf_7 : decode cX11_isMarkOf 7 = .ok (.iconst 0, 1) := by decide +kernel
theorem dX11_isMarkOf_8 : decode cX11_isMarkOf 8 = .ok (.ireturn, 1) := by decide +kernel
theorem dX11_isMarkOf_9 : decode cX11_isMarkOf 9 = .ok (.iload_n 0, 1) := by decide +kernel
theorem dX11_isMarkOf_10 : decode cX11_isMarkOf 10 = .ok (.iconst 1, 1) := by decide +kernel
theorem dX11_isMarkOf_11 : decode cX11_isMarkOf 11 = .ok (.invokestatic 167, 3) := by decide +kernel
theorem dX11_isMarkOf_14 : decode cX11_isMarkOf 14 = .ok (.ifCond .eq 29, 3) := by decide +kernel
theorem dX11_isMarkOf_17 : decode cX11_isMarkOf 17 = .ok (.iload_n 1, 1) := by decide +kernel
theorem dX11_isMarkOf_18 : decode cX11_isMarkOf 18 = .ok (.iconst 1, 1) := by decide +kernel
theorem dX11_isMarkOf_19 : decode cX11_isMarkOf 19 = .ok (.bipush 99, 2) := by decide +kernel
theorem dX11_isMarkOf_21 : decode cX11_isMarkOf 21 = .ok (.invokestatic 230, 3) := by decide +kernel
theorem dX11_isMarkOf_24 : decode cX11_isMarkOf 24 = .ok (.ifCond .eq 17, 3) := by decide +kernel
theorem dX11_isMarkOf_27 : decode cX11_isMarkOf 27 = .ok (.iload_n 2, 1) := by decide +kernel
theorem dX11_isMarkOf_28 : decode cX11_isMarkOf 28 = .ok (.iconst 0, 1) := by decide +kernel
theorem dX11_isMarkOf_29 : decode cX11_isMarkOf 29 = .ok (.bipush 15, 2) := by decide +kernel
theorem dX11_isMarkOf_31 : decode cX11_isMarkOf 31 = .ok (.invokestatic 230, 3) := by decide +kernel
theorem dX11_isMarkOf_34 : decode cX11_isMarkOf 34 = .ok (.ifCond .eq 7, 3) := by decide +kernel
theorem dX11_isMarkOf_37 : decode cX11_isMarkOf 37 = .ok (.iconst 1, 1) := by decide +kernel
theorem dX11_isMarkOf_38 : decode cX11_isMarkOf 38 = .ok (.goto 4, 3) := by decide +kernel
