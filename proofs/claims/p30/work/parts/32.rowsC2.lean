theorem dX5_hasSpot_11 : decode cX5_hasSpot 11 = .ok (.ireturn, 1) := by decide +kernel
set_option maxRecDepth 20000 in
theorem ggX5_spot_X7_way : GoodIn wsX5_spot wsX7_way := goodIn_sub (fw_c (fw_t (fw_l (fw_l (fw_l (fw_l (fw_t (fw_t (fw_t (fw_t (fw_t (fw_t (fw_t fw_h)))))))))))) (fw_a (fw_c (fw_t (fw_l (fw_l (fw_l (fw_l (fw_t (fw_t (fw_t (fw_t (fw_t (fw_t (fw_t (fw_t fw_h))))))))))))) (fw_c (fw_t (fw_l (fw_l (fw_l (fw_l (fw_t (fw_t (fw_t (fw_t (fw_t (fw_t (fw_t (fw_t (fw_t fw_h)))))))))))))) fw_n)) (fun _ h => fw_t (fw_l (fw_r h))))) (by decide +kernel)
set_option maxRecDepth 20000 in
theorem gX5_spot_X7_way : GoodIn wsX5_spot (wsV RX5 29 RX7 yX7_way wsX7_way) := goodIn_app (goodIn_sub (fw_c (fw_t (fw_l (fw_l (fw_l (fw_l (fw_t (fw_t (fw_t fw_h)))))))) (fw_c (fw_t (fw_l (fw_l (fw_l (fw_l (fw_t (fw_t (fw_t (fw_t fw_h))))))))) (fw_c (fw_t (fw_l (fw_l (fw_l (fw_l (fw_t (fw_t (fw_t (fw_t (fw_t fw_h)))))))))) (fw_c (fw_t (fw_l (fw_l (fw_l (fw_l (fw_t (fw_t (fw_t (fw_t (fw_t (fw_t fw_h))))))))))) fw_n)))) (by decide +kernel)) ggX5_spot_X7_way
set_option maxRecDepth 20000 in
theorem ggX5_spot_X4_cutAt : GoodIn wsX5_spot wsX4_cutAt := goodIn_sub (fw_c (fw_t (fw_l (fw_l (fw_l (fw_l (fw_t (fw_t (fw_t (fw_t (fw_t (fw_t (fw_t (fw_t (fw_t (fw_t (fw_t (fw_t (fw_t (fw_t fw_h))))))))))))))))))) (fw_a (fw_c (fw_t (fw_l (fw_l (fw_l (fw_l (fw_t (fw_t (fw_t (fw_t (fw_t (fw_t (fw_t (fw_t (fw_t (fw_t (fw_t (fw_t (fw_t (fw_t (fw_t fw_h)))))))))))))))))))) (fw_c (fw_t (fw_l (fw_l (fw_l (fw_l (fw_t (fw_t (fw_t (fw_t (fw_t (fw_t (fw_t (fw_t (fw_t (fw_t (fw_t (fw_t (fw_t (fw_t (fw_t (fw_t fw_h))))))))))))))))))))) (fw_c (fw_t (fw_l (fw_l (fw_l (fw_l (fw_t (fw_t (fw_t (fw_t (fw_t (fw_t (fw_t (fw_t (fw_t (fw_t (fw_t (fw_t (fw_t (fw_t (fw_t (fw_t (fw_t fw_h)))))))))))))))))))))) (fw_c (fw_t (fw_l (fw_l (fw_l (fw_l (fw_t (fw_t (fw_t (fw_t (fw_t (fw_t (fw_t (fw_t (fw_t (fw_t (fw_t (fw_t (fw_t (fw_t (fw_t (fw_t (fw_t (fw_t fw_h))))))))))))))))))))))) (fw_c (fw_t (fw_l (fw_l (fw_l (fw_l (fw_t (fw_t (fw_t (fw_t (fw_t (fw_t (fw_t (fw_t (fw_t (fw_t (fw_t (fw_t (fw_t fw_h)))))))))))))))))) (fw_c (fw_t (fw_l (fw_l (fw_l (fw_l (fw_t (fw_t (fw_t (fw_t (fw_t (fw_t (fw_t (fw_t (fw_t (fw_t (fw_t (fw_t (fw_t (fw_t (fw_t (fw_t (fw_t (fw_t (fw_t fw_h)))))))))))))))))))))))) (fw_c (fw_t (fw_l (fw_l (fw_l (fw_l (fw_t (fw_t (fw_t (fw_t (fw_t (fw_t (fw_t (fw_t (fw_t (fw_t (fw_t (fw_t (fw_t (fw_t (fw_t (fw_t (fw_t (fw_t (fw_t (fw_t fw_h))))))))))))))))))))))))) (fw_c (fw_t (fw_l (fw_l (fw_l (fw_l (fw_t (fw_t (fw_t (fw_t (fw_t (fw_t (fw_t (fw_t (fw_t (fw_t (fw_t (fw_t (fw_t (fw_t (fw_t (fw_t (fw_t (fw_t (fw_t (fw_t (fw_t fw_h)))))))))))))))))))))))))) (fw_c (fw_t (fw_l (fw_l (fw_l (fw_l (fw_t (fw_t (fw_t (fw_t (fw_t (fw_t (fw_t (fw_t (fw_t (fw_t (fw_t (fw_t (fw_t (fw_t (fw_t (fw_t (fw_t (fw_t (fw_t (fw_t (fw_t (fw_t fw_h))))))))))))))))))))))))))) (fw_c (fw_t (fw_l (fw_l (fw_l (fw_l (fw_t (fw_t (fw_t (fw_t (fw_t (fw_t (fw_t (fw_t (fw_t (fw_t (fw_t (fw_t (fw_t (fw_t (fw_t (fw_t (fw_t (fw_t (fw_t (fw_t (fw_t (fw_t (fw_t fw_h)))))))))))))))))))))))))))) (fw_c (fw_t (fw_l (fw_l (fw_l (fw_r fw_h))))) (fw_c (fw_t (fw_l (fw_l (fw_l (fw_r (fw_t fw_h)))))) fw_n)))))))))))) (fun _ h => fw_t (fw_r h)))) (by decide +kernel)
set_option maxRecDepth 20000 in
theorem gX5_spot_X4_cutAt : GoodIn wsX5_spot (wsV RX5 41 RX4 yX4_cutAt wsX4_cutAt) := goodIn_app (goodIn_sub (fw_c (fw_t (fw_l (fw_l (fw_l (fw_l (fw_t (fw_t (fw_t (fw_t (fw_t (fw_t (fw_t (fw_t (fw_t (fw_t fw_h))))))))))))))) (fw_c (fw_t (fw_l (fw_l (fw_l (fw_l (fw_t (fw_t (fw_t (fw_t (fw_t (fw_t (fw_t (fw_t (fw_t (fw_t (fw_t fw_h)))))))))))))))) (fw_c (fw_t (fw_l (fw_l (fw_l (fw_l (fw_t (fw_t (fw_t (fw_t (fw_t (fw_t (fw_t (fw_t (fw_t (fw_t (fw_t (fw_t fw_h))))))))))))))))) (fw_c (fw_t (fw_l (fw_l (fw_l (fw_l (fw_t (fw_t (fw_t (fw_t (fw_t (fw_t (fw_t (fw_t (fw_t (fw_t (fw_t (fw_t (fw_t fw_h)))))))))))))))))) fw_n)))) (by decide +kernel)) ggX5_spot_X4_cutAt
theorem dX5_spot_0 : decode cX5_spot 0 = .ok (.aload_n 0, 1) := by decide +kernel
theorem dX5_spot_1 : decode cX5_spot 1 = .ok (.getfield 7, 3) := by decide +kernel
theorem dX5_spot_4 : decode cX5_spot 4 = .ok (.iload_n 1, 1) := by decide +kernel
theorem dX5_spot_5 : decode cX5_spot 5 = .ok (.invokevirtual 29, 3) := by decide +kernel
theorem dX5_spot_8 : decode cX5_spot 8 = .ok (.iload_n 1, 1) := by decide +kernel
theorem dX5_spot_9 : decode cX5_spot 9 = .ok (.ifCond .eq 10, 3) := by decide +kernel
theorem dX5_spot_12 : decode cX5_spot 12 = .ok (.aload_n 0, 1) := by decide +kernel
theorem dX5_spot_13 : decode cX5_spot 13 = .ok (.getfield 20, 3) := by decide +kernel
theorem dX5_spot_16 : decode cX5_spot 16 = .ok (.goto 7, 3) := by decide +kernel
theorem dX5_spot_19 : decode cX5_spot 19 = .ok (.aload_n 0, 1) := by decide +kernel
theorem dX5_spot_20 : decode cX5_spot 20 = .ok (.getfield 17, 3) := by decide +kernel
theorem dX5_spot_23 : decode cX5_spot 23 = .ok (.invokevirtual 41, 3) := by decide +kernel
theorem dX5_spot_26 : decode cX5_spot 26 = .ok (.lreturn, 1) := by decide +kernel
theorem dX5_sharesPicture_0 : decode cX5_sharesPicture 0 = .ok (.aload_n 0, 1) := by decide +kernel
theorem dX5_sharesPicture_1 : decode cX5_sharesPicture 1 = .ok (.getfield 7, 3) := by decide +kernel
theorem dX5_sharesPicture_4 : decode cX5_sharesPicture 4 = .ok (.getfield 45, 3) := by decide +kernel
theorem dX5_sharesPicture_7 : decode cX5_sharesPicture 7 = .ok (.aload_n 1, 1) := by decide +kernel
theorem dX5_sharesPicture_8 : decode cX5_sharesPicture 8 = .ok (.getfield 7, 3) := by decide +kernel
theorem dX5_sharesPicture_11 : decode cX5_sharesPicture 11 = .ok (.getfield 45, 3) := by decide +kernel
theorem dX5_sharesPicture_14 : decode cX5_sharesPicture 14 = .ok (.if_icmp .ne 7, 3) := by decide +kernel
theorem dX5_sharesPicture_17 : decode cX5_sharesPicture 17 = .ok (.iconst 1, 1) := by decide +kernel
theorem dX5_sharesPicture_18 : decode cX5_sharesPicture 18 = .ok (.goto 4, 3) := by decide +kernel
theorem dX5_sharesPicture_21 : decode cX5_sharesPicture 21 = .ok (.iconst 0, 1) := by decide +kernel
theorem dX5_sharesPicture_22 : decode cX5_sharesPicture 22 = .ok (.ireturn, 1) := by decide +kernel
set_option maxRecDepth 20000 in
theorem ggX5_fits_X5_sharesPicture : GoodIn wsX5_fits wsX5_sharesPicture := goodIn_sub (fw_c (fw_t (fw_l (fw_l (fw_l (fw_l (fw_t (fw_t (fw_t (fw_t (fw_t (fw_t (fw_t (fw_t (fw_t (fw_t fw_h))))))))))))))) (fw_a (fw_a (fw_c (fw_t (fw_l (fw_l (fw_l (fw_l (fw_t fw_h)))))) fw_n) (fun _ h => fw_t (fw_l (fw_l (fw_r h))))) (fun _ h => fw_t (fw_l (fw_r h))))) (by decide +kernel)
set_option maxRecDepth 20000 in
theorem gX5_fits_X5_sharesPicture : GoodIn wsX5_fits (wsV RX5 48 RX5 yX5_sharesPicture wsX5_sharesPicture) := goodIn_app (goodIn_sub (fw_c (fw_t (fw_l (fw_l (fw_l (fw_l (fw_t (fw_t (fw_t (fw_t (fw_t (fw_t fw_h))))))))))) (fw_c (fw_t (fw_l (fw_l (fw_l (fw_l (fw_t (fw_t (fw_t (fw_t (fw_t (fw_t (fw_t fw_h)))))))))))) (fw_c (fw_t (fw_l (fw_l (fw_l (fw_l (fw_t (fw_t (fw_t (fw_t (fw_t (fw_t (fw_t (fw_t fw_h))))))))))))) (fw_c (fw_t (fw_l (fw_l (fw_l (fw_l (fw_t (fw_t (fw_t (fw_t (fw_t (fw_t (fw_t (fw_t (fw_t fw_h)))))))))))))) fw_n)))) (by decide +kernel)) ggX5_fits_X5_sharesPicture
set_option maxRecDepth 20000 in
theorem ggX5_fits_X7_hasReach : GoodIn wsX5_fits wsX7_hasReach := goodIn_sub (fw_c (fw_t (fw_l (fw_l (fw_l (fw_l (fw_t (fw_t (fw_t (fw_t (fw_t (fw_t (fw_t (fw_t (fw_t (fw_t (fw_t (fw_t (fw_t (fw_t (fw_t fw_h)))))))))))))))))))) (fw_a (fw_a (fw_c (fw_t (fw_l (fw_l (fw_l (fw_l (fw_t (fw_t (fw_t (fw_t (fw_t (fw_t (fw_t (fw_t (fw_t (fw_t (fw_t (fw_t (fw_t (fw_t (fw_t (fw_t fw_h))))))))))))))))))))) (fw_c (fw_t (fw_l (fw_l (fw_l (fw_l (fw_t (fw_t (fw_t (fw_t (fw_t (fw_t (fw_t (fw_t (fw_t (fw_t (fw_t (fw_t (fw_t (fw_t (fw_t (fw_t (fw_t fw_h)))))))))))))))))))))) (fw_c (fw_t (fw_l (fw_l (fw_l (fw_l (fw_t (fw_t (fw_t (fw_t (fw_t (fw_t (fw_t (fw_t (fw_t (fw_t (fw_t (fw_t (fw_t (fw_t (fw_t (fw_t (fw_t (fw_t fw_h))))))))))))))))))))))) (fw_c (fw_t (fw_l (fw_l (fw_l (fw_l (fw_t (fw_t (fw_t (fw_t (fw_t (fw_t (fw_t (fw_t (fw_t (fw_t (fw_t (fw_t (fw_t (fw_t (fw_t (fw_t (fw_t (fw_t (fw_t fw_h)))))))))))))))))))))))) (fw_c (fw_t (fw_l (fw_l (fw_l (fw_l (fw_t (fw_t (fw_t (fw_t (fw_t (fw_t (fw_t (fw_t (fw_t (fw_t (fw_t (fw_t (fw_t (fw_t (fw_t (fw_t (fw_t (fw_t (fw_t (fw_t fw_h))))))))))))))))))))))))) (fw_c (fw_t (fw_l (fw_l (fw_l (fw_l (fw_t (fw_t (fw_t (fw_t (fw_t (fw_t (fw_t (fw_t (fw_t (fw_t (fw_t (fw_t (fw_t (fw_t (fw_t (fw_t (fw_t (fw_t (fw_t (fw_t (fw_t fw_h)))))))))))))))))))))))))) (fw_c (fw_t (fw_l (fw_l (fw_l (fw_l (fw_t (fw_t (fw_t (fw_t (fw_t (fw_t (fw_t (fw_t (fw_t (fw_t (fw_t (fw_t (fw_t (fw_t (fw_t (fw_t (fw_t (fw_t (fw_t (fw_t (fw_t (fw_t fw_h))))))))))))))))))))))))))) (fw_c (fw_t (fw_l (fw_l (fw_l (fw_l (fw_t (fw_t (fw_t (fw_t (fw_t (fw_t (fw_t (fw_t (fw_t (fw_t (fw_t (fw_t (fw_t (fw_t (fw_t (fw_t (fw_t (fw_t (fw_t (fw_t (fw_t (fw_t (fw_t fw_h)))))))))))))))))))))))))))) fw_n)))))))) (fun _ h => fw_t (fw_l (fw_r h)))) (fun _ h => fw_t (fw_r h)))) (by decide +kernel)
set_option maxRecDepth 20000 in
theorem gX5_fits_X7_hasReach : GoodIn wsX5_fits (wsV RX5 52 RX7 yX7_hasReach wsX7_hasReach) := goodIn_app (goodIn_sub (fw_c (fw_t (fw_l (fw_l (fw_l (fw_l (fw_t (fw_t (fw_t (fw_t (fw_t (fw_t (fw_t (fw_t (fw_t (fw_t (fw_t fw_h)))))))))))))))) (fw_c (fw_t (fw_l (fw_l (fw_l (fw_l (fw_t (fw_t (fw_t (fw_t (fw_t (fw_t (fw_t (fw_t (fw_t (fw_t (fw_t (fw_t fw_h))))))))))))))))) (fw_c (fw_t (fw_l (fw_l (fw_l (fw_l (fw_t (fw_t (fw_t (fw_t (fw_t (fw_t (fw_t (fw_t (fw_t (fw_t (fw_t (fw_t (fw_t fw_h)))))))))))))))))) (fw_c (fw_t (fw_l (fw_l (fw_l (fw_l (fw_t (fw_t (fw_t (fw_t (fw_t (fw_t (fw_t (fw_t (fw_t (fw_t (fw_t (fw_t (fw_t (fw_t fw_h))))))))))))))))))) fw_n)))) (by decide +kernel)) ggX5_fits_X7_hasReach
set_option maxRecDepth 20000 in
theorem ggX5_fits_X7_reach : GoodIn wsX5_fits wsX7_reach := goodIn_sub (fw_c (fw_t (fw_l (fw_l (fw_l (fw_r (fw_l (fw_t (fw_t (fw_t fw_h))))))))) (fw_a (fw_a (fw_c (fw_t (fw_l (fw_l (fw_l (fw_l (fw_t (fw_t (fw_t (fw_t (fw_t (fw_t (fw_t (fw_t (fw_t (fw_t (fw_t (fw_t (fw_t (fw_t (fw_t (fw_t fw_h))))))))))))))))))))) (fw_c (fw_t (fw_l (fw_l (fw_l (fw_l (fw_t (fw_t (fw_t (fw_t (fw_t (fw_t (fw_t (fw_t (fw_t (fw_t (fw_t (fw_t (fw_t (fw_t (fw_t (fw_t (fw_t fw_h)))))))))))))))))))))) (fw_c (fw_t (fw_l (fw_l (fw_l (fw_r (fw_l (fw_t (fw_t (fw_t (fw_t fw_h)))))))))) (fw_c (fw_t (fw_l (fw_l (fw_l (fw_r (fw_l (fw_t (fw_t (fw_t (fw_t (fw_t fw_h))))))))))) (fw_c (fw_t (fw_l (fw_l (fw_l (fw_l (fw_t (fw_t (fw_t (fw_t fw_h))))))))) (fw_c (fw_t (fw_l (fw_l (fw_l (fw_r (fw_l (fw_t (fw_t (fw_t (fw_t (fw_t (fw_t fw_h)))))))))))) (fw_c (fw_t (fw_l (fw_l (fw_l (fw_r (fw_l (fw_t (fw_t (fw_t (fw_t (fw_t (fw_t (fw_t fw_h))))))))))))) (fw_c (fw_t (fw_l (fw_l (fw_l (fw_r (fw_l (fw_t (fw_t (fw_t (fw_t (fw_t (fw_t (fw_t (fw_t fw_h)))))))))))))) (fw_c (fw_t (fw_l (fw_l (fw_l (fw_r (fw_l (fw_t (fw_t (fw_t (fw_t (fw_t (fw_t (fw_t (fw_t (fw_t fw_h))))))))))))))) (fw_c (fw_t (fw_l (fw_l (fw_l (fw_l (fw_t (fw_t (fw_t (fw_t (fw_t (fw_t (fw_t (fw_t (fw_t (fw_t (fw_t (fw_t (fw_t (fw_t (fw_t (fw_t (fw_t (fw_t (fw_t (fw_t (fw_t fw_h)))))))))))))))))))))))))) (fw_c (fw_t (fw_l (fw_l (fw_l (fw_r (fw_l (fw_t (fw_t (fw_t (fw_t (fw_t (fw_t (fw_t (fw_t (fw_t (fw_t fw_h)))))))))))))))) (fw_c (fw_t (fw_l (fw_l (fw_l (fw_r (fw_l (fw_t (fw_t (fw_t (fw_t (fw_t (fw_t (fw_t (fw_t (fw_t (fw_t (fw_t fw_h))))))))))))))))) fw_n)))))))))))) (fun _ h => fw_t (fw_l (fw_r h)))) (fun _ h => fw_t (fw_r h)))) (by decide +kernel)
set_option maxRecDepth 20000 in
theorem gX5_fits_X7_reach : GoodIn wsX5_fits (wsV RX5 55 RX7 yX7_reach wsX7_reach) := goodIn_app (goodIn_sub (fw_c (fw_t (fw_l (fw_l (fw_l (fw_r (fw_l fw_h)))))) (fw_c (fw_t (fw_l (fw_l (fw_l (fw_r (fw_l (fw_t fw_h))))))) (fw_c (fw_t (fw_l (fw_l (fw_l (fw_r (fw_l (fw_t (fw_t fw_h)))))))) (fw_c (fw_t (fw_l (fw_l (fw_l (fw_l (fw_t (fw_t (fw_t (fw_t (fw_t (fw_t (fw_t (fw_t (fw_t (fw_t (fw_t (fw_t (fw_t (fw_t fw_h))))))))))))))))))) fw_n)))) (by decide +kernel)) ggX5_fits_X7_reach
set_option maxRecDepth 20000 in
theorem ggX5_fits_X5_spot : GoodIn wsX5_fits wsX5_spot := goodIn_sub (fw_c (fw_t (fw_l (fw_l (fw_l (fw_r (fw_l (fw_t (fw_t (fw_t (fw_t (fw_t (fw_t (fw_t (fw_t (fw_t (fw_t (fw_t (fw_t (fw_t (fw_t (fw_t fw_h))))))))))))))))))))) (fw_a (fw_a (fw_a (fw_a (fw_c (fw_t (fw_l (fw_l (fw_l (fw_l (fw_t fw_h)))))) (fw_c (fw_t (fw_l (fw_l (fw_l (fw_r (fw_l (fw_t (fw_t (fw_t (fw_t (fw_t (fw_t (fw_t (fw_t (fw_t (fw_t (fw_t (fw_t (fw_t (fw_t (fw_t (fw_t fw_h)))))))))))))))))))))) (fw_c (fw_t (fw_l (fw_l (fw_l (fw_r (fw_l (fw_t (fw_t (fw_t (fw_t (fw_t (fw_t (fw_t (fw_t (fw_t (fw_t (fw_t (fw_t (fw_t (fw_t (fw_t (fw_t (fw_t fw_h))))))))))))))))))))))) (fw_c (fw_t (fw_l (fw_l (fw_l (fw_r (fw_l (fw_t (fw_t (fw_t (fw_t (fw_t (fw_t (fw_t (fw_t (fw_t (fw_t (fw_t (fw_t (fw_t (fw_t (fw_t (fw_t (fw_t (fw_t fw_h)))))))))))))))))))))))) (fw_c (fw_t (fw_l (fw_l (fw_l (fw_r (fw_l (fw_t (fw_t (fw_t (fw_t (fw_t (fw_t (fw_t (fw_t (fw_t (fw_t (fw_t (fw_t (fw_t (fw_t (fw_t (fw_t (fw_t (fw_t (fw_t fw_h))))))))))))))))))))))))) (fw_c (fw_t (fw_l (fw_l (fw_l (fw_r (fw_l (fw_t (fw_t (fw_t (fw_t (fw_t (fw_t (fw_t (fw_t (fw_t (fw_t (fw_t (fw_t (fw_t (fw_t (fw_t (fw_t (fw_t (fw_t (fw_t (fw_t fw_h)))))))))))))))))))))))))) (fw_c (fw_t (fw_l (fw_l (fw_l (fw_l (fw_t (fw_t (fw_t (fw_t (fw_t (fw_t (fw_t (fw_t (fw_t (fw_t (fw_t (fw_t (fw_t (fw_t fw_h))))))))))))))))))) (fw_c (fw_t (fw_l (fw_l (fw_l (fw_r (fw_l (fw_t (fw_t (fw_t (fw_t (fw_t (fw_t (fw_t (fw_t (fw_t (fw_t (fw_t (fw_t (fw_t (fw_t (fw_t (fw_t (fw_t (fw_t (fw_t (fw_t (fw_t fw_h))))))))))))))))))))))))))) (fw_c (fw_t (fw_l (fw_l (fw_l (fw_l (fw_t (fw_t (fw_t (fw_t (fw_t (fw_t (fw_t (fw_t (fw_t (fw_t (fw_t (fw_t (fw_t (fw_t (fw_t (fw_t (fw_t fw_h)))))))))))))))))))))) (fw_c (fw_t (fw_l (fw_l (fw_l (fw_l (fw_t (fw_t (fw_t (fw_t (fw_t (fw_t (fw_t (fw_t (fw_t (fw_t (fw_t (fw_t (fw_t (fw_t (fw_t (fw_t fw_h))))))))))))))))))))) (fw_c (fw_t (fw_l (fw_l (fw_l (fw_r (fw_l (fw_t (fw_t (fw_t (fw_t (fw_t (fw_t (fw_t (fw_t (fw_t (fw_t (fw_t (fw_t (fw_t (fw_t (fw_t (fw_t (fw_t (fw_t (fw_t (fw_t (fw_t (fw_t fw_h)))))))))))))))))))))))))))) (fw_c (fw_t (fw_l (fw_l (fw_l (fw_r (fw_l (fw_t (fw_t (fw_t (fw_t (fw_t (fw_t (fw_t (fw_t (fw_t (fw_t (fw_t (fw_t (fw_t (fw_t (fw_t (fw_t (fw_t (fw_t (fw_t (fw_t (fw_t (fw_t (fw_t fw_h))))))))))))))))))))))))))))) (fw_c (fw_t (fw_l (fw_l (fw_l (fw_r (fw_r fw_h)))))) (fw_c (fw_t (fw_l (fw_l (fw_l (fw_l (fw_t (fw_t (fw_t (fw_t (fw_t (fw_t (fw_t (fw_t (fw_t (fw_t (fw_t (fw_t (fw_t (fw_t (fw_t (fw_t (fw_t (fw_t (fw_t (fw_t (fw_t fw_h)))))))))))))))))))))))))) (fw_c (fw_t (fw_l (fw_l (fw_l (fw_r (fw_r (fw_t fw_h))))))) (fw_c (fw_t (fw_l (fw_l (fw_l (fw_l (fw_t (fw_t (fw_t (fw_t (fw_t (fw_t (fw_t (fw_t (fw_t (fw_t (fw_t (fw_t (fw_t (fw_t (fw_t (fw_t (fw_t (fw_t (fw_t (fw_t (fw_t (fw_t (fw_t fw_h)))))))))))))))))))))))))))) (fw_c (fw_t (fw_l (fw_l (fw_l (fw_r (fw_r (fw_t (fw_t fw_h)))))))) (fw_c (fw_t (fw_l (fw_l (fw_l (fw_r (fw_r (fw_t (fw_t (fw_t fw_h))))))))) (fw_c (fw_t (fw_l (fw_l (fw_l (fw_r (fw_r (fw_t (fw_t (fw_t (fw_t fw_h)))))))))) (fw_c (fw_t (fw_l (fw_l (fw_l (fw_r (fw_r (fw_t (fw_t (fw_t (fw_t (fw_t fw_h))))))))))) (fw_c (fw_t (fw_l (fw_l (fw_l (fw_r (fw_r (fw_t (fw_t (fw_t (fw_t (fw_t (fw_t fw_h)))))))))))) (fw_c (fw_t (fw_l (fw_l (fw_l (fw_r (fw_r (fw_t (fw_t (fw_t (fw_t (fw_t (fw_t (fw_t fw_h))))))))))))) (fw_c (fw_t (fw_l (fw_l (fw_l (fw_r (fw_r (fw_t (fw_t (fw_t (fw_t (fw_t (fw_t (fw_t (fw_t fw_h)))))))))))))) (fw_c (fw_t (fw_l (fw_l (fw_l (fw_r (fw_r (fw_t (fw_t (fw_t (fw_t (fw_t (fw_t (fw_t (fw_t (fw_t fw_h))))))))))))))) fw_n)))))))))))))))))))))))) (fw_c (fw_t (fw_l (fw_l (fw_l (fw_r (fw_r (fw_t (fw_t (fw_t (fw_t (fw_t (fw_t (fw_t (fw_t (fw_t (fw_t fw_h)))))))))))))))) (fw_c (fw_t (fw_l (fw_l (fw_l (fw_r (fw_r (fw_t (fw_t (fw_t (fw_t (fw_t (fw_t (fw_t (fw_t (fw_t (fw_t (fw_t fw_h))))))))))))))))) fw_n))) (fun _ h => fw_t (fw_l (fw_l (fw_r h))))) (fun _ h => fw_t (fw_l (fw_r h)))) (fun _ h => fw_t (fw_r h)))) (by decide +kernel)
set_option maxRecDepth 20000 in
theorem gX5_fits_X5_spot : GoodIn wsX5_fits (wsV RX5 59 RX5 yX5_spot wsX5_spot) := goodIn_app (goodIn_sub (fw_c (fw_t (fw_l (fw_l (fw_l (fw_r (fw_l (fw_t (fw_t (fw_t (fw_t (fw_t (fw_t (fw_t (fw_t (fw_t (fw_t (fw_t (fw_t fw_h)))))))))))))))))) (fw_c (fw_t (fw_l (fw_l (fw_l (fw_r (fw_l (fw_t (fw_t (fw_t (fw_t (fw_t (fw_t (fw_t (fw_t (fw_t (fw_t (fw_t (fw_t (fw_t fw_h))))))))))))))))))) (fw_c (fw_t (fw_l (fw_l (fw_l (fw_r (fw_l (fw_t (fw_t (fw_t (fw_t (fw_t (fw_t (fw_t (fw_t (fw_t (fw_t (fw_t (fw_t (fw_t (fw_t fw_h)))))))))))))))))))) (fw_c (fw_t (fw_l (fw_l (fw_l (fw_l (fw_t (fw_t (fw_t (fw_t (fw_t (fw_t (fw_t (fw_t (fw_t fw_h)))))))))))))) fw_n)))) (by decide +kernel)) ggX5_fits_X5_spot
theorem dX5_fits_0 : decode cX5_fits 0 = .ok (.aload_n 0, 1) := by decide +kernel
theorem dX5_fits_1 : decode cX5_fits 1 = .ok (.aload_n 1, 1) := by decide +kernel
theorem dX5_fits_2 : decode cX5_fits 2 = .ok (.invokevirtual 48, 3) := by decide +kernel
theorem dX5_fits_5 : decode cX5_fits 5 = .ok (.ifCond .ne 14, 3) := by decide +kernel
theorem dX5_fits_8 : decode cX5_fits 8 = .ok (.aload_n 0, 1) := by decide +kernel
theorem dX5_fits_9 : decode cX5_fits 9 = .ok (.getfield 13, 3) := by decide +kernel
theorem dX5_fits_12 : decode cX5_fits 12 = .ok (.aload_n 1, 1) := by decide +kernel
theorem dX5_fits_13 : decode cX5_fits 13 = .ok (.getfield 13, 3) := by decide +kernel
theorem dX5_fits_16 : decode cX5_fits 16 = .ok (.if_icmp .eq 5, 3) := by decide +kernel
theorem dX5_fits_19 : decode cX5_fits 19 = .ok (.iconst 0, 1) := by decide +kernel
theorem dX5_fits_20 : decode cX5_fits 20 = .ok (.ireturn, 1) := by decide +kernel
theorem dX5_fits_21 : decode cX5_fits 21 = .ok (.aload_n 0, 1) := by decide +kernel
theorem dX5_fits_22 : decode cX5_fits 22 = .ok (.getfield 7, 3) := by decide +kernel
theorem dX5_fits_25 : decode cX5_fits 25 = .ok (.invokevirtual 52, 3) := by decide +kernel
theorem dX5_fits_28 : decode cX5_fits 28 = .ok (.ifCond .eq 13, 3) := by decide +kernel
theorem dX5_fits_31 : decode cX5_fits 31 = .ok (.aload_n 1, 1) := by decide +kernel
theorem dX5_fits_32 : decode cX5_fits 32 = .ok (.getfield 7, 3) := by decide +kernel
theorem dX5_fits_35 : decode cX5_fits 35 = .ok (.invokevirtual 52, 3) := by decide +kernel
theorem dX5_fits_38 : decode cX5_fits 38 = .ok (.ifCond .ne 5, 3) := by decide +kernel
theorem dX5_fits_41 : decode cX5_fits 41 = .ok (.iconst 0, 1) := by decide +kernel
theorem dX5_fits_42 : decode cX5_fits 42 = .ok (.ireturn, 1) := by decide +kernel
theorem dX5_fits_43 : decode cX5_fits 43 = .ok (.aload_n 0, 1) := by decide +kernel
theorem dX5_fits_44 : decode cX5_fits 44 = .ok (.getfield 7, 3) := by decide +kernel
theorem dX5_fits_47 : decode cX5_fits 47 = .ok (.invokevirtual 55, 3) := by decide +kernel
theorem dX5_fits_50 : decode cX5_fits 50 = .ok (.aload_n 1, 1) := by decide +kernel
theorem dX5_fits_51 : decode cX5_fits 51 = .ok (.getfield 7, 3) := by decide +kernel
theorem dX5_fits_54 : decode cX5_fits 54 = .ok (.invokevirtual 55, 3) := by decide +kernel
theorem dX5_fits_57 : decode cX5_fits 57 = .ok (.ladd, 1) := by decide +kernel
theorem dX5_fits_58 : decode cX5_fits 58 = .ok (.lstore_n 2, 1) := by decide +kernel
theorem dX5_fits_59 : decode cX5_fits 59 = .ok (.aload_n 0, 1) := by decide +kernel
theorem dX5_fits_60 : decode cX5_fits 60 = .ok (.iconst 0, 1) := by decide +kernel
theorem dX5_fits_61 : decode cX5_fits 61 = .ok (.invokevirtual 59, 3) := by decide +kernel
theorem dX5_fits_64 : decode cX5_fits 64 = .ok (.aload_n 1, 1) := by decide +kernel
theorem dX5_fits_65 : decode cX5_fits 65 = .ok (.iconst 0, 1) := by decide +kernel
theorem dX5_fits_66 : decode cX5_fits 66 = .ok (.invokevirtual 59, 3) := by decide +kernel
theorem dX5_fits_69 : decode cX5_fits 69 = .ok (.lsub, 1) := by decide +kernel
theorem dX5_fits_70 : decode cX5_fits 70 = .ok (.invokestatic 63, 3) := by decide +kernel
theorem dX5_fits_73 : decode cX5_fits 73 = .ok (.lload_n 2, 1) := by decide +kernel
theorem dX5_fits_74 : decode cX5_fits 74 = .ok (.lcmp, 1) := by decide +kernel
theorem dX5_fits_75 : decode cX5_fits 75 = .ok (.ifCond .gt 26, 3) := by decide +kernel
theorem dX5_fits_78 : decode cX5_fits 78 = .ok (.aload_n 0, 1) := by decide +kernel
theorem dX5_fits_79 : decode cX5_fits 79 = .ok (.iconst 1, 1) := by decide +kernel
theorem dX5_fits_80 : decode cX5_fits 80 = .ok (.invokevirtual 59, 3) := by decide +kernel
theorem dX5_fits_83 : decode cX5_fits 83 = .ok (.aload_n 1, 1) := by decide +kernel
theorem dX5_fits_84 : decode cX5_fits 84 = .ok (.iconst 1, 1) := by decide +kernel
theorem dX5_fits_85 : decode cX5_fits 85 = .ok (.invokevirtual 59, 3) := by decide +kernel
theorem dX5_fits_88 : decode cX5_fits 88 = .ok (.lsub, 1) := by decide +kernel
theorem dX5_fits_89 : decode cX5_fits 89 = .ok (.invokestatic 63, 3) := by decide +kernel
theorem dX5_fits_92 : decode cX5_fits 92 = .ok (.lload_n 2, 1) := by decide +kernel
theorem dX5_fits_93 : decode cX5_fits 93 = .ok (.lcmp, 1) := by decide +kernel
theorem dX5_fits_94 : decode cX5_fits 94 = .ok (.ifCond .gt 7, 3) := by decide +kernel
theorem dX5_fits_97 : decode cX5_fits 97 = .ok (.iconst 1, 1) := by decide +kernel
theorem dX5_fits_98 : decode cX5_fits 98 = .ok (.goto 4, 3) := by decide +kernel
theorem dX5_fits_101 : decode cX5_fits 101 = .ok (.iconst 0, 1) := by decide +kernel
theorem dX5_fits_102 : decode cX5_fits 102 = .ok (.ireturn, 1) := by decide +kernel
set_option maxRecDepth 20000 in
theorem ggX6_init_X9_init : GoodIn wsX6_init wsX9_init := goodIn_sub (fw_c (fw_t (fw_l (fw_l (fw_t (fw_t (fw_t (fw_t (fw_t (fw_t (fw_t (fw_t fw_h))))))))))) (fw_a (fw_c (fw_t (fw_l (fw_l (fw_t (fw_t (fw_t (fw_t (fw_t (fw_t (fw_t (fw_t (fw_t fw_h)))))))))))) (fw_c (fw_t (fw_l (fw_l (fw_t fw_h)))) (fw_c (fw_t (fw_l (fw_l (fw_t (fw_t fw_h))))) (fw_c (fw_t (fw_l (fw_l (fw_t (fw_t (fw_t (fw_t (fw_t (fw_t (fw_t (fw_t (fw_t (fw_t fw_h))))))))))))) (fw_c (fw_t (fw_l (fw_l (fw_t (fw_t (fw_t (fw_t (fw_t (fw_t (fw_t (fw_t (fw_t (fw_t (fw_t fw_h)))))))))))))) fw_n))))) (fun _ h => fw_t (fw_r h)))) (by decide +kernel)
set_option maxRecDepth 20000 in
theorem gX6_init_X9_init_n17 : GoodIn wsX6_init (wsX9_init) := ggX6_init_X9_init
theorem dX6_init_0 : decode cX6_init 0 = .ok (.aload_n 0, 1) := by decide +kernel
theorem dX6_init_1 : decode cX6_init 1 = .ok (.invokespecial 3, 3) := by decide +kernel
theorem dX6_init_4 : decode cX6_init 4 = .ok (.aload_n 0, 1) := by decide +kernel
theorem dX6_init_5 : decode cX6_init 5 = .ok (.bipush 20, 2) := by decide +kernel
theorem dX6_init_7 : decode cX6_init 7 = .ok (.anewarray 9, 3) := by decide +kernel
theorem dX6_init_10 : decode cX6_init 10 = .ok (.putfield 11, 3) := by decide +kernel
theorem dX6_init_13 : decode cX6_init 13 = .ok (.iconst 0, 1) := by decide +kernel
theorem dX6_init_14 : decode cX6_init 14 = .ok (.istore_n 1, 1) := by decide +kernel
theorem dX6_init_15 : decode cX6_init 15 = .ok (.iload_n 1, 1) := by decide +kernel
theorem dX6_init_16 : decode cX6_init 16 = .ok (.bipush 20, 2) := by decide +kernel
theorem dX6_init_18 : decode cX6_init 18 = .ok (.if_icmp .ge 22, 3) := by decide +kernel
theorem dX6_init_21 : decode cX6_init 21 = .ok (.aload_n 0, 1) := by decide +kernel
theorem dX6_init_22 : decode cX6_init 22 = .ok (.getfield 11, 3) := by decide +kernel
theorem dX6_init_25 : decode cX6_init 25 = .ok (.iload_n 1, 1) := by decide +kernel
theorem dX6_init_26 : decode cX6_init 26 = .ok (.new 9, 3) := by decide +kernel
theorem dX6_init_29 : decode cX6_init 29 = .ok (.dup, 1) := by decide +kernel
theorem dX6_init_30 : decode cX6_init 30 = .ok (.invokespecial 17, 3) := by decide +kernel
theorem dX6_init_33 : decode cX6_init 33 = .ok (.aastore, 1) := by decide +kernel
theorem dX6_init_34 : decode cX6_init 34 = .ok (.iinc 1 1, 3) := by decide +kernel
theorem dX6_init_37 : decode cX6_init 37 = .ok (.goto (-22), 3) := by decide +kernel
theorem dX6_init_40 : decode cX6_init 40 = .ok (.return_, 1) := by decide +kernel
theorem dX6_kept_0 : decode cX6_kept 0 = .ok (.aload_n 0, 1) := by decide +kernel
theorem dX6_kept_1 : decode cX6_kept 1 = .ok (.getfield 18, 3) := by decide +kernel
theorem dX6_kept_4 : decode cX6_kept 4 = .ok (.ireturn, 1) := by decide +kernel
theorem dX6_keep_0 : decode cX6_keep 0 = .ok (.aload_n 0, 1) := by decide +kernel
theorem dX6_keep_1 : decode cX6_keep 1 = .ok (.getfield 11, 3) := by decide +kernel
theorem dX6_keep_4 : decode cX6_keep 4 = .ok (.aload_n 0, 1) := by decide +kernel
theorem dX6_keep_5 : decode cX6_keep 5 = .ok (.getfield 22, 3) := by decide +kernel
theorem dX6_keep_8 : decode cX6_keep 8 = .ok (.aaload, 1) := by decide +kernel
theorem dX6_keep_9 : decode cX6_keep 9 = .ok (.astore_n 3, 1) := by decide +kernel
theorem dX6_keep_10 : decode cX6_keep 10 = .ok (.aload_n 3, 1) := by decide +kernel
theorem dX6_keep_11 : decode cX6_keep 11 = .ok (.iload_n 1, 1) := by decide +kernel
theorem dX6_keep_12 : decode cX6_keep 12 = .ok (.putfield 25, 3) := by decide +kernel
theorem dX6_keep_15 : decode cX6_keep 15 = .ok (.aload_n 3, 1) := by decide +kernel
theorem dX6_keep_16 : decode cX6_keep 16 = .ok (.iload_n 2, 1) := by decide +kernel
theorem dX6_keep_17 : decode cX6_keep 17 = .ok (.putfield 28, 3) := by decide +kernel
theorem dX6_keep_20 : decode cX6_keep 20 = .ok (.aload_n 0, 1) := by decide +kernel
theorem dX6_keep_21 : decode cX6_keep 21 = .ok (.aload_n 0, 1) := by decide +kernel
theorem dX6_keep_22 : decode cX6_keep 22 = .ok (.getfield 22, 3) := by decide +kernel
theorem dX6_keep_25 : decode cX6_keep 25 = .ok (.iconst 1, 1) := by decide +kernel
theorem dX6_keep_26 : decode cX6_keep 26 = .ok (.iadd, 1) := by decide +kernel
theorem dX6_keep_27 : decode cX6_keep 27 = .ok (.bipush 20, 2) := by decide +kernel
theorem dX6_keep_29 : decode cX6_keep 29 = .ok (.irem, 1) := by decide +kernel
theorem dX6_keep_30 : decode cX6_keep 30 = .ok (.putfield 22, 3) := by decide +kernel
theorem dX6_keep_33 : decode cX6_keep 33 = .ok (.aload_n 0, 1) := by decide +kernel
theorem dX6_keep_34 : decode cX6_keep 34 = .ok (.aload_n 0, 1) := by decide +kernel
theorem dX6_keep_35 : decode cX6_keep 35 = .ok (.getfield 18, 3) := by decide +kernel
theorem dX6_keep_38 : decode cX6_keep 38 = .ok (.iconst 1, 1) := by decide +kernel
theorem dX6_keep_39 : decode cX6_keep 39 = .ok (.iadd, 1) := by decide +kernel
theorem dX6_keep_40 : decode cX6_keep 40 = .ok (.bipush 20, 2) := by decide +kernel
theorem dX6_keep_42 : decode cX6_keep 42 = .ok (.invokestatic 31, 3) := by decide +kernel
theorem dX6_keep_45 : decode cX6_keep 45 = .ok (.putfield 18, 3) := by decide +kernel
theorem dX6_keep_48 : decode cX6_keep 48 = .ok (.aload_n 3, 1) := by decide +kernel
theorem dX6_keep_49 : decode cX6_keep 49 = .ok (.areturn, 1) := by decide +kernel
theorem dX6_takeLatest_0 : decode cX6_takeLatest 0 = .ok (.aload_n 0, 1) := by decide +kernel
theorem dX6_takeLatest_1 : decode cX6_takeLatest 1 = .ok (.getfield 18, 3) := by decide +kernel
theorem dX6_takeLatest_4 : decode cX6_takeLatest 4 = .ok (.ifCond .ne 5, 3) := by decide +kernel
theorem dX6_takeLatest_7 : decode cX6_takeLatest 7 = .ok (.aconst_null, 1) := by decide +kernel
theorem dX6_takeLatest_8 : decode cX6_takeLatest 8 = .ok (.areturn, 1) := by decide +kernel
theorem dX6_takeLatest_9 : decode cX6_takeLatest 9 = .ok (.aload_n 0, 1) := by decide +kernel
theorem dX6_takeLatest_10 : decode cX6_takeLatest 10 = .ok (.dup, 1) := by decide +kernel
theorem dX6_takeLatest_11 : decode cX6_takeLatest 11 = .ok (.getfield 18, 3) := by decide +kernel
theorem dX6_takeLatest_14 : decode cX6_takeLatest 14 = .ok (.iconst 1, 1) := by decide +kernel
theorem dX6_takeLatest_15 : decode cX6_takeLatest 15 = .ok (.isub, 1) := by decide +kernel
theorem dX6_takeLatest_16 : decode cX6_takeLatest 16 = .ok (.putfield 18, 3) := by decide +kernel
theorem dX6_takeLatest_19 : decode cX6_takeLatest 19 = .ok (.aload_n 0, 1) := by decide +kernel
theorem dX6_takeLatest_20 : decode cX6_takeLatest 20 = .ok (.aload_n 0, 1) := by decide +kernel
theorem dX6_takeLatest_21 : decode cX6_takeLatest 21 = .ok (.getfield 22, 3) := by decide +kernel
theorem dX6_takeLatest_24 : decode cX6_takeLatest 24 = .ok (.bipush 20, 2) := by decide +kernel
theorem dX6_takeLatest_26 : decode cX6_takeLatest 26 = .ok (.iadd, 1) := by decide +kernel
theorem dX6_takeLatest_27 : decode cX6_takeLatest 27 = .ok (.iconst 1, 1) := by decide +kernel
theorem dX6_takeLatest_28 : decode cX6_takeLatest 28 = .ok (.isub, 1) := by decide +kernel
theorem dX6_takeLatest_29 : decode cX6_takeLatest 29 = .ok (.bipush 20, 2) := by decide +kernel
theorem dX6_takeLatest_31 : decode cX6_takeLatest 31 = .ok (.irem, 1) := by decide +kernel
theorem dX6_takeLatest_32 : decode cX6_takeLatest 32 = .ok (.putfield 22, 3) := by decide +kernel
theorem dX6_takeLatest_35 : decode cX6_takeLatest 35 = .ok (.aload_n 0, 1) := by decide +kernel
theorem dX6_takeLatest_36 : decode cX6_takeLatest 36 = .ok (.getfield 11, 3) := by decide +kernel
theorem dX6_takeLatest_39 : decode cX6_takeLatest 39 = .ok (.aload_n 0, 1) := by decide +kernel
theorem dX6_takeLatest_40 : decode cX6_takeLatest 40 = .ok (.getfield 22, 3) := by decide +kernel
theorem dX6_takeLatest_43 : decode cX6_takeLatest 43 = .ok (.aaload, 1) := by decide +kernel
theorem dX6_takeLatest_44 : decode cX6_takeLatest 44 = .ok (.areturn, 1) := by decide +kernel
set_option maxRecDepth 20000 in
theorem ggX7_init_X4_init : GoodIn wsX7_init wsX4_init := goodIn_sub (fw_c (fw_t (fw_l (fw_l (fw_t (fw_t (fw_t (fw_t (fw_t (fw_t (fw_t (fw_t (fw_t (fw_t fw_h))))))))))))) (fw_a (fw_c (fw_t (fw_l (fw_l (fw_t (fw_t (fw_t (fw_t (fw_t (fw_t (fw_t (fw_t (fw_t (fw_t (fw_t fw_h)))))))))))))) (fw_c (fw_t (fw_l (fw_l (fw_t fw_h)))) (fw_c (fw_t (fw_l (fw_l (fw_t (fw_t fw_h))))) (fw_c (fw_t (fw_l (fw_l (fw_t (fw_t (fw_t (fw_t (fw_t (fw_t (fw_t (fw_t (fw_t (fw_t (fw_t (fw_t fw_h))))))))))))))) (fw_c (fw_t (fw_l (fw_l (fw_t (fw_t (fw_t (fw_t (fw_t (fw_t (fw_t (fw_t (fw_t (fw_t (fw_t (fw_t (fw_t fw_h)))))))))))))))) (fw_c (fw_t (fw_l (fw_l (fw_t (fw_t (fw_t (fw_t (fw_t (fw_t (fw_t (fw_t (fw_t (fw_t (fw_t (fw_t (fw_t (fw_t fw_h))))))))))))))))) fw_n)))))) (fun _ h => fw_t (fw_l (fw_r h))))) (by decide +kernel)
set_option maxRecDepth 20000 in
theorem gX7_init_X4_init_n9 : GoodIn wsX7_init (wsX4_init) := ggX7_init_X4_init
theorem dX7_init_0 : decode cX7_init 0 = .ok (.aload_n 0, 1) := by decide +kernel
theorem dX7_init_1 : decode cX7_init 1 = .ok (.invokespecial 1, 3) := by decide +kernel
theorem dX7_init_4 : decode cX7_init 4 = .ok (.aload_n 0, 1) := by decide +kernel
theorem dX7_init_5 : decode cX7_init 5 = .ok (.new 7, 3) := by decide +kernel
theorem dX7_init_8 : decode cX7_init 8 = .ok (.dup, 1) := by decide +kernel
theorem dX7_init_9 : decode cX7_init 9 = .ok (.invokespecial 9, 3) := by decide +kernel
theorem dX7_init_12 : decode cX7_init 12 = .ok (.putfield 10, 3) := by decide +kernel
theorem dX7_init_15 : decode cX7_init 15 = .ok (.aload_n 0, 1) := by decide +kernel
theorem dX7_init_16 : decode cX7_init 16 = .ok (.new 7, 3) := by decide +kernel
theorem dX7_init_19 : decode cX7_init 19 = .ok (.dup, 1) := by decide +kernel
theorem dX7_init_20 : decode cX7_init 20 = .ok (.invokespecial 9, 3) := by decide +kernel
theorem dX7_init_23 : decode cX7_init 23 = .ok (.putfield 16, 3) := by decide +kernel
theorem dX7_init_26 : decode cX7_init 26 = .ok (.aload_n 0, 1) := by decide +kernel
theorem dX7_init_27 : decode cX7_init 27 = .ok (.iload_n 1, 1) := by decide +kernel
theorem dX7_init_28 : decode cX7_init 28 = .ok (.putfield 19, 3) := by decide +kernel
theorem dX7_init_31 : decode cX7_init 31 = .ok (.return_, 1) := by decide +kernel
set_option maxRecDepth 20000 in
theorem ggX7_size_X4_size : GoodIn wsX7_size wsX4_size := goodIn_sub (fw_c (fw_t (fw_l (fw_l (fw_t (fw_t (fw_t (fw_t (fw_t fw_h)))))))) (fw_a (fw_c (fw_t (fw_l (fw_l (fw_t (fw_t (fw_t (fw_t (fw_t (fw_t fw_h))))))))) fw_n) (fun _ h => fw_t (fw_r h)))) (by decide +kernel)
set_option maxRecDepth 20000 in
theorem gX7_size_X4_size : GoodIn wsX7_size (wsV RX7 23 RX4 yX4_size wsX4_size) := goodIn_app (goodIn_sub (fw_c (fw_t (fw_l (fw_l (fw_t fw_h)))) (fw_c (fw_t (fw_l (fw_l (fw_t (fw_t fw_h))))) (fw_c (fw_t (fw_l (fw_l (fw_t (fw_t (fw_t fw_h)))))) (fw_c (fw_t (fw_l (fw_l (fw_t (fw_t (fw_t (fw_t fw_h))))))) fw_n)))) (by decide +kernel)) ggX7_size_X4_size
theorem dX7_size_0 : decode cX7_size 0 = .ok (.aload_n 0, 1) := by decide +kernel
theorem dX7_size_1 : decode cX7_size 1 = .ok (.getfield 10, 3) := by decide +kernel
theorem dX7_size_4 : decode cX7_size 4 = .ok (.invokevirtual 23, 3) := by decide +kernel
theorem dX7_size_7 : decode cX7_size 7 = .ok (.ireturn, 1) := by decide +kernel
theorem dX7_way_0 : decode cX7_way 0 = .ok (.iload_n 1, 1) := by decide +kernel
theorem dX7_way_1 : decode cX7_way 1 = .ok (.ifCond .eq 10, 3) := by decide +kernel
theorem dX7_way_4 : decode cX7_way 4 = .ok (.aload_n 0, 1) := by decide +kernel
theorem dX7_way_5 : decode cX7_way 5 = .ok (.getfield 16, 3) := by decide +kernel
theorem dX7_way_8 : decode cX7_way 8 = .ok (.goto 7, 3) := by decide +kernel
theorem dX7_way_11 : decode cX7_way 11 = .ok (.aload_n 0, 1) := by decide +kernel
theorem dX7_way_12 : decode cX7_way 12 = .ok (.getfield 10, 3) := by decide +kernel
theorem dX7_way_15 : decode cX7_way 15 = .ok (.areturn, 1) := by decide +kernel
set_option maxRecDepth 20000 in
theorem ggX7_addPlace_X4_add : GoodIn wsX7_addPlace wsX4_add := goodIn_sub (fw_c (fw_t (fw_l (fw_l (fw_l (fw_t (fw_t (fw_t (fw_t (fw_t (fw_t fw_h)))))))))) (fw_a (fw_a (fw_c (fw_t (fw_l (fw_l (fw_l (fw_t (fw_t (fw_t (fw_t (fw_t (fw_t (fw_t fw_h))))))))))) (fw_c (fw_t (fw_l (fw_l (fw_l (fw_t (fw_t (fw_t (fw_t (fw_t (fw_t (fw_t (fw_t fw_h)))))))))))) (fw_c (fw_t (fw_l (fw_l (fw_l (fw_t (fw_t (fw_t (fw_t (fw_t (fw_t (fw_t (fw_t (fw_t fw_h))))))))))))) (fw_c (fw_t (fw_l (fw_l (fw_l (fw_t (fw_t (fw_t (fw_t (fw_t (fw_t (fw_t (fw_t (fw_t (fw_t fw_h)))))))))))))) (fw_c (fw_t (fw_l (fw_l (fw_l (fw_t (fw_t (fw_t (fw_t (fw_t (fw_t (fw_t (fw_t (fw_t (fw_t (fw_t fw_h))))))))))))))) (fw_c (fw_t (fw_l (fw_l (fw_l (fw_t (fw_t (fw_t (fw_t (fw_t (fw_t (fw_t (fw_t (fw_t (fw_t (fw_t (fw_t fw_h)))))))))))))))) (fw_c (fw_t (fw_l (fw_l (fw_l (fw_t (fw_t (fw_t (fw_t (fw_t fw_h))))))))) (fw_c (fw_t (fw_l (fw_l (fw_l (fw_t (fw_t (fw_t (fw_t (fw_t (fw_t (fw_t (fw_t (fw_t (fw_t (fw_t (fw_t (fw_t fw_h))))))))))))))))) (fw_c (fw_t (fw_l (fw_l (fw_l (fw_t (fw_t (fw_t (fw_t (fw_t (fw_t (fw_t (fw_t (fw_t (fw_t (fw_t (fw_t (fw_t (fw_t fw_h)))))))))))))))))) (fw_c (fw_t (fw_l (fw_l (fw_l (fw_t (fw_t (fw_t (fw_t (fw_t (fw_t (fw_t (fw_t (fw_t (fw_t (fw_t (fw_t (fw_t (fw_t (fw_t fw_h))))))))))))))))))) (fw_c (fw_t (fw_l (fw_l (fw_l (fw_t (fw_t (fw_t (fw_t (fw_t (fw_t (fw_t (fw_t (fw_t (fw_t (fw_t (fw_t (fw_t (fw_t (fw_t (fw_t fw_h)))))))))))))))))))) (fw_c (fw_t (fw_l (fw_l (fw_l (fw_t (fw_t (fw_t (fw_t (fw_t (fw_t (fw_t (fw_t (fw_t (fw_t (fw_t (fw_t (fw_t (fw_t (fw_t (fw_t (fw_t fw_h))))))))))))))))))))) (fw_c (fw_t (fw_l (fw_l (fw_l (fw_t (fw_t (fw_t (fw_t (fw_t (fw_t (fw_t (fw_t (fw_t (fw_t (fw_t (fw_t (fw_t (fw_t (fw_t (fw_t (fw_t (fw_t fw_h)))))))))))))))))))))) (fw_c (fw_t (fw_l (fw_l (fw_l (fw_t (fw_t (fw_t (fw_t (fw_t (fw_t (fw_t (fw_t (fw_t (fw_t (fw_t (fw_t (fw_t (fw_t (fw_t (fw_t (fw_t (fw_t (fw_t fw_h))))))))))))))))))))))) (fw_c (fw_t (fw_l (fw_l (fw_l (fw_t (fw_t (fw_t (fw_t (fw_t (fw_t (fw_t (fw_t (fw_t (fw_t (fw_t (fw_t (fw_t (fw_t (fw_t (fw_t (fw_t (fw_t (fw_t (fw_t fw_h)))))))))))))))))))))))) (fw_c (fw_t (fw_l (fw_l (fw_l (fw_t (fw_t (fw_t (fw_t (fw_t (fw_t (fw_t (fw_t (fw_t (fw_t (fw_t (fw_t (fw_t (fw_t (fw_t (fw_t (fw_t (fw_t (fw_t (fw_t (fw_t fw_h))))))))))))))))))))))))) (fw_c (fw_t (fw_l (fw_l (fw_l (fw_t (fw_t (fw_t (fw_t (fw_t (fw_t (fw_t (fw_t (fw_t (fw_t (fw_t (fw_t (fw_t (fw_t (fw_t (fw_t (fw_t (fw_t (fw_t (fw_t (fw_t (fw_t fw_h)))))))))))))))))))))))))) (fw_c (fw_t (fw_l (fw_l (fw_l (fw_t (fw_t (fw_t (fw_t (fw_t (fw_t (fw_t (fw_t (fw_t (fw_t (fw_t (fw_t (fw_t (fw_t (fw_t (fw_t (fw_t (fw_t (fw_t (fw_t (fw_t (fw_t (fw_t fw_h))))))))))))))))))))))))))) (fw_c (fw_t (fw_l (fw_l (fw_r fw_h)))) (fw_c (fw_t (fw_l (fw_l (fw_r (fw_t fw_h))))) (fw_c (fw_t (fw_l (fw_l (fw_r (fw_t (fw_t fw_h)))))) (fw_c (fw_t (fw_l (fw_l (fw_r (fw_t (fw_t (fw_t fw_h))))))) (fw_c (fw_t (fw_l (fw_l (fw_r (fw_t (fw_t (fw_t (fw_t fw_h)))))))) (fw_c (fw_t (fw_l (fw_l (fw_r (fw_t (fw_t (fw_t (fw_t (fw_t fw_h))))))))) fw_n)))))))))))))))))))))))) (fw_c (fw_t (fw_l (fw_l (fw_r (fw_t (fw_t (fw_t (fw_t (fw_t (fw_t fw_h)))))))))) (fw_c (fw_t (fw_l (fw_l (fw_r (fw_t (fw_t (fw_t (fw_t (fw_t (fw_t (fw_t fw_h))))))))))) (fw_c (fw_t (fw_l (fw_l (fw_r (fw_t (fw_t (fw_t (fw_t (fw_t (fw_t (fw_t (fw_t fw_h)))))))))))) (fw_c (fw_t (fw_l (fw_l (fw_r (fw_t (fw_t (fw_t (fw_t (fw_t (fw_t (fw_t (fw_t (fw_t fw_h))))))))))))) fw_n))))) (fun _ h => fw_t (fw_r h)))) (by decide +kernel)
set_option maxRecDepth 20000 in
theorem gX7_addPlace_X4_add : GoodIn wsX7_addPlace (wsV RX7 27 RX4 yX4_add wsX4_add) := goodIn_app (goodIn_sub (fw_c (fw_t (fw_l (fw_l (fw_l (fw_t (fw_t fw_h)))))) (fw_c (fw_t (fw_l (fw_l (fw_l (fw_t (fw_t (fw_t fw_h))))))) (fw_c (fw_t (fw_l (fw_l (fw_l (fw_t (fw_t (fw_t (fw_t fw_h)))))))) (fw_c (fw_t (fw_l (fw_l (fw_l (fw_t (fw_t (fw_t (fw_t (fw_t fw_h))))))))) fw_n)))) (by decide +kernel)) ggX7_addPlace_X4_add
theorem dX7_addPlace_0 : decode cX7_addPlace 0 = .ok (.aload_n 0, 1) := by decide +kernel
theorem dX7_addPlace_1 : decode cX7_addPlace 1 = .ok (.getfield 10, 3) := by decide +kernel
theorem dX7_addPlace_4 : decode cX7_addPlace 4 = .ok (.iload_n 1, 1) := by decide +kernel
theorem dX7_addPlace_5 : decode cX7_addPlace 5 = .ok (.iload_n 3, 1) := by decide +kernel
theorem dX7_addPlace_6 : decode cX7_addPlace 6 = .ok (.invokevirtual 27, 3) := by decide +kernel
theorem dX7_addPlace_9 : decode cX7_addPlace 9 = .ok (.aload_n 0, 1) := by decide +kernel
theorem dX7_addPlace_10 : decode cX7_addPlace 10 = .ok (.getfield 16, 3) := by decide +kernel
theorem dX7_addPlace_13 : decode cX7_addPlace 13 = .ok (.iload_n 2, 1) := by decide +kernel
theorem dX7_addPlace_14 : decode cX7_addPlace 14 = .ok (.iload 4, 2) := by decide +kernel
theorem dX7_addPlace_16 : decode cX7_addPlace 16 = .ok (.invokevirtual 27, 3) := by decide +kernel
theorem dX7_addPlace_19 : decode cX7_addPlace 19 = .ok (.return_, 1) := by decide +kernel
set_option maxRecDepth 20000 in
theorem ggX7_dropPlace_X4_drop : GoodIn wsX7_dropPlace wsX4_drop := goodIn_sub (fw_c (fw_t (fw_l (fw_l (fw_l (fw_t (fw_t (fw_t (fw_t (fw_t (fw_t fw_h)))))))))) (fw_a (fw_a (fw_c (fw_t (fw_l (fw_l (fw_l (fw_t (fw_t (fw_t (fw_t (fw_t (fw_t (fw_t fw_h))))))))))) (fw_c (fw_t (fw_l (fw_l (fw_l (fw_t (fw_t (fw_t (fw_t (fw_t (fw_t (fw_t (fw_t fw_h)))))))))))) (fw_c (fw_t (fw_l (fw_l (fw_l (fw_t (fw_t (fw_t (fw_t (fw_t (fw_t (fw_t (fw_t (fw_t fw_h))))))))))))) (fw_c (fw_t (fw_l (fw_l (fw_l (fw_t (fw_t (fw_t (fw_t (fw_t (fw_t (fw_t (fw_t (fw_t (fw_t fw_h)))))))))))))) (fw_c (fw_t (fw_l (fw_l (fw_l (fw_t (fw_t (fw_t (fw_t (fw_t fw_h))))))))) (fw_c (fw_t (fw_l (fw_l (fw_l (fw_t (fw_t (fw_t (fw_t (fw_t (fw_t (fw_t (fw_t (fw_t (fw_t (fw_t fw_h))))))))))))))) (fw_c (fw_t (fw_l (fw_l (fw_l (fw_t (fw_t (fw_t (fw_t (fw_t (fw_t (fw_t (fw_t (fw_t (fw_t (fw_t (fw_t fw_h)))))))))))))))) (fw_c (fw_t (fw_l (fw_l (fw_l (fw_t (fw_t (fw_t (fw_t (fw_t (fw_t (fw_t (fw_t (fw_t (fw_t (fw_t (fw_t (fw_t fw_h))))))))))))))))) (fw_c (fw_t (fw_l (fw_l (fw_l (fw_t (fw_t (fw_t (fw_t (fw_t (fw_t (fw_t (fw_t (fw_t (fw_t (fw_t (fw_t (fw_t (fw_t fw_h)))))))))))))))))) (fw_c (fw_t (fw_l (fw_l (fw_l (fw_t (fw_t (fw_t (fw_t (fw_t (fw_t (fw_t (fw_t (fw_t (fw_t (fw_t (fw_t (fw_t (fw_t (fw_t fw_h))))))))))))))))))) (fw_c (fw_t (fw_l (fw_l (fw_l (fw_t (fw_t (fw_t (fw_t (fw_t (fw_t (fw_t (fw_t (fw_t (fw_t (fw_t (fw_t (fw_t (fw_t (fw_t (fw_t fw_h)))))))))))))))))))) (fw_c (fw_t (fw_l (fw_l (fw_l (fw_t (fw_t (fw_t (fw_t (fw_t (fw_t (fw_t (fw_t (fw_t (fw_t (fw_t (fw_t (fw_t (fw_t (fw_t (fw_t (fw_t fw_h))))))))))))))))))))) (fw_c (fw_t (fw_l (fw_l (fw_l (fw_t (fw_t (fw_t (fw_t (fw_t (fw_t (fw_t (fw_t (fw_t (fw_t (fw_t (fw_t (fw_t (fw_t (fw_t (fw_t (fw_t (fw_t fw_h)))))))))))))))))))))) (fw_c (fw_t (fw_l (fw_l (fw_l (fw_t (fw_t (fw_t (fw_t (fw_t (fw_t (fw_t (fw_t (fw_t (fw_t (fw_t (fw_t (fw_t (fw_t (fw_t (fw_t (fw_t (fw_t (fw_t fw_h))))))))))))))))))))))) (fw_c (fw_t (fw_l (fw_l (fw_l (fw_t (fw_t (fw_t (fw_t (fw_t (fw_t (fw_t (fw_t (fw_t (fw_t (fw_t (fw_t (fw_t (fw_t (fw_t (fw_t (fw_t (fw_t (fw_t (fw_t fw_h)))))))))))))))))))))))) (fw_c (fw_t (fw_l (fw_l (fw_l (fw_t (fw_t (fw_t (fw_t (fw_t (fw_t (fw_t (fw_t (fw_t (fw_t (fw_t (fw_t (fw_t (fw_t (fw_t (fw_t (fw_t (fw_t (fw_t (fw_t (fw_t fw_h))))))))))))))))))))))))) (fw_c (fw_t (fw_l (fw_l (fw_l (fw_t (fw_t (fw_t (fw_t (fw_t (fw_t (fw_t (fw_t (fw_t (fw_t (fw_t (fw_t (fw_t (fw_t (fw_t (fw_t (fw_t (fw_t (fw_t (fw_t (fw_t (fw_t fw_h)))))))))))))))))))))))))) (fw_c (fw_t (fw_l (fw_l (fw_l (fw_t (fw_t (fw_t (fw_t (fw_t (fw_t (fw_t (fw_t (fw_t (fw_t (fw_t (fw_t (fw_t (fw_t (fw_t (fw_t (fw_t (fw_t (fw_t (fw_t (fw_t (fw_t (fw_t fw_h))))))))))))))))))))))))))) (fw_c (fw_t (fw_l (fw_l (fw_r fw_h)))) (fw_c (fw_t (fw_l (fw_l (fw_r (fw_t fw_h))))) (fw_c (fw_t (fw_l (fw_l (fw_r (fw_t (fw_t fw_h)))))) (fw_c (fw_t (fw_l (fw_l (fw_r (fw_t (fw_t (fw_t fw_h))))))) (fw_c (fw_t (fw_l (fw_l (fw_r (fw_t (fw_t (fw_t (fw_t fw_h)))))))) (fw_c (fw_t (fw_l (fw_l (fw_r (fw_t (fw_t (fw_t (fw_t (fw_t fw_h))))))))) fw_n)))))))))))))))))))))))) (fw_c (fw_t (fw_l (fw_l (fw_r (fw_t (fw_t (fw_t (fw_t (fw_t (fw_t fw_h)))))))))) (fw_c (fw_t (fw_l (fw_l (fw_r (fw_t (fw_t (fw_t (fw_t (fw_t (fw_t (fw_t fw_h))))))))))) (fw_c (fw_t (fw_l (fw_l (fw_r (fw_t (fw_t (fw_t (fw_t (fw_t (fw_t (fw_t (fw_t fw_h)))))))))))) (fw_c (fw_t (fw_l (fw_l (fw_r (fw_t (fw_t (fw_t (fw_t (fw_t (fw_t (fw_t (fw_t (fw_t fw_h))))))))))))) fw_n))))) (fun _ h => fw_t (fw_r h)))) (by decide +kernel)
set_option maxRecDepth 20000 in
theorem gX7_dropPlace_X4_drop : GoodIn wsX7_dropPlace (wsV RX7 31 RX4 yX4_drop wsX4_drop) := goodIn_app (goodIn_sub (fw_c (fw_t (fw_l (fw_l (fw_l (fw_t (fw_t fw_h)))))) (fw_c (fw_t (fw_l (fw_l (fw_l (fw_t (fw_t (fw_t fw_h))))))) (fw_c (fw_t (fw_l (fw_l (fw_l (fw_t (fw_t (fw_t (fw_t fw_h)))))))) (fw_c (fw_t (fw_l (fw_l (fw_l (fw_t (fw_t (fw_t (fw_t (fw_t fw_h))))))))) fw_n)))) (by decide +kernel)) ggX7_dropPlace_X4_drop
theorem dX7_dropPlace_0 : decode cX7_dropPlace 0 = .ok (.aload_n 0, 1) := by decide +kernel
theorem dX7_dropPlace_1 : decode cX7_dropPlace 1 = .ok (.getfield 10, 3) := by decide +kernel
theorem dX7_dropPlace_4 : decode cX7_dropPlace 4 = .ok (.invokevirtual 31, 3) := by decide +kernel
theorem dX7_dropPlace_7 : decode cX7_dropPlace 7 = .ok (.aload_n 0, 1) := by decide +kernel
theorem dX7_dropPlace_8 : decode cX7_dropPlace 8 = .ok (.getfield 16, 3) := by decide +kernel
theorem dX7_dropPlace_11 : decode cX7_dropPlace 11 = .ok (.invokevirtual 31, 3) := by decide +kernel
theorem dX7_dropPlace_14 : decode cX7_dropPlace 14 = .ok (.return_, 1) := by decide +kernel
set_option maxRecDepth 20000 in
theorem ggX7_saveLatest_X4_latestFrom : GoodIn wsX7_saveLatest wsX4_latestFrom := goodIn_sub (fw_c (fw_t (fw_l (fw_l (fw_l (fw_t (fw_t (fw_t (fw_t (fw_t (fw_t fw_h)))))))))) (fw_a (fw_c (fw_t (fw_l (fw_l (fw_l (fw_t (fw_t (fw_t (fw_t (fw_t (fw_t (fw_t fw_h))))))))))) (fw_c (fw_t (fw_l (fw_l (fw_l (fw_t (fw_t (fw_t (fw_t (fw_t (fw_t (fw_t (fw_t fw_h)))))))))))) fw_n)) (fun _ h => fw_t (fw_r h)))) (by decide +kernel)
set_option maxRecDepth 20000 in
theorem gX7_saveLatest_X4_latestFrom : GoodIn wsX7_saveLatest (wsV RX7 40 RX4 yX4_latestFrom wsX4_latestFrom) := goodIn_app (goodIn_sub (fw_c (fw_t (fw_l (fw_l (fw_l (fw_t (fw_t fw_h)))))) (fw_c (fw_t (fw_l (fw_l (fw_l (fw_t (fw_t (fw_t fw_h))))))) (fw_c (fw_t (fw_l (fw_l (fw_l (fw_t (fw_t (fw_t (fw_t fw_h)))))))) (fw_c (fw_t (fw_l (fw_l (fw_l (fw_t (fw_t (fw_t (fw_t (fw_t fw_h))))))))) fw_n)))) (by decide +kernel)) ggX7_saveLatest_X4_latestFrom
set_option maxRecDepth 20000 in
theorem ggX7_saveLatest_X4_latestTo : GoodIn wsX7_saveLatest wsX4_latestTo := goodIn_sub (fw_c (fw_t (fw_l (fw_l (fw_l (fw_t (fw_t (fw_t (fw_t (fw_t (fw_t (fw_t (fw_t (fw_t (fw_t (fw_t (fw_t fw_h)))))))))))))))) (fw_a (fw_c (fw_t (fw_l (fw_l (fw_l (fw_t (fw_t (fw_t (fw_t (fw_t (fw_t (fw_t fw_h))))))))))) (fw_c (fw_t (fw_l (fw_l (fw_l (fw_t (fw_t (fw_t (fw_t (fw_t (fw_t (fw_t (fw_t (fw_t (fw_t (fw_t (fw_t (fw_t fw_h))))))))))))))))) fw_n)) (fun _ h => fw_t (fw_r h)))) (by decide +kernel)
set_option maxRecDepth 20000 in
theorem gX7_saveLatest_X4_latestTo : GoodIn wsX7_saveLatest (wsV RX7 43 RX4 yX4_latestTo wsX4_latestTo) := goodIn_app (goodIn_sub (fw_c (fw_t (fw_l (fw_l (fw_l (fw_t (fw_t (fw_t (fw_t (fw_t (fw_t (fw_t (fw_t (fw_t fw_h))))))))))))) (fw_c (fw_t (fw_l (fw_l (fw_l (fw_t (fw_t (fw_t (fw_t (fw_t (fw_t (fw_t (fw_t (fw_t (fw_t fw_h)))))))))))))) (fw_c (fw_t (fw_l (fw_l (fw_l (fw_t (fw_t (fw_t (fw_t (fw_t (fw_t (fw_t (fw_t (fw_t (fw_t (fw_t fw_h))))))))))))))) (fw_c (fw_t (fw_l (fw_l (fw_l (fw_t (fw_t (fw_t (fw_t (fw_t fw_h))))))))) fw_n)))) (by decide +kernel)) ggX7_saveLatest_X4_latestTo
theorem dX7_saveLatest_0 : decode cX7_saveLatest 0 = .ok (.aload_n 1, 1) := by decide +kernel
theorem dX7_saveLatest_1 : decode cX7_saveLatest 1 = .ok (.getfield 34, 3) := by decide +kernel
theorem dX7_saveLatest_4 : decode cX7_saveLatest 4 = .ok (.iconst 0, 1) := by decide +kernel
theorem dX7_saveLatest_5 : decode cX7_saveLatest 5 = .ok (.aload_n 0, 1) := by decide +kernel
theorem dX7_saveLatest_6 : decode cX7_saveLatest 6 = .ok (.getfield 10, 3) := by decide +kernel
theorem dX7_saveLatest_9 : decode cX7_saveLatest 9 = .ok (.invokevirtual 40, 3) := by decide +kernel
theorem dX7_saveLatest_12 : decode cX7_saveLatest 12 = .ok (.iastore, 1) := by decide +kernel
theorem dX7_saveLatest_13 : decode cX7_saveLatest 13 = .ok (.aload_n 1, 1) := by decide +kernel
theorem dX7_saveLatest_14 : decode cX7_saveLatest 14 = .ok (.getfield 34, 3) := by decide +kernel
theorem dX7_saveLatest_17 : decode cX7_saveLatest 17 = .ok (.iconst 1, 1) := by decide +kernel
theorem dX7_saveLatest_18 : decode cX7_saveLatest 18 = .ok (.aload_n 0, 1) := by decide +kernel
theorem dX7_saveLatest_19 : decode cX7_saveLatest 19 = .ok (.getfield 16, 3) := by decide +kernel
theorem dX7_saveLatest_22 : decode cX7_saveLatest 22 = .ok (.invokevirtual 40, 3) := by decide +kernel
theorem dX7_saveLatest_25 : decode cX7_saveLatest 25 = .ok (.iastore, 1) := by decide +kernel
theorem dX7_saveLatest_26 : decode cX7_saveLatest 26 = .ok (.aload_n 1, 1) := by decide +kernel
theorem dX7_saveLatest_27 : decode cX7_saveLatest 27 = .ok (.getfield 34, 3) := by decide +kernel
theorem dX7_saveLatest_30 : decode cX7_saveLatest 30 = .ok (.iconst 2, 1) := by decide +kernel
theorem dX7_saveLatest_31 : decode cX7_saveLatest 31 = .ok (.aload_n 0, 1) := by decide +kernel
theorem dX7_saveLatest_32 : decode cX7_saveLatest 32 = .ok (.getfield 10, 3) := by decide +kernel
theorem dX7_saveLatest_35 : decode cX7_saveLatest 35 = .ok (.invokevirtual 43, 3) := by decide +kernel
theorem dX7_saveLatest_38 : decode cX7_saveLatest 38 = .ok (.iastore, 1) := by decide +kernel
theorem dX7_saveLatest_39 : decode cX7_saveLatest 39 = .ok (.aload_n 1, 1) := by decide +kernel
theorem dX7_saveLatest_40 : decode cX7_saveLatest 40 = .ok (.getfield 34, 3) := by decide +kernel
theorem dX7_saveLatest_43 : decode cX7_saveLatest 43 = .ok (.iconst 3, 1) := by decide +kernel
theorem dX7_saveLatest_44 : decode cX7_saveLatest 44 = .ok (.aload_n 0, 1) := by decide +kernel
theorem dX7_saveLatest_45 : decode cX7_saveLatest 45 = .ok (.getfield 16, 3) := by decide +kernel
theorem dX7_saveLatest_48 : decode cX7_saveLatest 48 = .ok (.invokevirtual 43, 3) := by decide +kernel
theorem dX7_saveLatest_51 : decode cX7_saveLatest 51 = .ok (.iastore, 1) := by decide +kernel
theorem dX7_saveLatest_52 : decode cX7_saveLatest 52 = .ok (.return_, 1) := by decide +kernel
set_option maxRecDepth 20000 in
theorem ggX7_hasReach_X4_isThere : GoodIn wsX7_hasReach wsX4_isThere := goodIn_sub (fw_c (fw_t (fw_l (fw_l (fw_t (fw_t (fw_t (fw_t (fw_t (fw_t fw_h))))))))) (fw_a (fw_c (fw_t (fw_l (fw_l (fw_t (fw_t (fw_t (fw_t (fw_t (fw_t (fw_t fw_h)))))))))) fw_n) (fun _ h => fw_t (fw_r h)))) (by decide +kernel)
set_option maxRecDepth 20000 in
theorem gX7_hasReach_X4_isThere : GoodIn wsX7_hasReach (wsV RX7 46 RX4 yX4_isThere wsX4_isThere) := goodIn_app (goodIn_sub (fw_c (fw_t (fw_l (fw_l (fw_t (fw_t fw_h))))) (fw_c (fw_t (fw_l (fw_l (fw_t (fw_t (fw_t fw_h)))))) (fw_c (fw_t (fw_l (fw_l (fw_t (fw_t (fw_t (fw_t fw_h))))))) (fw_c (fw_t (fw_l (fw_l (fw_t (fw_t (fw_t (fw_t (fw_t fw_h)))))))) fw_n)))) (by decide +kernel)) ggX7_hasReach_X4_isThere
theorem dX7_hasReach_0 : decode cX7_hasReach 0 = .ok (.aload_n 0, 1) := by decide +kernel
theorem dX7_hasReach_1 : decode cX7_hasReach 1 = .ok (.getfield 10, 3) := by decide +kernel
theorem dX7_hasReach_4 : decode cX7_hasReach 4 = .ok (.invokevirtual 46, 3) := by decide +kernel
theorem dX7_hasReach_7 : decode cX7_hasReach 7 = .ok (.ifCond .eq 17, 3) := by decide +kernel
theorem dX7_hasReach_10 : decode cX7_hasReach 10 = .ok (.aload_n 0, 1) := by decide +kernel
theorem dX7_hasReach_11 : decode cX7_hasReach 11 = .ok (.getfield 16, 3) := by decide +kernel
theorem dX7_hasReach_14 : decode cX7_hasReach 14 = .ok (.invokevirtual 46, 3) := by decide +kernel
theorem dX7_hasReach_17 : decode cX7_hasReach 17 = .ok (.ifCond .eq 7, 3) := by decide +kernel
theorem dX7_hasReach_20 : decode cX7_hasReach 20 = .ok (.iconst 1, 1) := by decide +kernel
theorem dX7_hasReach_21 : decode cX7_hasReach 21 = .ok (.goto 4, 3) := by decide +kernel
theorem dX7_hasReach_24 : decode cX7_hasReach 24 = .ok (.iconst 0, 1) := by decide +kernel
theorem dX7_hasReach_25 : decode cX7_hasReach 25 = .ok (.ireturn, 1) := by decide +kernel
set_option maxRecDepth 20000 in
theorem ggX7_reach_X4_worst : GoodIn wsX7_reach wsX4_worst := goodIn_sub (fw_c (fw_t (fw_l (fw_l (fw_t (fw_t (fw_t (fw_t (fw_t (fw_t (fw_t (fw_t (fw_t (fw_t fw_h))))))))))))) (fw_a (fw_c (fw_t (fw_l (fw_l (fw_t (fw_t (fw_t (fw_t (fw_t (fw_t (fw_t (fw_t (fw_t (fw_t (fw_t fw_h)))))))))))))) fw_n) (fun _ h => fw_t (fw_r h)))) (by decide +kernel)
set_option maxRecDepth 20000 in
theorem gX7_reach_X4_worst : GoodIn wsX7_reach (wsV RX7 50 RX4 yX4_worst wsX4_worst) := goodIn_app (goodIn_sub (fw_c (fw_t (fw_l (fw_l (fw_t (fw_t (fw_t (fw_t (fw_t (fw_t fw_h))))))))) (fw_c (fw_t (fw_l (fw_l (fw_t (fw_t (fw_t (fw_t (fw_t (fw_t (fw_t fw_h)))))))))) (fw_c (fw_t (fw_l (fw_l (fw_t (fw_t (fw_t (fw_t (fw_t (fw_t (fw_t (fw_t fw_h))))))))))) (fw_c (fw_t (fw_l (fw_l (fw_t (fw_t (fw_t (fw_t (fw_t (fw_t (fw_t (fw_t (fw_t fw_h)))))))))))) fw_n)))) (by decide +kernel)) ggX7_reach_X4_worst
theorem dX7_reach_0 : decode cX7_reach 0 = .ok (.aload_n 0, 1) := by decide +kernel
theorem dX7_reach_1 : decode cX7_reach 1 = .ok (.getfield 10, 3) := by decide +kernel
theorem dX7_reach_4 : decode cX7_reach 4 = .ok (.invokevirtual 50, 3) := by decide +kernel
theorem dX7_reach_7 : decode cX7_reach 7 = .ok (.aload_n 0, 1) := by decide +kernel
theorem dX7_reach_8 : decode cX7_reach 8 = .ok (.getfield 16, 3) := by decide +kernel
theorem dX7_reach_11 : decode cX7_reach 11 = .ok (.invokevirtual 50, 3) := by decide +kernel
theorem dX7_reach_14 : decode cX7_reach 14 = .ok (.invokestatic 54, 3) := by decide +kernel
theorem dX7_reach_17 : decode cX7_reach 17 = .ok (.lconst 1, 1) := by decide +kernel
theorem dX7_reach_18 : decode cX7_reach 18 = .ok (.ladd, 1) := by decide +kernel
theorem dX7_reach_19 : decode cX7_reach 19 = .ok (.lreturn, 1) := by decide +kernel
theorem dX8_init_0 : decode cX8_init 0 = .ok (.aload_n 0, 1) := by decide +kernel
theorem dX8_init_1 : decode cX8_init 1 = .ok (.invokespecial 3, 3) := by decide +kernel
theorem dX8_init_4 : decode cX8_init 4 = .ok (.aload_n 0, 1) := by decide +kernel
theorem dX8_init_5 : decode cX8_init 5 = .ok (.bipush 16, 2) := by decide +kernel
theorem dX8_init_7 : decode cX8_init 7 = .ok (.newarray .int, 2) := by decide +kernel
theorem dX8_init_9 : decode cX8_init 9 = .ok (.putfield 9, 3) := by decide +kernel
theorem dX8_init_12 : decode cX8_init 12 = .ok (.return_, 1) := by decide +kernel
theorem dX8_isMissing_0 : decode cX8_isMissing 0 = .ok (.aload_n 0, 1) := by decide +kernel
theorem dX8_isMissing_1 : decode cX8_isMissing 1 = .ok (.getfield 15, 3) := by decide +kernel
theorem dX8_isMissing_4 : decode cX8_isMissing 4 = .ok (.ifCond .ne 7, 3) := by decide +kernel
theorem dX8_isMissing_7 : decode cX8_isMissing 7 = .ok (.iconst 1, 1) := by decide +kernel
theorem dX8_isMissing_8 : decode cX8_isMissing 8 = .ok (.goto 4, 3) := by decide +kernel
theorem dX8_isMissing_11 : decode cX8_isMissing 11 = .ok (.iconst 0, 1) := by decide +kernel
theorem dX8_isMissing_12 : decode cX8_isMissing 12 = .ok (.ireturn, 1) := by decide +kernel
theorem dX8_bits_0 : decode cX8_bits 0 = .ok (.aload_n 0, 1) := by decide +kernel
theorem dX8_bits_1 : decode cX8_bits 1 = .ok (.getfield 15, 3) := by decide +kernel
theorem dX8_bits_4 : decode cX8_bits 4 = .ok (.ireturn, 1) := by decide +kernel
theorem dX8_size_0 : decode cX8_size 0 = .ok (.aload_n 0, 1) := by decide +kernel
theorem dX8_size_1 : decode cX8_size 1 = .ok (.getfield 19, 3) := by decide +kernel
theorem dX8_size_4 : decode cX8_size 4 = .ok (.ireturn, 1) := by decide +kernel
set_option maxRecDepth 20000 in
theorem ggX8_become_J7_fill_53178 : GoodIn wsX8_become wsJ7_fill_53178 := goodIn_r _ [7] (by decide +kernel) (by decide +kernel)
set_option maxRecDepth 20000 in
theorem gX8_become_J7_fill_53178 : GoodIn wsX8_become (va_wsS RX8 22 yJ7_fill_53178 wsJ7_fill_53178) := goodIn_app (goodIn_sub (fw_c (fw_t (fw_l (fw_t (fw_t (fw_t fw_h))))) (fw_c (fw_t (fw_l (fw_t (fw_t (fw_t (fw_t fw_h)))))) (fw_c (fw_t (fw_l (fw_t (fw_t (fw_t (fw_t (fw_t fw_h))))))) fw_n))) (by decide +kernel)) ggX8_become_J7_fill_53178
theorem dX8_become_0 : decode cX8_become 0 = .ok (.aload_n 0, 1) := by decide +kernel
theorem dX8_become_1 : decode cX8_become 1 = .ok (.iload_n 1, 1) := by decide +kernel
theorem dX8_become_2 : decode cX8_become 2 = .ok (.putfield 15, 3) := by decide +kernel
theorem dX8_become_5 : decode cX8_become 5 = .ok (.aload_n 0, 1) := by decide +kernel
theorem dX8_become_6 : decode cX8_become 6 = .ok (.iload_n 1, 1) := by decide +kernel
theorem dX8_become_7 : decode cX8_become 7 = .ok (.ifCond .ne 7, 3) := by decide +kernel
theorem dX8_become_10 : decode cX8_become 10 = .ok (.iconst 0, 1) := by decide +kernel
theorem dX8_become_11 : decode cX8_become 11 = .ok (.goto 4, 3) := by decide +kernel
theorem dX8_become_14 : decode cX8_become 14 = .ok (.iload_n 2, 1) := by decide +kernel
theorem dX8_become_15 : decode cX8_become 15 = .ok (.putfield 19, 3) := by decide +kernel
theorem dX8_become_18 : decode cX8_become 18 = .ok (.aload_n 0, 1) := by decide +kernel
theorem dX8_become_19 : decode cX8_become 19 = .ok (.getfield 9, 3) := by decide +kernel
theorem dX8_become_22 : decode cX8_become 22 = .ok (.iconst 0, 1) := by decide +kernel
theorem dX8_become_23 : decode cX8_become 23 = .ok (.invokestatic 22, 3) := by decide +kernel
theorem dX8_become_26 : decode cX8_become 26 = .ok (.return_, 1) := by decide +kernel
theorem dX8_hasRun_0 : decode cX8_hasRun 0 = .ok (.iload_n 1, 1) := by decide +kernel
theorem dX8_hasRun_1 : decode cX8_hasRun 1 = .ok (.ifCond .lt 29, 3) := by decide +kernel
theorem dX8_hasRun_4 : decode cX8_hasRun 4 = .ok (.iload_n 2, 1) := by decide +kernel
theorem dX8_hasRun_5 : decode cX8_hasRun 5 = .ok (.ifCond .lt 25, 3) := by decide +kernel
theorem dX8_hasRun_8 : decode cX8_hasRun 8 = .ok (.iload_n 1, 1) := by decide +kernel
theorem dX8_hasRun_9 : decode cX8_hasRun 9 = .ok (.aload_n 0, 1) := by decide +kernel
theorem dX8_hasRun_10 : decode cX8_hasRun 10 = .ok (.getfield 19, 3) := by decide +kernel
theorem dX8_hasRun_13 : decode cX8_hasRun 13 = .ok (.if_icmp .gt 17, 3) := by decide +kernel
theorem dX8_hasRun_16 : decode cX8_hasRun 16 = .ok (.iload_n 2, 1) := by decide +kernel
theorem dX8_hasRun_17 : decode cX8_hasRun 17 = .ok (.aload_n 0, 1) := by decide +kernel
theorem dX8_hasRun_18 : decode cX8_hasRun 18 = .ok (.getfield 19, 3) := by decide +kernel
theorem dX8_hasRun_21 : decode cX8_hasRun 21 = .ok (.iload_n 1, 1) := by decide +kernel
theorem dX8_hasRun_22 : decode cX8_hasRun 22 = .ok (.isub, 1) := by decide +kernel
theorem dX8_hasRun_23 : decode cX8_hasRun 23 = .ok (.if_icmp .gt 7, 3) := by decide +kernel
theorem dX8_hasRun_26 : decode cX8_hasRun 26 = .ok (.iconst 1, 1) := by decide +kernel
theorem dX8_hasRun_27 : decode cX8_hasRun 27 = .ok (.goto 4, 3) := by decide +kernel
theorem dX8_hasRun_30 : decode cX8_hasRun 30 = .ok (.iconst 0, 1) := by decide +kernel
theorem dX8_hasRun_31 : decode cX8_hasRun 31 = .ok (.ireturn, 1) := by decide +kernel
theorem dX8_write_0 : decode cX8_write 0 = .ok (.iload_n 1, 1) := by decide +kernel
theorem dX8_write_1 : decode cX8_write 1 = .ok (.ifCond .lt 40, 3) := by decide +kernel
theorem dX8_write_4 : decode cX8_write 4 = .ok (.iload_n 1, 1) := by decide +kernel
theorem dX8_write_5 : decode cX8_write 5 = .ok (.aload_n 0, 1) := by decide +kernel
theorem dX8_write_6 : decode cX8_write 6 = .ok (.getfield 19, 3) := by decide +kernel
theorem dX8_write_9 : decode cX8_write 9 = .ok (.if_icmp .ge 32, 3) := by decide +kernel
theorem dX8_write_12 : decode cX8_write 12 = .ok (.aload_n 0, 1) := by decide +kernel
theorem dX8_write_13 : decode cX8_write 13 = .ok (.getfield 9, 3) := by decide +kernel
theorem dX8_write_16 : decode cX8_write 16 = .ok (.iload_n 1, 1) := by decide +kernel
theorem dX8_write_17 : decode cX8_write 17 = .ok (.aload_n 0, 1) := by decide +kernel
theorem dX8_write_18 : decode cX8_write 18 = .ok (.getfield 15, 3) := by decide +kernel
theorem dX8_write_21 : decode cX8_write 21 = .ok (.bipush 32, 2) := by decide +kernel
theorem dX8_write_23 : decode cX8_write 23 = .ok (.if_icmp .ne 7, 3) := by decide +kernel
theorem dX8_write_26 : decode cX8_write 26 = .ok (.iload_n 2, 1) := by decide +kernel
theorem dX8_write_27 : decode cX8_write 27 = .ok (.goto 13, 3) := by decide +kernel
theorem dX8_write_30 : decode cX8_write 30 = .ok (.iload_n 2, 1) := by decide +kernel
theorem dX8_write_31 : decode cX8_write 31 = .ok (.iconst 1, 1) := by decide +kernel
theorem dX8_write_32 : decode cX8_write 32 = .ok (.aload_n 0, 1) := by decide +kernel
theorem dX8_write_33 : decode cX8_write 33 = .ok (.getfield 15, 3) := by decide +kernel
theorem dX8_write_36 : decode cX8_write 36 = .ok (.ishl, 1) := by decide +kernel
theorem dX8_write_37 : decode cX8_write 37 = .ok (.iconst 1, 1) := by decide +kernel
theorem dX8_write_38 : decode cX8_write 38 = .ok (.isub, 1) := by decide +kernel
theorem dX8_write_39 : decode cX8_write 39 = .ok (.iand, 1) := by decide +kernel
theorem dX8_write_40 : decode cX8_write 40 = .ok (.iastore, 1) := by decide +kernel
theorem dX8_write_41 : decode cX8_write 41 = .ok (.return_, 1) := by decide +kernel
set_option maxRecDepth 20000 in
theorem ggX8_take_X8_hasRun : GoodIn wsX8_take wsX8_hasRun := goodIn_sub (fw_c (fw_t (fw_l (fw_t (fw_t (fw_t (fw_t (fw_t (fw_t (fw_t (fw_t (fw_t fw_h))))))))))) (fw_a (fw_c (fw_t (fw_l (fw_t (fw_t (fw_t (fw_t (fw_t (fw_t (fw_t (fw_t (fw_t (fw_t fw_h)))))))))))) fw_n) (fun _ h => fw_t (fw_r h)))) (by decide +kernel)
set_option maxRecDepth 20000 in
theorem gX8_take_X8_hasRun : GoodIn wsX8_take (wsV RX8 28 RX8 yX8_hasRun wsX8_hasRun) := goodIn_app (goodIn_sub (fw_c (fw_t (fw_l (fw_t (fw_t (fw_t (fw_t (fw_t fw_h))))))) (fw_c (fw_t (fw_l (fw_t (fw_t (fw_t (fw_t (fw_t (fw_t fw_h)))))))) (fw_c (fw_t (fw_l (fw_t (fw_t (fw_t (fw_t (fw_t (fw_t (fw_t fw_h))))))))) (fw_c (fw_t (fw_l (fw_t (fw_t (fw_t (fw_t (fw_t (fw_t (fw_t (fw_t fw_h)))))))))) fw_n)))) (by decide +kernel)) ggX8_take_X8_hasRun
theorem dX8_take_0 : decode cX8_take 0 = .ok (.aload_n 1, 1) := by decide +kernel
theorem dX8_take_1 : decode cX8_take 1 = .ok (.iload_n 2, 1) := by decide +kernel
theorem dX8_take_2 : decode cX8_take 2 = .ok (.iload 4, 2) := by decide +kernel
theorem dX8_take_4 : decode cX8_take 4 = .ok (.invokevirtual 28, 3) := by decide +kernel
theorem dX8_take_7 : decode cX8_take 7 = .ok (.ifCond .eq 28, 3) := by decide +kernel
theorem dX8_take_10 : decode cX8_take 10 = .ok (.aload_n 0, 1) := by decide +kernel
theorem dX8_take_11 : decode cX8_take 11 = .ok (.iload_n 3, 1) := by decide +kernel
theorem dX8_take_12 : decode cX8_take 12 = .ok (.iload 4, 2) := by decide +kernel
theorem dX8_take_14 : decode cX8_take 14 = .ok (.invokevirtual 28, 3) := by decide +kernel
theorem dX8_take_17 : decode cX8_take 17 = .ok (.ifCond .eq 18, 3) := by decide +kernel
theorem dX8_take_20 : decode cX8_take 20 = .ok (.aload_n 1, 1) := by decide +kernel
theorem dX8_take_21 : decode cX8_take 21 = .ok (.getfield 9, 3) := by decide +kernel
theorem dX8_take_24 : decode cX8_take 24 = .ok (.iload_n 2, 1) := by decide +kernel
theorem dX8_take_25 : decode cX8_take 25 = .ok (.aload_n 0, 1) := by decide +kernel
theorem dX8_take_26 : decode cX8_take 26 = .ok (.getfield 9, 3) := by decide +kernel
theorem dX8_take_29 : decode cX8_take 29 = .ok (.iload_n 3, 1) := by decide +kernel
theorem dX8_take_30 : decode cX8_take 30 = .ok (.iload 4, 2) := by decide +kernel
theorem dX8_take_32 : decode cX8_take 32 = .ok (.invokestatic 32, 3) := by decide +kernel
theorem dX8_take_35 : decode cX8_take 35 = .ok (.return_, 1) := by decide +kernel
set_option maxRecDepth 20000 in
theorem ggX8_holdsSigns_X11_isSign : GoodIn wsX8_holdsSigns wsX11_isSign := goodIn_sub (fw_c (fw_t (fw_l (fw_t (fw_t (fw_t (fw_t fw_h)))))) (fw_c (fw_t (fw_l (fw_t (fw_t (fw_t (fw_t (fw_t fw_h))))))) (fw_c (fw_t (fw_l (fw_t (fw_t (fw_t (fw_t (fw_t (fw_t fw_h)))))))) (fw_c (fw_t (fw_l (fw_t (fw_t (fw_t fw_h))))) (fw_c (fw_t (fw_l (fw_t (fw_t (fw_t (fw_t (fw_t (fw_t (fw_t fw_h))))))))) fw_n))))) (by decide +kernel)
set_option maxRecDepth 20000 in
theorem gX8_holdsSigns_X11_isSign_n38 : GoodIn wsX8_holdsSigns (wsX11_isSign) := ggX8_holdsSigns_X11_isSign
theorem dX8_holdsSigns_0 : decode cX8_holdsSigns 0 = .ok (.iconst 0, 1) := by decide +kernel
theorem dX8_holdsSigns_1 : decode cX8_holdsSigns 1 = .ok (.istore_n 1, 1) := by decide +kernel
theorem dX8_holdsSigns_2 : decode cX8_holdsSigns 2 = .ok (.iload_n 1, 1) := by decide +kernel
theorem dX8_holdsSigns_3 : decode cX8_holdsSigns 3 = .ok (.aload_n 0, 1) := by decide +kernel
theorem dX8_holdsSigns_4 : decode cX8_holdsSigns 4 = .ok (.getfield 19, 3) := by decide +kernel
theorem dX8_holdsSigns_7 : decode cX8_holdsSigns 7 = .ok (.if_icmp .ge 23, 3) := by decide +kernel
theorem dX8_holdsSigns_10 : decode cX8_holdsSigns 10 = .ok (.aload_n 0, 1) := by decide +kernel
theorem dX8_holdsSigns_11 : decode cX8_holdsSigns 11 = .ok (.getfield 9, 3) := by decide +kernel
theorem dX8_holdsSigns_14 : decode cX8_holdsSigns 14 = .ok (.iload_n 1, 1) := by decide +kernel
theorem dX8_holdsSigns_15 : decode cX8_holdsSigns 15 = .ok (.iaload, 1) := by decide +kernel
theorem dX8_holdsSigns_16 : decode cX8_holdsSigns 16 = .ok (.invokestatic 38, 3) := by decide +kernel
theorem dX8_holdsSigns_19 : decode cX8_holdsSigns 19 = .ok (.ifCond .ne 5, 3) := by decide +kernel
theorem dX8_holdsSigns_22 : decode cX8_holdsSigns 22 = .ok (.iconst 0, 1) := by decide +kernel
theorem dX8_holdsSigns_23 : decode cX8_holdsSigns 23 = .ok (.ireturn, 1) := by decide +kernel
theorem dX8_holdsSigns_24 : decode cX8_holdsSigns 24 = .ok (.iinc 1 1, 3) := by decide +kernel
theorem dX8_holdsSigns_27 : decode cX8_holdsSigns 27 = .ok (.goto (-25), 3) := by decide +kernel
theorem dX8_holdsSigns_30 : decode cX8_holdsSigns 30 = .ok (.iconst 1, 1) := by decide +kernel
theorem dX8_holdsSigns_31 : decode cX8_holdsSigns 31 = .ok (.ireturn, 1) := by decide +kernel
theorem dX9_init_0 : decode cX9_init 0 = .ok (.aload_n 0, 1) := by decide +kernel
theorem dX9_init_1 : decode cX9_init 1 = .ok (.invokespecial 3, 3) := by decide +kernel
theorem dX9_init_4 : decode cX9_init 4 = .ok (.aload_n 0, 1) := by decide +kernel
theorem dX9_init_5 : decode cX9_init 5 = .ok (.bipush 12, 2) := by decide +kernel
theorem dX9_init_7 : decode cX9_init 7 = .ok (.newarray .int, 2) := by decide +kernel
theorem dX9_init_9 : decode cX9_init 9 = .ok (.putfield 9, 3) := by decide +kernel
theorem dX9_init_12 : decode cX9_init 12 = .ok (.return_, 1) := by decide +kernel
set_option maxRecDepth 20000 in
theorem ggX10_init_J7_fill_53178 : GoodIn wsX10_init wsJ7_fill_53178 := goodIn_r _ [10] (by decide +kernel) (by decide +kernel)
set_option maxRecDepth 20000 in
theorem gX10_init_J7_fill_53178 : GoodIn wsX10_init (va_wsS RX10 18 yJ7_fill_53178 wsJ7_fill_53178) := goodIn_app (goodIn_sub (fw_c (fw_t (fw_l (fw_t (fw_t (fw_t (fw_t (fw_t (fw_t fw_h)))))))) (fw_c (fw_t (fw_l (fw_t (fw_t (fw_t (fw_t (fw_t (fw_t (fw_t fw_h))))))))) (fw_c (fw_t (fw_l (fw_t (fw_t (fw_t (fw_t (fw_t (fw_t (fw_t (fw_t fw_h)))))))))) fw_n))) (by decide +kernel)) ggX10_init_J7_fill_53178
theorem dX10_init_0 : decode cX10_init 0 = .ok (.aload_n 0, 1) := by decide +kernel
theorem dX10_init_1 : decode cX10_init 1 = .ok (.invokespecial 3, 3) := by decide +kernel
theorem dX10_init_4 : decode cX10_init 4 = .ok (.aload_n 0, 1) := by decide +kernel
theorem dX10_init_5 : decode cX10_init 5 = .ok (.bipush 64, 2) := by decide +kernel
theorem dX10_init_7 : decode cX10_init 7 = .ok (.newarray .int, 2) := by decide +kernel
theorem dX10_init_9 : decode cX10_init 9 = .ok (.putfield 11, 3) := by decide +kernel
theorem dX10_init_12 : decode cX10_init 12 = .ok (.aload_n 0, 1) := by decide +kernel
theorem dX10_init_13 : decode cX10_init 13 = .ok (.bipush 64, 2) := by decide +kernel
theorem dX10_init_15 : decode cX10_init 15 = .ok (.newarray .int, 2) := by decide +kernel
theorem dX10_init_17 : decode cX10_init 17 = .ok (.putfield 15, 3) := by decide +kernel
theorem dX10_init_20 : decode cX10_init 20 = .ok (.aload_n 0, 1) := by decide +kernel
theorem dX10_init_21 : decode cX10_init 21 = .ok (.getfield 11, 3) := by decide +kernel
theorem dX10_init_24 : decode cX10_init 24 = .ok (.iconst 1, 1) := by decide +kernel
theorem dX10_init_25 : decode cX10_init 25 = .ok (.invokestatic 18, 3) := by decide +kernel
theorem dX10_init_28 : decode cX10_init 28 = .ok (.aload_n 0, 1) := by decide +kernel
theorem dX10_init_29 : decode cX10_init 29 = .ok (.getfield 15, 3) := by decide +kernel
theorem dX10_init_32 : decode cX10_init 32 = .ok (.iconst 2, 1) := by decide +kernel
theorem dX10_init_33 : decode cX10_init 33 = .ok (.invokestatic 18, 3) := by decide +kernel
theorem dX10_init_36 : decode cX10_init 36 = .ok (.return_, 1) := by decide +kernel
set_option maxRecDepth 20000 in
theorem ggX10_cell_X11_isLevel : GoodIn wsX10_cell wsX11_isLevel := goodIn_sub (fw_c (fw_t (fw_t (fw_t fw_h))) (fw_c (fw_t (fw_t (fw_t (fw_t fw_h)))) (fw_c (fw_t (fw_t (fw_t (fw_t (fw_t fw_h))))) (fw_c (fw_t (fw_t fw_h)) (fw_c (fw_t (fw_t (fw_t (fw_t (fw_t (fw_t fw_h)))))) fw_n))))) (by decide +kernel)
set_option maxRecDepth 20000 in
theorem gX10_cell_X11_isLevel_n24 : GoodIn wsX10_cell (wsX11_isLevel) := ggX10_cell_X11_isLevel
theorem dX10_cell_0 : decode cX10_cell 0 = .ok (.iload_n 0, 1) := by decide +kernel
theorem dX10_cell_1 : decode cX10_cell 1 = .ok (.invokestatic 24, 3) := by decide +kernel
theorem dX10_cell_4 : decode cX10_cell 4 = .ok (.ifCond .eq 29, 3) := by decide +kernel
theorem dX10_cell_7 : decode cX10_cell 7 = .ok (.iload_n 1, 1) := by decide +kernel
theorem dX10_cell_8 : decode cX10_cell 8 = .ok (.invokestatic 24, 3) := by decide +kernel
theorem dX10_cell_11 : decode cX10_cell 11 = .ok (.ifCond .eq 22, 3) := by decide +kernel
theorem dX10_cell_14 : decode cX10_cell 14 = .ok (.iload_n 2, 1) := by decide +kernel
theorem dX10_cell_15 : decode cX10_cell 15 = .ok (.invokestatic 24, 3) := by decide +kernel
theorem dX10_cell_18 : decode cX10_cell 18 = .ok (.ifCond .eq 15, 3) := by decide +kernel
theorem dX10_cell_21 : decode cX10_cell 21 = .ok (.iload_n 0, 1) := by decide +kernel
theorem dX10_cell_22 : decode cX10_cell 22 = .ok (.iconst 4, 1) := by decide +kernel
theorem dX10_cell_23 : decode cX10_cell 23 = .ok (.imul, 1) := by decide +kernel
theorem dX10_cell_24 : decode cX10_cell 24 = .ok (.iload_n 1, 1) := by decide +kernel
theorem dX10_cell_25 : decode cX10_cell 25 = .ok (.iadd, 1) := by decide +kernel
theorem dX10_cell_26 : decode cX10_cell 26 = .ok (.iconst 4, 1) := by decide +kernel
theorem dX10_cell_27 : decode cX10_cell 27 = .ok (.imul, 1) := by decide +kernel
theorem dX10_cell_28 : decode cX10_cell 28 = .ok (.iload_n 2, 1) := by decide +kernel
theorem dX10_cell_29 : decode cX10_cell 29 = .ok (.iadd, 1) := by decide +kernel
theorem dX10_cell_30 : decode cX10_cell 30 = .ok (.goto 4, 3) := by decide +kernel
theorem dX10_cell_33 : decode cX10_cell 33 = .ok (.iconst 0, 1) := by decide +kernel
theorem dX10_cell_34 : decode cX10_cell 34 = .ok (.ireturn, 1) := by decide +kernel
set_option maxRecDepth 20000 in
theorem ggX10_upper_X10_cell : GoodIn wsX10_upper wsX10_cell := goodIn_sub (fw_c (fw_t (fw_l (fw_t (fw_t (fw_t (fw_t fw_h)))))) (fw_c (fw_t (fw_l (fw_t (fw_t (fw_t (fw_t (fw_t fw_h))))))) (fw_c (fw_t (fw_l (fw_t (fw_t (fw_t (fw_t (fw_t (fw_t fw_h)))))))) (fw_c (fw_t (fw_l (fw_t (fw_t (fw_t (fw_t (fw_t (fw_t (fw_t fw_h))))))))) (fw_c (fw_t (fw_l (fw_t (fw_t (fw_t (fw_t (fw_t (fw_t (fw_t (fw_t fw_h)))))))))) (fw_c (fw_t (fw_l (fw_t (fw_t (fw_t (fw_t (fw_t (fw_t (fw_t (fw_t (fw_t fw_h))))))))))) (fw_c (fw_t (fw_l (fw_t (fw_t (fw_t (fw_t (fw_t (fw_t (fw_t (fw_t (fw_t (fw_t fw_h)))))))))))) fw_n))))))) (by decide +kernel)
set_option maxRecDepth 20000 in
theorem gX10_upper_X10_cell : GoodIn wsX10_upper (va_wsS RX10 28 yX10_cell wsX10_cell) := goodIn_app (goodIn_sub (fw_c (fw_t (fw_l (fw_t fw_h))) (fw_c (fw_t (fw_l (fw_t (fw_t fw_h)))) (fw_c (fw_t (fw_l (fw_t (fw_t (fw_t fw_h))))) fw_n))) (by decide +kernel)) ggX10_upper_X10_cell
theorem dX10_upper_0 : decode cX10_upper 0 = .ok (.aload_n 0, 1) := by decide +kernel
theorem dX10_upper_1 : decode cX10_upper 1 = .ok (.getfield 11, 3) := by decide +kernel
theorem dX10_upper_4 : decode cX10_upper 4 = .ok (.iload_n 1, 1) := by decide +kernel
theorem dX10_upper_5 : decode cX10_upper 5 = .ok (.iload_n 2, 1) := by decide +kernel
theorem dX10_upper_6 : decode cX10_upper 6 = .ok (.iload_n 3, 1) := by decide +kernel
theorem dX10_upper_7 : decode cX10_upper 7 = .ok (.invokestatic 28, 3) := by decide +kernel
theorem dX10_upper_10 : decode cX10_upper 10 = .ok (.iaload, 1) := by decide +kernel
theorem dX10_upper_11 : decode cX10_upper 11 = .ok (.ireturn, 1) := by decide +kernel
set_option maxRecDepth 20000 in
theorem ggX10_lower_X10_cell : GoodIn wsX10_lower wsX10_cell := goodIn_sub (fw_c (fw_t (fw_l (fw_t (fw_t (fw_t (fw_t fw_h)))))) (fw_c (fw_t (fw_l (fw_t (fw_t (fw_t (fw_t (fw_t fw_h))))))) (fw_c (fw_t (fw_l (fw_t (fw_t (fw_t (fw_t (fw_t (fw_t fw_h)))))))) (fw_c (fw_t (fw_l (fw_t (fw_t (fw_t (fw_t (fw_t (fw_t (fw_t fw_h))))))))) (fw_c (fw_t (fw_l (fw_t (fw_t (fw_t (fw_t (fw_t (fw_t (fw_t (fw_t fw_h)))))))))) (fw_c (fw_t (fw_l (fw_t (fw_t (fw_t (fw_t (fw_t (fw_t (fw_t (fw_t (fw_t fw_h))))))))))) (fw_c (fw_t (fw_l (fw_t (fw_t (fw_t (fw_t (fw_t (fw_t (fw_t (fw_t (fw_t (fw_t fw_h)))))))))))) fw_n))))))) (by decide +kernel)
set_option maxRecDepth 20000 in
theorem gX10_lower_X10_cell : GoodIn wsX10_lower (va_wsS RX10 28 yX10_cell wsX10_cell) := goodIn_app (goodIn_sub (fw_c (fw_t (fw_l (fw_t fw_h))) (fw_c (fw_t (fw_l (fw_t (fw_t fw_h)))) (fw_c (fw_t (fw_l (fw_t (fw_t (fw_t fw_h))))) fw_n))) (by decide +kernel)) ggX10_lower_X10_cell
theorem dX10_lower_0 : decode cX10_lower 0 = .ok (.aload_n 0, 1) := by decide +kernel
theorem dX10_lower_1 : decode cX10_lower 1 = .ok (.getfield 15, 3) := by decide +kernel
theorem dX10_lower_4 : decode cX10_lower 4 = .ok (.iload_n 1, 1) := by decide +kernel
theorem dX10_lower_5 : decode cX10_lower 5 = .ok (.iload_n 2, 1) := by decide +kernel
theorem dX10_lower_6 : decode cX10_lower 6 = .ok (.iload_n 3, 1) := by decide +kernel
theorem dX10_lower_7 : decode cX10_lower 7 = .ok (.invokestatic 28, 3) := by decide +kernel
theorem dX10_lower_10 : decode cX10_lower 10 = .ok (.iaload, 1) := by decide +kernel
theorem dX10_lower_11 : decode cX10_lower 11 = .ok (.ireturn, 1) := by decide +kernel
theorem dX10_count_0 : decode cX10_count 0 = .ok (.iload_n 1, 1) := by decide +kernel
theorem dX10_count_1 : decode cX10_count 1 = .ok (.ifCond .lt 37, 3) := by decide +kernel
theorem dX10_count_4 : decode cX10_count 4 = .ok (.iload_n 1, 1) := by decide +kernel
theorem dX10_count_5 : decode cX10_count 5 = .ok (.bipush 64, 2) := by decide +kernel
theorem dX10_count_7 : decode cX10_count 7 = .ok (.if_icmp .ge 31, 3) := by decide +kernel
theorem dX10_count_10 : decode cX10_count 10 = .ok (.aload_n 0, 1) := by decide +kernel
theorem dX10_count_11 : decode cX10_count 11 = .ok (.getfield 11, 3) := by decide +kernel
theorem dX10_count_14 : decode cX10_count 14 = .ok (.iload_n 1, 1) := by decide +kernel
theorem dX10_count_15 : decode cX10_count 15 = .ok (.dup2, 1) := by decide +kernel
theorem dX10_count_16 : decode cX10_count 16 = .ok (.iaload, 1) := by decide +kernel
theorem dX10_count_17 : decode cX10_count 17 = .ok (.iload_n 2, 1) := by decide +kernel
theorem dX10_count_18 : decode cX10_count 18 = .ok (.ifCond .eq 7, 3) := by decide +kernel
theorem dX10_count_21 : decode cX10_count 21 = .ok (.iload_n 3, 1) := by decide +kernel
theorem dX10_count_22 : decode cX10_count 22 = .ok (.goto 4, 3) := by decide +kernel
theorem dX10_count_25 : decode cX10_count 25 = .ok (.iconst 0, 1) := by decide +kernel
theorem dX10_count_26 : decode cX10_count 26 = .ok (.iadd, 1) := by decide +kernel
theorem dX10_count_27 : decode cX10_count 27 = .ok (.iastore, 1) := by decide +kernel
theorem dX10_count_28 : decode cX10_count 28 = .ok (.aload_n 0, 1) := by decide +kernel
theorem dX10_count_29 : decode cX10_count 29 = .ok (.getfield 15, 3) := by decide +kernel
theorem dX10_count_32 : decode cX10_count 32 = .ok (.iload_n 1, 1) := by decide +kernel
theorem dX10_count_33 : decode cX10_count 33 = .ok (.dup2, 1) := by decide +kernel
theorem dX10_count_34 : decode cX10_count 34 = .ok (.iaload, 1) := by decide +kernel
theorem dX10_count_35 : decode cX10_count 35 = .ok (.iload_n 3, 1) := by decide +kernel
theorem dX10_count_36 : decode cX10_count 36 = .ok (.iadd, 1) := by decide +kernel
theorem dX10_count_37 : decode cX10_count 37 = .ok (.iastore, 1) := by decide +kernel
theorem dX10_count_38 : decode cX10_count 38 = .ok (.return_, 1) := by decide +kernel
set_option maxRecDepth 20000 in
theorem ggX11_init_X3_init : GoodIn wsX11_init wsX3_init := goodIn_sub (fw_c (fw_t (fw_l (fw_l (fw_l (fw_l (fw_l (fw_l (fw_l (fw_l (fw_r (fw_l (fw_t (fw_t (fw_t (fw_t (fw_t (fw_t (fw_t (fw_t (fw_t (fw_t fw_h))))))))))))))))))))) (fw_a (fw_c (fw_t (fw_l (fw_l (fw_l (fw_l (fw_l (fw_l (fw_l (fw_l (fw_r (fw_l (fw_t (fw_t (fw_t (fw_t (fw_t (fw_t (fw_t (fw_t (fw_t (fw_t (fw_t fw_h)))))))))))))))))))))) (fw_c (fw_t (fw_l (fw_l (fw_l (fw_l (fw_l (fw_l (fw_l (fw_l (fw_l (fw_t fw_h))))))))))) (fw_c (fw_t (fw_l (fw_l (fw_l (fw_l (fw_l (fw_l (fw_l (fw_l (fw_l (fw_t (fw_t fw_h)))))))))))) (fw_c (fw_t (fw_l (fw_l (fw_l (fw_l (fw_l (fw_l (fw_l (fw_l (fw_r (fw_l (fw_t (fw_t (fw_t (fw_t (fw_t (fw_t (fw_t (fw_t (fw_t (fw_t (fw_t (fw_t fw_h))))))))))))))))))))))) (fw_c (fw_t (fw_l (fw_l (fw_l (fw_l (fw_l (fw_l (fw_l (fw_l (fw_r (fw_l (fw_t (fw_t (fw_t (fw_t (fw_t (fw_t (fw_t (fw_t (fw_t (fw_t (fw_t (fw_t (fw_t fw_h)))))))))))))))))))))))) (fw_c (fw_t (fw_l (fw_l (fw_l (fw_l (fw_l (fw_l (fw_l (fw_l (fw_r (fw_l (fw_t (fw_t (fw_t (fw_t (fw_t (fw_t (fw_t (fw_t (fw_t (fw_t (fw_t (fw_t (fw_t (fw_t fw_h))))))))))))))))))))))))) (fw_c (fw_t (fw_l (fw_l (fw_l (fw_l (fw_l (fw_l (fw_l (fw_l (fw_r (fw_l (fw_t (fw_t (fw_t (fw_t (fw_t (fw_t (fw_t (fw_t (fw_t (fw_t (fw_t (fw_t (fw_t (fw_t (fw_t fw_h)))))))))))))))))))))))))) fw_n))))))) (fun _ h => fw_t (fw_l (fw_l (fw_l (fw_l (fw_l (fw_l (fw_r h)))))))))) (by decide +kernel)
set_option maxRecDepth 20000 in
theorem gX11_init_X3_init_n23 : GoodIn wsX11_init (wsX3_init) := ggX11_init_X3_init
set_option maxRecDepth 20000 in
theorem ggX11_init_X2_init : GoodIn wsX11_init wsX2_init := goodIn_sub (fw_c (fw_t (fw_l (fw_l (fw_l (fw_l (fw_l (fw_l (fw_l (fw_l (fw_r (fw_l (fw_t (fw_t (fw_t (fw_t (fw_t (fw_t (fw_t (fw_t (fw_t (fw_t (fw_t (fw_t (fw_t (fw_t (fw_t (fw_t (fw_t fw_h)))))))))))))))))))))))))))) (fw_a (fw_c (fw_t (fw_l (fw_l (fw_l (fw_l (fw_l (fw_l (fw_l (fw_l (fw_r (fw_l (fw_t (fw_t (fw_t (fw_t (fw_t (fw_t (fw_t (fw_t (fw_t (fw_t (fw_t (fw_t (fw_t (fw_t (fw_t (fw_t (fw_t (fw_t fw_h))))))))))))))))))))))))))))) (fw_c (fw_t (fw_l (fw_l (fw_l (fw_l (fw_l (fw_l (fw_l (fw_l (fw_l (fw_t fw_h))))))))))) (fw_c (fw_t (fw_l (fw_l (fw_l (fw_l (fw_l (fw_l (fw_l (fw_l (fw_l (fw_t (fw_t fw_h)))))))))))) (fw_c (fw_t (fw_l (fw_l (fw_l (fw_l (fw_l (fw_l (fw_l (fw_l (fw_r (fw_l (fw_t (fw_t (fw_t (fw_t (fw_t (fw_t (fw_t (fw_t (fw_t (fw_t (fw_t (fw_t fw_h))))))))))))))))))))))) (fw_c (fw_t (fw_l (fw_l (fw_l (fw_l (fw_l (fw_l (fw_l (fw_l (fw_r (fw_l (fw_t (fw_t (fw_t (fw_t (fw_t (fw_t (fw_t (fw_t (fw_t (fw_t (fw_t (fw_t (fw_t (fw_t (fw_t (fw_t (fw_t (fw_t (fw_t fw_h)))))))))))))))))))))))))))))) (fw_c (fw_t (fw_l (fw_l (fw_l (fw_l (fw_l (fw_l (fw_l (fw_l (fw_r (fw_l (fw_t (fw_t (fw_t (fw_t (fw_t (fw_t (fw_t (fw_t (fw_t (fw_t (fw_t (fw_t (fw_t (fw_t (fw_t (fw_t (fw_t (fw_t (fw_t (fw_t fw_h))))))))))))))))))))))))))))))) fw_n)))))) (fun _ h => fw_t (fw_l (fw_l (fw_l (fw_l (fw_l (fw_r h))))))))) (by decide +kernel)
set_option maxRecDepth 20000 in
theorem gX11_init_X2_init_n30 : GoodIn wsX11_init (wsX2_init) := ggX11_init_X2_init
set_option maxRecDepth 20000 in
theorem ggX11_init_X10_init : GoodIn wsX11_init wsX10_init := goodIn_sub (fw_c (fw_t (fw_l (fw_l (fw_l (fw_l (fw_l (fw_l (fw_l (fw_l (fw_r (fw_l (fw_t (fw_t (fw_t (fw_t (fw_t (fw_t (fw_t (fw_t (fw_t (fw_t (fw_t (fw_t (fw_t (fw_t (fw_t (fw_t (fw_t (fw_t (fw_t (fw_t (fw_t (fw_t (fw_t fw_h)))))))))))))))))))))))))))))))))) (fw_a (fw_c (fw_t (fw_l (fw_l (fw_l (fw_l (fw_l (fw_l (fw_l (fw_l (fw_r (fw_r (fw_l fw_h)))))))))))) (fw_c (fw_t (fw_l (fw_l (fw_l (fw_l (fw_l (fw_l (fw_l (fw_l (fw_l (fw_t fw_h))))))))))) (fw_c (fw_t (fw_l (fw_l (fw_l (fw_l (fw_l (fw_l (fw_l (fw_l (fw_l (fw_t (fw_t fw_h)))))))))))) (fw_c (fw_t (fw_l (fw_l (fw_l (fw_l (fw_l (fw_l (fw_l (fw_l (fw_r (fw_l (fw_t (fw_t (fw_t (fw_t (fw_t (fw_t (fw_t (fw_t (fw_t (fw_t (fw_t (fw_t fw_h))))))))))))))))))))))) (fw_c (fw_t (fw_l (fw_l (fw_l (fw_l (fw_l (fw_l (fw_l (fw_l (fw_r (fw_r (fw_l (fw_t fw_h))))))))))))) (fw_c (fw_t (fw_l (fw_l (fw_l (fw_l (fw_l (fw_l (fw_l (fw_l (fw_r (fw_r (fw_l (fw_t (fw_t fw_h)))))))))))))) (fw_c (fw_t (fw_l (fw_l (fw_l (fw_l (fw_l (fw_l (fw_l (fw_l (fw_r (fw_r (fw_l (fw_t (fw_t (fw_t fw_h))))))))))))))) (fw_c (fw_t (fw_l (fw_l (fw_l (fw_l (fw_l (fw_l (fw_l (fw_l (fw_r (fw_r (fw_l (fw_t (fw_t (fw_t (fw_t fw_h)))))))))))))))) (fw_c (fw_t (fw_l (fw_l (fw_l (fw_l (fw_l (fw_l (fw_l (fw_l (fw_r (fw_r (fw_l (fw_t (fw_t (fw_t (fw_t (fw_t fw_h))))))))))))))))) (fw_c (fw_t (fw_l (fw_l (fw_l (fw_l (fw_l (fw_l (fw_l (fw_l (fw_r (fw_r (fw_l (fw_t (fw_t (fw_t (fw_t (fw_t (fw_t fw_h)))))))))))))))))) fw_n)))))))))) (fun _ h => fw_t (fw_l (fw_l (fw_l (fw_l (fw_r h)))))))) (by decide +kernel)
set_option maxRecDepth 20000 in
theorem gX11_init_X10_init : GoodIn wsX11_init (wsX10_init) := ggX11_init_X10_init
set_option maxRecDepth 20000 in
theorem ggX11_init_X1_init : GoodIn wsX11_init wsX1_init := goodIn_sub (fw_c (fw_t (fw_l (fw_l (fw_l (fw_l (fw_l (fw_l (fw_l (fw_l (fw_r (fw_r (fw_l (fw_t (fw_t (fw_t (fw_t (fw_t (fw_t (fw_t (fw_t fw_h)))))))))))))))))))) (fw_a (fw_c (fw_t (fw_l (fw_l (fw_l (fw_l (fw_l (fw_l (fw_l (fw_l (fw_r (fw_r (fw_l (fw_t (fw_t (fw_t (fw_t (fw_t (fw_t (fw_t (fw_t (fw_t fw_h))))))))))))))))))))) (fw_c (fw_t (fw_l (fw_l (fw_l (fw_l (fw_l (fw_l (fw_l (fw_l (fw_l (fw_t fw_h))))))))))) (fw_c (fw_t (fw_l (fw_l (fw_l (fw_l (fw_l (fw_l (fw_l (fw_l (fw_l (fw_t (fw_t fw_h)))))))))))) (fw_c (fw_t (fw_l (fw_l (fw_l (fw_l (fw_l (fw_l (fw_l (fw_l (fw_r (fw_r (fw_l (fw_t (fw_t (fw_t (fw_t (fw_t (fw_t (fw_t (fw_t (fw_t (fw_t fw_h)))))))))))))))))))))) (fw_c (fw_t (fw_l (fw_l (fw_l (fw_l (fw_l (fw_l (fw_l (fw_l (fw_r (fw_r (fw_l (fw_t (fw_t (fw_t (fw_t (fw_t (fw_t (fw_t (fw_t (fw_t (fw_t (fw_t fw_h))))))))))))))))))))))) (fw_c (fw_t (fw_l (fw_l (fw_l (fw_l (fw_l (fw_l (fw_l (fw_l (fw_r (fw_l (fw_t (fw_t (fw_t (fw_t (fw_t (fw_t (fw_t (fw_t (fw_t (fw_t (fw_t (fw_t fw_h))))))))))))))))))))))) (fw_c (fw_t (fw_l (fw_l (fw_l (fw_l (fw_l (fw_l (fw_l (fw_l (fw_r (fw_r (fw_l (fw_t (fw_t (fw_t (fw_t (fw_t (fw_t (fw_t (fw_t (fw_t (fw_t (fw_t (fw_t fw_h)))))))))))))))))))))))) fw_n))))))) (fun _ h => fw_t (fw_l (fw_l (fw_l (fw_r h))))))) (by decide +kernel)
set_option maxRecDepth 20000 in
theorem gX11_init_X1_init_n50 : GoodIn wsX11_init (wsX1_init) := ggX11_init_X1_init
set_option maxRecDepth 20000 in
theorem ggX11_init_X6_init : GoodIn wsX11_init wsX6_init := goodIn_sub (fw_c (fw_t (fw_l (fw_l (fw_l (fw_l (fw_l (fw_l (fw_l (fw_l (fw_r (fw_r (fw_l (fw_t (fw_t (fw_t (fw_t (fw_t (fw_t (fw_t (fw_t (fw_t (fw_t (fw_t (fw_t (fw_t (fw_t (fw_t fw_h))))))))))))))))))))))))))) (fw_a (fw_a (fw_c (fw_t (fw_l (fw_l (fw_l (fw_l (fw_l (fw_l (fw_l (fw_l (fw_r (fw_r (fw_l (fw_t (fw_t (fw_t (fw_t (fw_t (fw_t (fw_t (fw_t (fw_t (fw_t (fw_t (fw_t (fw_t (fw_t (fw_t (fw_t fw_h)))))))))))))))))))))))))))) (fw_c (fw_t (fw_l (fw_l (fw_l (fw_l (fw_l (fw_l (fw_l (fw_l (fw_l (fw_t fw_h))))))))))) (fw_c (fw_t (fw_l (fw_l (fw_l (fw_l (fw_l (fw_l (fw_l (fw_l (fw_l (fw_t (fw_t fw_h)))))))))))) (fw_c (fw_t (fw_l (fw_l (fw_l (fw_l (fw_l (fw_l (fw_l (fw_l (fw_r (fw_r (fw_l (fw_t (fw_t (fw_t (fw_t (fw_t (fw_t (fw_t (fw_t (fw_t (fw_t (fw_t (fw_t (fw_t (fw_t (fw_t (fw_t (fw_t fw_h))))))))))))))))))))))))))))) (fw_c (fw_t (fw_l (fw_l (fw_l (fw_l (fw_l (fw_l (fw_l (fw_l (fw_r (fw_r (fw_l (fw_t (fw_t (fw_t (fw_t (fw_t (fw_t (fw_t (fw_t (fw_t (fw_t (fw_t (fw_t (fw_t (fw_t (fw_t (fw_t (fw_t (fw_t fw_h)))))))))))))))))))))))))))))) (fw_c (fw_t (fw_l (fw_l (fw_l (fw_l (fw_l (fw_l (fw_l (fw_l (fw_r (fw_r (fw_l (fw_t (fw_t (fw_t (fw_t (fw_t (fw_t (fw_t (fw_t (fw_t (fw_t (fw_t (fw_t (fw_t (fw_t (fw_t (fw_t (fw_t (fw_t (fw_t fw_h))))))))))))))))))))))))))))))) (fw_c (fw_t (fw_l (fw_l (fw_l (fw_l (fw_l (fw_l (fw_l (fw_l (fw_r (fw_r (fw_l (fw_t (fw_t (fw_t (fw_t (fw_t (fw_t (fw_t (fw_t (fw_t (fw_t (fw_t (fw_t (fw_t (fw_t (fw_t (fw_t (fw_t (fw_t (fw_t (fw_t fw_h)))))))))))))))))))))))))))))))) (fw_c (fw_t (fw_l (fw_l (fw_l (fw_l (fw_l (fw_l (fw_l (fw_l (fw_r (fw_r (fw_l (fw_t (fw_t (fw_t (fw_t (fw_t (fw_t (fw_t (fw_t (fw_t (fw_t (fw_t (fw_t (fw_t (fw_t (fw_t (fw_t (fw_t (fw_t (fw_t (fw_t (fw_t fw_h))))))))))))))))))))))))))))))))) (fw_c (fw_t (fw_l (fw_l (fw_l (fw_l (fw_l (fw_l (fw_l (fw_l (fw_r (fw_r (fw_l (fw_t (fw_t (fw_t (fw_t (fw_t (fw_t (fw_t (fw_t (fw_t (fw_t (fw_t (fw_t (fw_t (fw_t (fw_t (fw_t (fw_t (fw_t (fw_t (fw_t (fw_t (fw_t fw_h)))))))))))))))))))))))))))))))))) (fw_c (fw_t (fw_l (fw_l (fw_l (fw_l (fw_l (fw_l (fw_l (fw_l (fw_r (fw_r (fw_l (fw_t (fw_t (fw_t (fw_t (fw_t (fw_t (fw_t (fw_t (fw_t (fw_t (fw_t (fw_t (fw_t (fw_t (fw_t (fw_t (fw_t (fw_t (fw_t (fw_t (fw_t (fw_t (fw_t fw_h))))))))))))))))))))))))))))))))))) (fw_c (fw_t (fw_l (fw_l (fw_l (fw_l (fw_l (fw_l (fw_l (fw_l (fw_r (fw_l (fw_t (fw_t (fw_t (fw_t (fw_t (fw_t (fw_t (fw_t (fw_t (fw_t (fw_t (fw_t fw_h))))))))))))))))))))))) (fw_c (fw_t (fw_l (fw_l (fw_l (fw_l (fw_l (fw_l (fw_l (fw_l (fw_r (fw_r (fw_r fw_h)))))))))))) fw_n)))))))))))) (fun _ h => fw_t (fw_l (fw_l (fw_r h))))) (fun _ h => fw_t (fw_r h)))) (by decide +kernel)
set_option maxRecDepth 20000 in
theorem gX11_init_X6_init : GoodIn wsX11_init (wsX6_init) := ggX11_init_X6_init
set_option maxRecDepth 20000 in
theorem ggX11_init_X8_init : GoodIn wsX11_init wsX8_init := goodIn_sub (fw_c (fw_t (fw_l (fw_l (fw_l (fw_l (fw_l (fw_l (fw_l (fw_l (fw_r (fw_r (fw_r (fw_t (fw_t fw_h)))))))))))))) (fw_a (fw_c (fw_t (fw_l (fw_l (fw_l (fw_l (fw_l (fw_l (fw_l (fw_l (fw_r (fw_r (fw_r (fw_t (fw_t (fw_t fw_h))))))))))))))) (fw_c (fw_t (fw_l (fw_l (fw_l (fw_l (fw_l (fw_l (fw_l (fw_l (fw_l (fw_t fw_h))))))))))) (fw_c (fw_t (fw_l (fw_l (fw_l (fw_l (fw_l (fw_l (fw_l (fw_l (fw_l (fw_t (fw_t fw_h)))))))))))) (fw_c (fw_t (fw_l (fw_l (fw_l (fw_l (fw_l (fw_l (fw_l (fw_l (fw_r (fw_l (fw_t (fw_t (fw_t (fw_t (fw_t (fw_t (fw_t (fw_t (fw_t (fw_t (fw_t (fw_t fw_h))))))))))))))))))))))) (fw_c (fw_t (fw_l (fw_l (fw_l (fw_l (fw_l (fw_l (fw_l (fw_l (fw_r (fw_r (fw_r (fw_t (fw_t (fw_t (fw_t fw_h)))))))))))))))) fw_n))))) (fun _ h => fw_t (fw_l (fw_r h))))) (by decide +kernel)
set_option maxRecDepth 20000 in
theorem gX11_init_X8_init_n68 : GoodIn wsX11_init (wsX8_init) := ggX11_init_X8_init
theorem dX11_init_0 : decode cX11_init 0 = .ok (.aload_n 0, 1) := by decide +kernel
theorem dX11_init_1 : decode cX11_init 1 = .ok (.invokespecial 3, 3) := by decide +kernel
theorem dX11_init_4 : decode cX11_init 4 = .ok (.aload_n 0, 1) := by decide +kernel
theorem dX11_init_5 : decode cX11_init 5 = .ok (.bipush 6, 2) := by decide +kernel
theorem dX11_init_7 : decode cX11_init 7 = .ok (.anewarray 9, 3) := by decide +kernel
theorem dX11_init_10 : decode cX11_init 10 = .ok (.putfield 11, 3) := by decide +kernel
theorem dX11_init_13 : decode cX11_init 13 = .ok (.aload_n 0, 1) := by decide +kernel
theorem dX11_init_14 : decode cX11_init 14 = .ok (.bipush 20, 2) := by decide +kernel
theorem dX11_init_16 : decode cX11_init 16 = .ok (.anewarray 15, 3) := by decide +kernel
theorem dX11_init_19 : decode cX11_init 19 = .ok (.putfield 17, 3) := by decide +kernel
theorem dX11_init_22 : decode cX11_init 22 = .ok (.aload_n 0, 1) := by decide +kernel
theorem dX11_init_23 : decode cX11_init 23 = .ok (.new 21, 3) := by decide +kernel
theorem dX11_init_26 : decode cX11_init 26 = .ok (.dup, 1) := by decide +kernel
theorem dX11_init_27 : decode cX11_init 27 = .ok (.invokespecial 23, 3) := by decide +kernel
theorem dX11_init_30 : decode cX11_init 30 = .ok (.putfield 24, 3) := by decide +kernel
theorem dX11_init_33 : decode cX11_init 33 = .ok (.aload_n 0, 1) := by decide +kernel
theorem dX11_init_34 : decode cX11_init 34 = .ok (.new 28, 3) := by decide +kernel
theorem dX11_init_37 : decode cX11_init 37 = .ok (.dup, 1) := by decide +kernel
theorem dX11_init_38 : decode cX11_init 38 = .ok (.invokespecial 30, 3) := by decide +kernel
theorem dX11_init_41 : decode cX11_init 41 = .ok (.putfield 31, 3) := by decide +kernel
theorem dX11_init_44 : decode cX11_init 44 = .ok (.aload_n 0, 1) := by decide +kernel
theorem dX11_init_45 : decode cX11_init 45 = .ok (.bipush 8, 2) := by decide +kernel
theorem dX11_init_47 : decode cX11_init 47 = .ok (.anewarray 35, 3) := by decide +kernel
theorem dX11_init_50 : decode cX11_init 50 = .ok (.putfield 37, 3) := by decide +kernel
theorem dX11_init_53 : decode cX11_init 53 = .ok (.aload_n 0, 1) := by decide +kernel
theorem dX11_init_54 : decode cX11_init 54 = .ok (.new 41, 3) := by decide +kernel
theorem dX11_init_57 : decode cX11_init 57 = .ok (.dup, 1) := by decide +kernel
theorem dX11_init_58 : decode cX11_init 58 = .ok (.invokespecial 43, 3) := by decide +kernel
theorem dX11_init_61 : decode cX11_init 61 = .ok (.putfield 44, 3) := by decide +kernel
theorem dX11_init_64 : decode cX11_init 64 = .ok (.aload_n 0, 1) := by decide +kernel
theorem dX11_init_65 : decode cX11_init 65 = .ok (.new 48, 3) := by decide +kernel
theorem dX11_init_68 : decode cX11_init 68 = .ok (.dup, 1) := by decide +kernel
theorem dX11_init_69 : decode cX11_init 69 = .ok (.invokespecial 50, 3) := by decide +kernel
theorem dX11_init_72 : decode cX11_init 72 = .ok (.putfield 51, 3) := by decide +kernel
theorem dX11_init_75 : decode cX11_init 75 = .ok (.aload_n 0, 1) := by decide +kernel
theorem dX11_init_76 : decode cX11_init 76 = .ok (.iconst 4, 1) := by decide +kernel
theorem dX11_init_77 : decode cX11_init 77 = .ok (.anewarray 55, 3) := by decide +kernel
theorem dX11_init_80 : decode cX11_init 80 = .ok (.putfield 57, 3) := by decide +kernel
theorem dX11_init_83 : decode cX11_init 83 = .ok (.aload_n 0, 1) := by decide +kernel
theorem dX11_init_84 : decode cX11_init 84 = .ok (.new 61, 3) := by decide +kernel
theorem dX11_init_87 : decode cX11_init 87 = .ok (.dup, 1) := by decide +kernel
theorem dX11_init_88 : decode cX11_init 88 = .ok (.invokespecial 63, 3) := by decide +kernel
theorem dX11_init_91 : decode cX11_init 91 = .ok (.putfield 64, 3) := by decide +kernel
theorem dX11_init_94 : decode cX11_init 94 = .ok (.iconst 0, 1) := by decide +kernel
theorem dX11_init_95 : decode cX11_init 95 = .ok (.istore_n 1, 1) := by decide +kernel
theorem dX11_init_96 : decode cX11_init 96 = .ok (.iload_n 1, 1) := by decide +kernel
theorem dX11_init_97 : decode cX11_init 97 = .ok (.iconst 4, 1) := by decide +kernel
theorem dX11_init_98 : decode cX11_init 98 = .ok (.if_icmp .ge 22, 3) := by decide +kernel
theorem dX11_init_101 : decode cX11_init 101 = .ok (.aload_n 0, 1) := by decide +kernel
theorem dX11_init_102 : decode cX11_init 102 = .ok (.getfield 57, 3) := by decide +kernel
theorem dX11_init_105 : decode cX11_init 105 = .ok (.iload_n 1, 1) := by decide +kernel
theorem dX11_init_106 : decode cX11_init 106 = .ok (.new 55, 3) := by decide +kernel
theorem dX11_init_109 : decode cX11_init 109 = .ok (.dup, 1) := by decide +kernel
theorem dX11_init_110 : decode cX11_init 110 = .ok (.invokespecial 68, 3) := by decide +kernel
theorem dX11_init_113 : decode cX11_init 113 = .ok (.aastore, 1) := by decide +kernel
theorem dX11_init_114 : decode cX11_init 114 = .ok (.iinc 1 1, 3) := by decide +kernel
theorem dX11_init_117 : decode cX11_init 117 = .ok (.goto (-21), 3) := by decide +kernel
theorem dX11_init_120 : decode cX11_init 120 = .ok (.return_, 1) := by decide +kernel
set_option maxRecDepth 20000 in
theorem ggX11_picture_X11_told : GoodIn wsX11_picture wsX11_told := goodIn_sub (fw_c (fw_t (fw_l (fw_l (fw_l (fw_l (fw_l (fw_l (fw_t (fw_t (fw_t (fw_t (fw_t (fw_t (fw_t (fw_t (fw_t (fw_t (fw_t fw_h)))))))))))))))))) (fw_a (fw_c (fw_t (fw_l (fw_l (fw_l (fw_l (fw_l (fw_l (fw_t (fw_t (fw_t (fw_t (fw_t (fw_t (fw_t (fw_t (fw_t (fw_t (fw_t (fw_t fw_h))))))))))))))))))) (fw_c (fw_t (fw_l (fw_l (fw_l (fw_l (fw_l (fw_l (fw_t (fw_t (fw_t (fw_t (fw_t (fw_t (fw_t (fw_t (fw_t (fw_t (fw_t (fw_t (fw_t fw_h)))))))))))))))))))) fw_n)) (fun _ h => fw_t (fw_l (fw_l (fw_l (fw_l (fw_r h)))))))) (by decide +kernel)
set_option maxRecDepth 20000 in
theorem gX11_picture_X11_told : GoodIn wsX11_picture (wsV RX11 75 RX11 yX11_told wsX11_told) := goodIn_app (goodIn_sub (fw_c (fw_t (fw_l (fw_l (fw_l (fw_l (fw_l (fw_l (fw_t (fw_t (fw_t (fw_t (fw_t (fw_t (fw_t fw_h)))))))))))))) (fw_c (fw_t (fw_l (fw_l (fw_l (fw_l (fw_l (fw_l (fw_t (fw_t (fw_t (fw_t (fw_t (fw_t (fw_t (fw_t fw_h))))))))))))))) (fw_c (fw_t (fw_l (fw_l (fw_l (fw_l (fw_l (fw_l (fw_t (fw_t (fw_t (fw_t (fw_t (fw_t (fw_t (fw_t (fw_t fw_h)))))))))))))))) (fw_c (fw_t (fw_l (fw_l (fw_l (fw_l (fw_l (fw_l (fw_t (fw_t (fw_t (fw_t (fw_t (fw_t (fw_t (fw_t (fw_t (fw_t fw_h))))))))))))))))) fw_n)))) (by decide +kernel)) ggX11_picture_X11_told
set_option maxRecDepth 20000 in
theorem ggX11_picture_X6_keep : GoodIn wsX11_picture wsX6_keep := goodIn_sub (fw_c (fw_t (fw_l (fw_l (fw_l (fw_l (fw_l (fw_l (fw_t (fw_t (fw_t (fw_t (fw_t (fw_t (fw_t (fw_t (fw_t (fw_t (fw_t (fw_t (fw_t (fw_t (fw_t (fw_t (fw_t (fw_t fw_h))))))))))))))))))))))))) (fw_a (fw_a (fw_c (fw_t (fw_l (fw_l (fw_l (fw_l (fw_l (fw_l (fw_t (fw_t (fw_t (fw_t (fw_t (fw_t (fw_t (fw_t (fw_t (fw_t (fw_t (fw_t (fw_t (fw_t (fw_t (fw_t (fw_t (fw_t (fw_t fw_h)))))))))))))))))))))))))) (fw_c (fw_t (fw_l (fw_l (fw_l (fw_l (fw_l (fw_l (fw_t (fw_t (fw_t (fw_t (fw_t (fw_t (fw_t (fw_t (fw_t (fw_t (fw_t (fw_t (fw_t (fw_t (fw_t (fw_t (fw_t (fw_t (fw_t (fw_t fw_h))))))))))))))))))))))))))) (fw_c (fw_t (fw_l (fw_l (fw_l (fw_l (fw_l (fw_l (fw_t (fw_t (fw_t (fw_t (fw_t (fw_t (fw_t (fw_t (fw_t (fw_t (fw_t (fw_t (fw_t (fw_t (fw_t (fw_t (fw_t (fw_t (fw_t (fw_t (fw_t fw_h)))))))))))))))))))))))))))) (fw_c (fw_t (fw_l (fw_l (fw_l (fw_l (fw_l (fw_l (fw_t (fw_t (fw_t (fw_t (fw_t (fw_t (fw_t (fw_t (fw_t (fw_t (fw_t (fw_t (fw_t (fw_t (fw_t (fw_t (fw_t (fw_t (fw_t (fw_t (fw_t (fw_t fw_h))))))))))))))))))))))))))))) (fw_c (fw_t (fw_l (fw_l (fw_l (fw_l (fw_l (fw_l (fw_t (fw_t (fw_t (fw_t (fw_t (fw_t (fw_t (fw_t (fw_t (fw_t (fw_t (fw_t (fw_t (fw_t (fw_t (fw_t (fw_t (fw_t (fw_t (fw_t (fw_t (fw_t (fw_t fw_h)))))))))))))))))))))))))))))) (fw_c (fw_t (fw_l (fw_l (fw_l (fw_l (fw_l (fw_r fw_h))))))) (fw_c (fw_t (fw_l (fw_l (fw_l (fw_l (fw_l (fw_r (fw_t fw_h)))))))) fw_n))))))) (fun _ h => fw_t (fw_l (fw_l (fw_r h))))) (fun _ h => fw_t (fw_l (fw_r h))))) (by decide +kernel)
set_option maxRecDepth 20000 in
theorem gX11_picture_X6_keep : GoodIn wsX11_picture (wsV RX11 79 RX6 yX6_keep wsX6_keep) := goodIn_app (goodIn_sub (fw_c (fw_t (fw_l (fw_l (fw_l (fw_l (fw_l (fw_l (fw_t (fw_t (fw_t (fw_t (fw_t (fw_t (fw_t (fw_t (fw_t (fw_t (fw_t (fw_t (fw_t (fw_t fw_h))))))))))))))))))))) (fw_c (fw_t (fw_l (fw_l (fw_l (fw_l (fw_l (fw_l (fw_t (fw_t (fw_t (fw_t (fw_t (fw_t (fw_t (fw_t (fw_t (fw_t (fw_t (fw_t (fw_t (fw_t (fw_t fw_h)))))))))))))))))))))) (fw_c (fw_t (fw_l (fw_l (fw_l (fw_l (fw_l (fw_l (fw_t (fw_t (fw_t (fw_t (fw_t (fw_t (fw_t (fw_t (fw_t (fw_t (fw_t (fw_t (fw_t (fw_t (fw_t (fw_t fw_h))))))))))))))))))))))) (fw_c (fw_t (fw_l (fw_l (fw_l (fw_l (fw_l (fw_l (fw_t (fw_t (fw_t (fw_t (fw_t (fw_t (fw_t (fw_t (fw_t (fw_t (fw_t (fw_t (fw_t (fw_t (fw_t (fw_t (fw_t fw_h)))))))))))))))))))))))) fw_n)))) (by decide +kernel)) ggX11_picture_X6_keep
set_option maxRecDepth 20000 in
theorem ggX11_picture_X7_init : GoodIn wsX11_picture wsX7_init := goodIn_sub (fw_c (fw_t (fw_l (fw_l (fw_l (fw_l (fw_l (fw_r (fw_t (fw_t (fw_t (fw_t fw_h))))))))))) (fw_a (fw_a (fw_c (fw_t (fw_l (fw_l (fw_l (fw_l (fw_l (fw_r (fw_t (fw_t (fw_t (fw_t (fw_t fw_h)))))))))))) (fw_c (fw_t (fw_l (fw_l (fw_l (fw_l (fw_l (fw_r (fw_t (fw_t (fw_t (fw_t (fw_t (fw_t fw_h))))))))))))) (fw_c (fw_t (fw_l (fw_l (fw_l (fw_l (fw_l (fw_r (fw_t (fw_t (fw_t (fw_t (fw_t (fw_t (fw_t fw_h)))))))))))))) (fw_c (fw_t (fw_l (fw_l (fw_l (fw_l (fw_l (fw_r (fw_t (fw_t (fw_t (fw_t (fw_t (fw_t (fw_t (fw_t fw_h))))))))))))))) (fw_c (fw_t (fw_l (fw_l (fw_l (fw_l (fw_l (fw_r (fw_t (fw_t (fw_t (fw_t (fw_t (fw_t (fw_t (fw_t (fw_t fw_h)))))))))))))))) (fw_c (fw_t (fw_l (fw_l (fw_l (fw_l (fw_l (fw_r (fw_t (fw_t (fw_t (fw_t (fw_t (fw_t (fw_t (fw_t (fw_t (fw_t fw_h))))))))))))))))) (fw_c (fw_t (fw_l (fw_l (fw_l (fw_l (fw_l (fw_r (fw_t (fw_t (fw_t (fw_t (fw_t (fw_t (fw_t (fw_t (fw_t (fw_t (fw_t fw_h)))))))))))))))))) (fw_c (fw_t (fw_l (fw_l (fw_l (fw_l (fw_l (fw_r (fw_t (fw_t (fw_t (fw_t (fw_t (fw_t (fw_t (fw_t (fw_t (fw_t (fw_t (fw_t fw_h))))))))))))))))))) (fw_c (fw_t (fw_l (fw_l (fw_l (fw_l (fw_l (fw_r (fw_t (fw_t (fw_t (fw_t (fw_t (fw_t (fw_t (fw_t (fw_t (fw_t (fw_t (fw_t (fw_t fw_h)))))))))))))))))))) (fw_c (fw_t (fw_l (fw_l (fw_l (fw_l (fw_l (fw_r (fw_t (fw_t (fw_t (fw_t (fw_t (fw_t (fw_t (fw_t (fw_t (fw_t (fw_t (fw_t (fw_t (fw_t fw_h))))))))))))))))))))) (fw_c (fw_t (fw_l (fw_l (fw_l (fw_l (fw_l (fw_r (fw_t (fw_t (fw_t (fw_t (fw_t (fw_t (fw_t (fw_t (fw_t (fw_t (fw_t (fw_t (fw_t (fw_t (fw_t fw_h)))))))))))))))))))))) (fw_c (fw_t (fw_l (fw_l (fw_l (fw_l (fw_l (fw_r (fw_t (fw_t (fw_t (fw_t (fw_t (fw_t (fw_t (fw_t (fw_t (fw_t (fw_t (fw_t (fw_t (fw_t (fw_t (fw_t fw_h))))))))))))))))))))))) (fw_c (fw_t (fw_l (fw_l (fw_l (fw_l (fw_l (fw_r (fw_t (fw_t (fw_t (fw_t (fw_t (fw_t (fw_t (fw_t (fw_t (fw_t (fw_t (fw_t (fw_t (fw_t (fw_t (fw_t (fw_t fw_h)))))))))))))))))))))))) (fw_c (fw_t (fw_l (fw_l (fw_l (fw_l (fw_l (fw_r (fw_t (fw_t (fw_t (fw_t (fw_t (fw_t (fw_t (fw_t (fw_t (fw_t (fw_t (fw_t (fw_t (fw_t (fw_t (fw_t (fw_t (fw_t fw_h))))))))))))))))))))))))) (fw_c (fw_t (fw_l (fw_l (fw_l (fw_l (fw_l (fw_r (fw_t (fw_t (fw_t (fw_t (fw_t (fw_t (fw_t (fw_t (fw_t (fw_t (fw_t (fw_t (fw_t (fw_t (fw_t (fw_t (fw_t (fw_t (fw_t fw_h)))))))))))))))))))))))))) fw_n))))))))))))))) (fun _ h => fw_t (fw_r h))) (fun _ h => fw_t (fw_l (fw_l (fw_l (fw_r h))))))) (by decide +kernel)
set_option maxRecDepth 20000 in
theorem gX11_picture_X7_init : GoodIn wsX11_picture (wsX7_init) := ggX11_picture_X7_init
theorem dX11_picture_0 : decode cX11_picture 0 = .ok (.aload_n 0, 1) := by decide +kernel
theorem dX11_picture_1 : decode cX11_picture 1 = .ok (.getfield 69, 3) := by decide +kernel
theorem dX11_picture_4 : decode cX11_picture 4 = .ok (.bipush 6, 2) := by decide +kernel
theorem dX11_picture_6 : decode cX11_picture 6 = .ok (.if_icmp .lt 11, 3) := by decide +kernel
theorem dX11_picture_9 : decode cX11_picture 9 = .ok (.aload_n 0, 1) := by decide +kernel
theorem dX11_picture_10 : decode cX11_picture 10 = .ok (.ldc2_w 73, 3) := by decide +kernel
theorem dX11_picture_13 : decode cX11_picture 13 = .ok (.invokevirtual 75, 3) := by decide +kernel
theorem dX11_picture_16 : decode cX11_picture 16 = .ok (.lreturn, 1) := by decide +kernel
theorem dX11_picture_17 : decode cX11_picture 17 = .ok (.aload_n 0, 1) := by decide +kernel
theorem dX11_picture_18 : decode cX11_picture 18 = .ok (.getfield 64, 3) := by decide +kernel
theorem dX11_picture_21 : decode cX11_picture 21 = .ok (.iconst 0, 1) := by decide +kernel
theorem dX11_picture_22 : decode cX11_picture 22 = .ok (.aload_n 0, 1) := by decide +kernel
theorem dX11_picture_23 : decode cX11_picture 23 = .ok (.getfield 69, 3) := by decide +kernel
theorem dX11_picture_26 : decode cX11_picture 26 = .ok (.invokevirtual 79, 3) := by decide +kernel
theorem dX11_picture_29 : decode cX11_picture 29 = .ok (.pop, 1) := by decide +kernel
theorem dX11_picture_30 : decode cX11_picture 30 = .ok (.aload_n 0, 1) := by decide +kernel
theorem dX11_picture_31 : decode cX11_picture 31 = .ok (.getfield 11, 3) := by decide +kernel
theorem dX11_picture_34 : decode cX11_picture 34 = .ok (.aload_n 0, 1) := by decide +kernel
theorem dX11_picture_35 : decode cX11_picture 35 = .ok (.getfield 69, 3) := by decide +kernel
theorem dX11_picture_38 : decode cX11_picture 38 = .ok (.new 9, 3) := by decide +kernel
theorem dX11_picture_41 : decode cX11_picture 41 = .ok (.dup, 1) := by decide +kernel
theorem dX11_picture_42 : decode cX11_picture 42 = .ok (.aload_n 0, 1) := by decide +kernel
theorem dX11_picture_43 : decode cX11_picture 43 = .ok (.getfield 69, 3) := by decide +kernel
theorem dX11_picture_46 : decode cX11_picture 46 = .ok (.invokespecial 83, 3) := by decide +kernel
theorem dX11_picture_49 : decode cX11_picture 49 = .ok (.aastore, 1) := by decide +kernel
theorem dX11_picture_50 : decode cX11_picture 50 = .ok (.aload_n 0, 1) := by decide +kernel
theorem dX11_picture_51 : decode cX11_picture 51 = .ok (.dup, 1) := by decide +kernel
theorem dX11_picture_52 : decode cX11_picture 52 = .ok (.getfield 69, 3) := by decide +kernel
theorem dX11_picture_55 : decode cX11_picture 55 = .ok (.iconst 1, 1) := by decide +kernel
theorem dX11_picture_56 : decode cX11_picture 56 = .ok (.iadd, 1) := by decide +kernel
theorem dX11_picture_57 : decode cX11_picture 57 = .ok (.putfield 69, 3) := by decide +kernel
theorem dX11_picture_60 : decode cX11_picture 60 = .ok (.aload_n 0, 1) := by decide +kernel
theorem dX11_picture_61 : decode cX11_picture 61 = .ok (.getfield 69, 3) := by decide +kernel
theorem dX11_picture_64 : decode cX11_picture 64 = .ok (.iconst 1, 1) := by decide +kernel
theorem dX11_picture_65 : decode cX11_picture 65 = .ok (.isub, 1) := by decide +kernel
theorem dX11_picture_66 : decode cX11_picture 66 = .ok (.i2l, 1) := by decide +kernel
theorem dX11_picture_67 : decode cX11_picture 67 = .ok (.lreturn, 1) := by decide +kernel
set_option maxRecDepth 20000 in
theorem ggX11_place_X11_pictureAt : GoodIn wsX11_place wsX11_pictureAt := goodIn_sub (fw_c (fw_t (fw_l (fw_l (fw_l (fw_l (fw_l (fw_l (fw_t (fw_t (fw_t (fw_t (fw_t (fw_t (fw_t fw_h)))))))))))))) (fw_a (fw_c (fw_t (fw_l (fw_l (fw_l (fw_l (fw_l (fw_l (fw_t (fw_t (fw_t (fw_t (fw_t (fw_t (fw_t (fw_t fw_h))))))))))))))) (fw_c (fw_t (fw_l (fw_l (fw_l (fw_l (fw_l (fw_l (fw_t (fw_t (fw_t (fw_t (fw_t (fw_t (fw_t (fw_t (fw_t fw_h)))))))))))))))) fw_n)) (fun _ h => fw_t (fw_l (fw_l (fw_l (fw_l (fw_r h)))))))) (by decide +kernel)
set_option maxRecDepth 20000 in
theorem gX11_place_X11_pictureAt : GoodIn wsX11_place (wsV RX11 86 RX11 yX11_pictureAt wsX11_pictureAt) := goodIn_app (goodIn_sub (fw_c (fw_t (fw_l (fw_l (fw_l (fw_l (fw_l (fw_l (fw_t (fw_t (fw_t fw_h)))))))))) (fw_c (fw_t (fw_l (fw_l (fw_l (fw_l (fw_l (fw_l (fw_t (fw_t (fw_t (fw_t fw_h))))))))))) (fw_c (fw_t (fw_l (fw_l (fw_l (fw_l (fw_l (fw_l (fw_t (fw_t (fw_t (fw_t (fw_t fw_h)))))))))))) (fw_c (fw_t (fw_l (fw_l (fw_l (fw_l (fw_l (fw_l (fw_t (fw_t (fw_t (fw_t (fw_t (fw_t fw_h))))))))))))) fw_n)))) (by decide +kernel)) ggX11_place_X11_pictureAt
set_option maxRecDepth 20000 in
theorem ggX11_place_X11_isSpot : GoodIn wsX11_place wsX11_isSpot := goodIn_sub (fw_c (fw_t (fw_l (fw_l (fw_l (fw_l (fw_l (fw_l (fw_t (fw_t (fw_t (fw_t (fw_t (fw_t (fw_t (fw_t (fw_t (fw_t (fw_t (fw_t fw_h))))))))))))))))))) (fw_c (fw_t (fw_l (fw_l (fw_l (fw_l (fw_l (fw_l (fw_t (fw_t (fw_t (fw_t (fw_t (fw_t (fw_t (fw_t (fw_t (fw_t (fw_t (fw_t (fw_t fw_h)))))))))))))))))))) (fw_c (fw_t (fw_l (fw_l (fw_l (fw_l (fw_l (fw_l (fw_t (fw_t (fw_t (fw_t (fw_t (fw_t (fw_t (fw_t (fw_t (fw_t (fw_t (fw_t (fw_t (fw_t fw_h))))))))))))))))))))) (fw_c (fw_t (fw_l (fw_l (fw_l (fw_l (fw_l (fw_l (fw_t (fw_t (fw_t (fw_t (fw_t (fw_t fw_h))))))))))))) (fw_c (fw_t (fw_l (fw_l (fw_l (fw_l (fw_l (fw_l (fw_t (fw_t (fw_t (fw_t (fw_t (fw_t (fw_t (fw_t (fw_t (fw_t (fw_t (fw_t (fw_t (fw_t (fw_t fw_h)))))))))))))))))))))) fw_n))))) (by decide +kernel)
set_option maxRecDepth 20000 in
theorem gX11_place_X11_isSpot : GoodIn wsX11_place (va_wsS RX11 90 yX11_isSpot wsX11_isSpot) := goodIn_app (goodIn_sub (fw_c (fw_t (fw_l (fw_l (fw_l (fw_l (fw_l (fw_l (fw_t (fw_t (fw_t (fw_t (fw_t (fw_t (fw_t (fw_t (fw_t (fw_t fw_h))))))))))))))))) (fw_c (fw_t (fw_l (fw_l (fw_l (fw_l (fw_l (fw_l (fw_t (fw_t (fw_t (fw_t (fw_t (fw_t (fw_t (fw_t (fw_t (fw_t (fw_t fw_h)))))))))))))))))) (fw_c (fw_t (fw_l (fw_l (fw_l (fw_l (fw_l (fw_l (fw_t (fw_t (fw_t (fw_t (fw_t (fw_t fw_h))))))))))))) fw_n))) (by decide +kernel)) ggX11_place_X11_isSpot
set_option maxRecDepth 20000 in
theorem ggX11_place_X11_told : GoodIn wsX11_place wsX11_told := goodIn_sub (fw_c (fw_t (fw_l (fw_l (fw_l (fw_l (fw_l (fw_l (fw_t (fw_t (fw_t (fw_t (fw_t (fw_t (fw_t (fw_t (fw_t (fw_t (fw_t (fw_t (fw_t (fw_t (fw_t (fw_t (fw_t (fw_t (fw_t fw_h)))))))))))))))))))))))))) (fw_a (fw_c (fw_t (fw_l (fw_l (fw_l (fw_l (fw_l (fw_l (fw_t (fw_t (fw_t (fw_t (fw_t (fw_t (fw_t (fw_t (fw_t (fw_t (fw_t (fw_t (fw_t (fw_t (fw_t (fw_t (fw_t (fw_t (fw_t (fw_t fw_h))))))))))))))))))))))))))) (fw_c (fw_t (fw_l (fw_l (fw_l (fw_l (fw_l (fw_l (fw_t (fw_t (fw_t (fw_t (fw_t (fw_t (fw_t (fw_t (fw_t (fw_t (fw_t (fw_t (fw_t (fw_t (fw_t (fw_t (fw_t (fw_t (fw_t (fw_t (fw_t fw_h)))))))))))))))))))))))))))) fw_n)) (fun _ h => fw_t (fw_l (fw_l (fw_l (fw_l (fw_r h)))))))) (by decide +kernel)
set_option maxRecDepth 20000 in
theorem gX11_place_X11_told : GoodIn wsX11_place (wsV RX11 75 RX11 yX11_told wsX11_told) := goodIn_app (goodIn_sub (fw_c (fw_t (fw_l (fw_l (fw_l (fw_l (fw_l (fw_l (fw_t (fw_t (fw_t (fw_t (fw_t (fw_t (fw_t (fw_t (fw_t (fw_t (fw_t (fw_t (fw_t (fw_t (fw_t (fw_t fw_h))))))))))))))))))))))) (fw_c (fw_t (fw_l (fw_l (fw_l (fw_l (fw_l (fw_l (fw_t (fw_t (fw_t (fw_t (fw_t (fw_t (fw_t (fw_t (fw_t (fw_t (fw_t (fw_t (fw_t (fw_t (fw_t (fw_t (fw_t fw_h)))))))))))))))))))))))) (fw_c (fw_t (fw_l (fw_l (fw_l (fw_l (fw_l (fw_l (fw_t (fw_t (fw_t (fw_t (fw_t (fw_t (fw_t (fw_t (fw_t (fw_t (fw_t (fw_t (fw_t (fw_t (fw_t (fw_t (fw_t (fw_t fw_h))))))))))))))))))))))))) (fw_c (fw_t (fw_l (fw_l (fw_l (fw_l (fw_l (fw_l (fw_t (fw_t (fw_t (fw_t (fw_t (fw_t fw_h))))))))))))) fw_n)))) (by decide +kernel)) ggX11_place_X11_told
set_option maxRecDepth 20000 in
theorem ggX11_place_X7_size : GoodIn wsX11_place wsX7_size := goodIn_sub (fw_c (fw_t (fw_l (fw_l (fw_l (fw_l (fw_l (fw_r (fw_l (fw_t (fw_t fw_h)))))))))) (fw_a (fw_a (fw_c (fw_t (fw_l (fw_l (fw_l (fw_l (fw_l (fw_r (fw_l (fw_t (fw_t (fw_t fw_h))))))))))) (fw_c (fw_t (fw_l (fw_l (fw_l (fw_l (fw_l (fw_r (fw_l (fw_t (fw_t (fw_t (fw_t fw_h)))))))))))) (fw_c (fw_t (fw_l (fw_l (fw_l (fw_l (fw_l (fw_r (fw_l (fw_t (fw_t (fw_t (fw_t (fw_t fw_h))))))))))))) (fw_c (fw_t (fw_l (fw_l (fw_l (fw_l (fw_l (fw_r (fw_l (fw_t (fw_t (fw_t (fw_t (fw_t (fw_t fw_h)))))))))))))) (fw_c (fw_t (fw_l (fw_l (fw_l (fw_l (fw_l (fw_r (fw_l (fw_t (fw_t (fw_t (fw_t (fw_t (fw_t (fw_t fw_h))))))))))))))) (fw_c (fw_t (fw_l (fw_l (fw_l (fw_l (fw_l (fw_r (fw_l (fw_t (fw_t (fw_t (fw_t (fw_t (fw_t (fw_t (fw_t fw_h)))))))))))))))) (fw_c (fw_t (fw_l (fw_l (fw_l (fw_l (fw_l (fw_r (fw_l (fw_t (fw_t (fw_t (fw_t (fw_t (fw_t (fw_t (fw_t (fw_t fw_h))))))))))))))))) fw_n))))))) (fun _ h => fw_t (fw_l (fw_l (fw_l (fw_r h)))))) (fun _ h => fw_t (fw_l (fw_l (fw_r h)))))) (by decide +kernel)
set_option maxRecDepth 20000 in
theorem gX11_place_X7_size : GoodIn wsX11_place (wsV RX11 96 RX7 yX7_size wsX7_size) := goodIn_app (goodIn_sub (fw_c (fw_t (fw_l (fw_l (fw_l (fw_l (fw_l (fw_l (fw_t (fw_t (fw_t (fw_t (fw_t (fw_t (fw_t (fw_t (fw_t (fw_t (fw_t (fw_t (fw_t (fw_t (fw_t (fw_t (fw_t (fw_t (fw_t (fw_t (fw_t (fw_t fw_h))))))))))))))))))))))))))))) (fw_c (fw_t (fw_l (fw_l (fw_l (fw_l (fw_l (fw_l (fw_t (fw_t (fw_t (fw_t (fw_t (fw_t (fw_t (fw_t (fw_t (fw_t (fw_t (fw_t (fw_t (fw_t (fw_t (fw_t (fw_t (fw_t (fw_t (fw_t (fw_t (fw_t (fw_t fw_h)))))))))))))))))))))))))))))) (fw_c (fw_t (fw_l (fw_l (fw_l (fw_l (fw_l (fw_r (fw_l fw_h)))))))) (fw_c (fw_t (fw_l (fw_l (fw_l (fw_l (fw_l (fw_r (fw_l (fw_t fw_h))))))))) fw_n)))) (by decide +kernel)) ggX11_place_X7_size
set_option maxRecDepth 20000 in
theorem ggX11_place_X6_keep : GoodIn wsX11_place wsX6_keep := goodIn_sub (fw_c (fw_t (fw_l (fw_l (fw_l (fw_l (fw_l (fw_r (fw_l (fw_t (fw_t (fw_t (fw_t (fw_t (fw_t (fw_t (fw_t (fw_t (fw_t (fw_t (fw_t (fw_t (fw_t fw_h)))))))))))))))))))))) (fw_a (fw_a (fw_c (fw_t (fw_l (fw_l (fw_l (fw_l (fw_l (fw_r (fw_l (fw_t (fw_t (fw_t (fw_t (fw_t (fw_t (fw_t (fw_t (fw_t (fw_t (fw_t (fw_t (fw_t (fw_t (fw_t fw_h))))))))))))))))))))))) (fw_c (fw_t (fw_l (fw_l (fw_l (fw_l (fw_l (fw_r (fw_l (fw_t (fw_t (fw_t (fw_t (fw_t (fw_t (fw_t (fw_t (fw_t (fw_t (fw_t (fw_t (fw_t (fw_t (fw_t (fw_t fw_h)))))))))))))))))))))))) (fw_c (fw_t (fw_l (fw_l (fw_l (fw_l (fw_l (fw_r (fw_l (fw_t (fw_t (fw_t (fw_t (fw_t (fw_t (fw_t (fw_t (fw_t (fw_t (fw_t (fw_t (fw_t (fw_t (fw_t (fw_t (fw_t fw_h))))))))))))))))))))))))) (fw_c (fw_t (fw_l (fw_l (fw_l (fw_l (fw_l (fw_r (fw_l (fw_t (fw_t (fw_t (fw_t (fw_t (fw_t (fw_t (fw_t (fw_t (fw_t (fw_t (fw_t (fw_t (fw_t (fw_t (fw_t (fw_t (fw_t fw_h)))))))))))))))))))))))))) (fw_c (fw_t (fw_l (fw_l (fw_l (fw_l (fw_l (fw_r (fw_l (fw_t (fw_t (fw_t (fw_t (fw_t (fw_t (fw_t (fw_t (fw_t (fw_t (fw_t (fw_t (fw_t (fw_t (fw_t (fw_t (fw_t (fw_t (fw_t fw_h))))))))))))))))))))))))))) (fw_c (fw_t (fw_l (fw_l (fw_l (fw_l (fw_l (fw_r (fw_l (fw_t (fw_t (fw_t (fw_t (fw_t (fw_t (fw_t (fw_t (fw_t (fw_t (fw_t (fw_t (fw_t (fw_t (fw_t (fw_t (fw_t (fw_t (fw_t (fw_t fw_h)))))))))))))))))))))))))))) (fw_c (fw_t (fw_l (fw_l (fw_l (fw_l (fw_l (fw_r (fw_l (fw_t (fw_t (fw_t (fw_t (fw_t (fw_t (fw_t (fw_t (fw_t (fw_t (fw_t (fw_t (fw_t (fw_t (fw_t (fw_t (fw_t (fw_t (fw_t (fw_t (fw_t fw_h))))))))))))))))))))))))))))) fw_n))))))) (fun _ h => fw_t (fw_l (fw_r h)))) (fun _ h => fw_t (fw_r h)))) (by decide +kernel)
set_option maxRecDepth 20000 in
theorem gX11_place_X6_keep : GoodIn wsX11_place (wsV RX11 79 RX6 yX6_keep wsX6_keep) := goodIn_app (goodIn_sub (fw_c (fw_t (fw_l (fw_l (fw_l (fw_l (fw_l (fw_r (fw_l (fw_t (fw_t (fw_t (fw_t (fw_t (fw_t (fw_t (fw_t (fw_t (fw_t fw_h)))))))))))))))))) (fw_c (fw_t (fw_l (fw_l (fw_l (fw_l (fw_l (fw_r (fw_l (fw_t (fw_t (fw_t (fw_t (fw_t (fw_t (fw_t (fw_t (fw_t (fw_t (fw_t fw_h))))))))))))))))))) (fw_c (fw_t (fw_l (fw_l (fw_l (fw_l (fw_l (fw_r (fw_l (fw_t (fw_t (fw_t (fw_t (fw_t (fw_t (fw_t (fw_t (fw_t (fw_t (fw_t (fw_t fw_h)))))))))))))))))))) (fw_c (fw_t (fw_l (fw_l (fw_l (fw_l (fw_l (fw_r (fw_l (fw_t (fw_t (fw_t (fw_t (fw_t (fw_t (fw_t (fw_t (fw_t (fw_t (fw_t (fw_t (fw_t fw_h))))))))))))))))))))) fw_n)))) (by decide +kernel)) ggX11_place_X6_keep
set_option maxRecDepth 20000 in
theorem ggX11_place_X7_addPlace : GoodIn wsX11_place wsX7_addPlace := goodIn_sub (fw_c (fw_t (fw_l (fw_l (fw_l (fw_l (fw_l (fw_r (fw_r (fw_l (fw_t fw_h)))))))))) (fw_a (fw_a (fw_a (fw_c (fw_t (fw_l (fw_l (fw_l (fw_l (fw_l (fw_r (fw_l (fw_t (fw_t (fw_t fw_h))))))))))) (fw_c (fw_t (fw_l (fw_l (fw_l (fw_l (fw_l (fw_r (fw_r (fw_l (fw_t (fw_t fw_h))))))))))) (fw_c (fw_t (fw_l (fw_l (fw_l (fw_l (fw_l (fw_r (fw_r (fw_l (fw_t (fw_t (fw_t fw_h)))))))))))) (fw_c (fw_t (fw_l (fw_l (fw_l (fw_l (fw_l (fw_r (fw_r (fw_l (fw_t (fw_t (fw_t (fw_t fw_h))))))))))))) (fw_c (fw_t (fw_l (fw_l (fw_l (fw_l (fw_l (fw_r (fw_r (fw_l (fw_t (fw_t (fw_t (fw_t (fw_t fw_h)))))))))))))) (fw_c (fw_t (fw_l (fw_l (fw_l (fw_l (fw_l (fw_r (fw_l (fw_t (fw_t (fw_t (fw_t (fw_t (fw_t (fw_t fw_h))))))))))))))) (fw_c (fw_t (fw_l (fw_l (fw_l (fw_l (fw_l (fw_r (fw_r (fw_l (fw_t (fw_t (fw_t (fw_t (fw_t (fw_t fw_h))))))))))))))) (fw_c (fw_t (fw_l (fw_l (fw_l (fw_l (fw_l (fw_r (fw_l (fw_t (fw_t (fw_t (fw_t (fw_t (fw_t (fw_t (fw_t (fw_t fw_h))))))))))))))))) (fw_c (fw_t (fw_l (fw_l (fw_l (fw_l (fw_l (fw_r (fw_r (fw_l (fw_t (fw_t (fw_t (fw_t (fw_t (fw_t (fw_t fw_h)))))))))))))))) (fw_c (fw_t (fw_l (fw_l (fw_l (fw_l (fw_l (fw_r (fw_r (fw_l (fw_t (fw_t (fw_t (fw_t (fw_t (fw_t (fw_t (fw_t fw_h))))))))))))))))) (fw_c (fw_t (fw_l (fw_l (fw_l (fw_l (fw_l (fw_r (fw_r (fw_l (fw_t (fw_t (fw_t (fw_t (fw_t (fw_t (fw_t (fw_t (fw_t fw_h)))))))))))))))))) (fw_c (fw_t (fw_l (fw_l (fw_l (fw_l (fw_l (fw_r (fw_r (fw_l (fw_t (fw_t (fw_t (fw_t (fw_t (fw_t (fw_t (fw_t (fw_t (fw_t fw_h))))))))))))))))))) (fw_c (fw_t (fw_l (fw_l (fw_l (fw_l (fw_l (fw_r (fw_r (fw_l (fw_t (fw_t (fw_t (fw_t (fw_t (fw_t (fw_t (fw_t (fw_t (fw_t (fw_t fw_h)))))))))))))))))))) (fw_c (fw_t (fw_l (fw_l (fw_l (fw_l (fw_l (fw_r (fw_r (fw_l (fw_t (fw_t (fw_t (fw_t (fw_t (fw_t (fw_t (fw_t (fw_t (fw_t (fw_t (fw_t fw_h))))))))))))))))))))) (fw_c (fw_t (fw_l (fw_l (fw_l (fw_l (fw_l (fw_r (fw_r (fw_l (fw_t (fw_t (fw_t (fw_t (fw_t (fw_t (fw_t (fw_t (fw_t (fw_t (fw_t (fw_t (fw_t fw_h)))))))))))))))))))))) (fw_c (fw_t (fw_l (fw_l (fw_l (fw_l (fw_l (fw_r (fw_r (fw_l (fw_t (fw_t (fw_t (fw_t (fw_t (fw_t (fw_t (fw_t (fw_t (fw_t (fw_t (fw_t (fw_t (fw_t fw_h))))))))))))))))))))))) (fw_c (fw_t (fw_l (fw_l (fw_l (fw_l (fw_l (fw_r (fw_r (fw_l (fw_t (fw_t (fw_t (fw_t (fw_t (fw_t (fw_t (fw_t (fw_t (fw_t (fw_t (fw_t (fw_t (fw_t (fw_t fw_h)))))))))))))))))))))))) (fw_c (fw_t (fw_l (fw_l (fw_l (fw_l (fw_l (fw_r (fw_r (fw_l (fw_t (fw_t (fw_t (fw_t (fw_t (fw_t (fw_t (fw_t (fw_t (fw_t (fw_t (fw_t (fw_t (fw_t (fw_t (fw_t fw_h))))))))))))))))))))))))) (fw_c (fw_t (fw_l (fw_l (fw_l (fw_l (fw_l (fw_r (fw_r (fw_l (fw_t (fw_t (fw_t (fw_t (fw_t (fw_t (fw_t (fw_t (fw_t (fw_t (fw_t (fw_t (fw_t (fw_t (fw_t (fw_t (fw_t fw_h)))))))))))))))))))))))))) (fw_c (fw_t (fw_l (fw_l (fw_l (fw_l (fw_l (fw_r (fw_r (fw_l (fw_t (fw_t (fw_t (fw_t (fw_t (fw_t (fw_t (fw_t (fw_t (fw_t (fw_t (fw_t (fw_t (fw_t (fw_t (fw_t (fw_t (fw_t fw_h))))))))))))))))))))))))))) (fw_c (fw_t (fw_l (fw_l (fw_l (fw_l (fw_l (fw_r (fw_r (fw_l (fw_t (fw_t (fw_t (fw_t (fw_t (fw_t (fw_t (fw_t (fw_t (fw_t (fw_t (fw_t (fw_t (fw_t (fw_t (fw_t (fw_t (fw_t (fw_t fw_h)))))))))))))))))))))))))))) (fw_c (fw_t (fw_l (fw_l (fw_l (fw_l (fw_l (fw_r (fw_r (fw_l (fw_t (fw_t (fw_t (fw_t (fw_t (fw_t (fw_t (fw_t (fw_t (fw_t (fw_t (fw_t (fw_t (fw_t (fw_t (fw_t (fw_t (fw_t (fw_t (fw_t fw_h))))))))))))))))))))))))))))) (fw_c (fw_t (fw_l (fw_l (fw_l (fw_l (fw_l (fw_r (fw_r (fw_l (fw_t (fw_t (fw_t (fw_t (fw_t (fw_t (fw_t (fw_t (fw_t (fw_t (fw_t (fw_t (fw_t (fw_t (fw_t (fw_t (fw_t (fw_t (fw_t (fw_t (fw_t fw_h)))))))))))))))))))))))))))))) (fw_c (fw_t (fw_l (fw_l (fw_l (fw_l (fw_l (fw_r (fw_r (fw_l (fw_t (fw_t (fw_t (fw_t (fw_t (fw_t (fw_t (fw_t (fw_t (fw_t (fw_t (fw_t (fw_t (fw_t (fw_t (fw_t (fw_t (fw_t (fw_t (fw_t (fw_t (fw_t fw_h))))))))))))))))))))))))))))))) fw_n)))))))))))))))))))))))) (fw_c (fw_t (fw_l (fw_l (fw_l (fw_l (fw_l (fw_r (fw_r (fw_l (fw_t (fw_t (fw_t (fw_t (fw_t (fw_t (fw_t (fw_t (fw_t (fw_t (fw_t (fw_t (fw_t (fw_t (fw_t (fw_t (fw_t (fw_t (fw_t (fw_t (fw_t (fw_t (fw_t fw_h)))))))))))))))))))))))))))))))) (fw_c (fw_t (fw_l (fw_l (fw_l (fw_l (fw_l (fw_r (fw_l (fw_t (fw_t (fw_t (fw_t (fw_t (fw_t (fw_t (fw_t (fw_t (fw_t (fw_t (fw_t (fw_t (fw_t (fw_t (fw_t (fw_t (fw_t (fw_t (fw_t fw_h)))))))))))))))))))))))))))) (fw_c (fw_t (fw_l (fw_l (fw_l (fw_l (fw_l (fw_r (fw_r (fw_r fw_h))))))))) (fw_c (fw_t (fw_l (fw_l (fw_l (fw_l (fw_l (fw_r (fw_r (fw_r (fw_t fw_h)))))))))) (fw_c (fw_t (fw_l (fw_l (fw_l (fw_l (fw_l (fw_r (fw_r (fw_r (fw_t (fw_t fw_h))))))))))) (fw_c (fw_t (fw_l (fw_l (fw_l (fw_l (fw_l (fw_r (fw_r (fw_r (fw_t (fw_t (fw_t fw_h)))))))))))) (fw_c (fw_t (fw_l (fw_l (fw_l (fw_l (fw_l (fw_r (fw_r (fw_r (fw_t (fw_t (fw_t (fw_t fw_h))))))))))))) (fw_c (fw_t (fw_l (fw_l (fw_l (fw_l (fw_l (fw_r (fw_r (fw_r (fw_t (fw_t (fw_t (fw_t (fw_t fw_h)))))))))))))) (fw_c (fw_t (fw_l (fw_l (fw_l (fw_l (fw_l (fw_r (fw_r (fw_r (fw_t (fw_t (fw_t (fw_t (fw_t (fw_t fw_h))))))))))))))) (fw_c (fw_t (fw_l (fw_l (fw_l (fw_l (fw_l (fw_r (fw_r (fw_r (fw_t (fw_t (fw_t (fw_t (fw_t (fw_t (fw_t fw_h)))))))))))))))) fw_n))))))))))) (fun _ h => fw_t (fw_l (fw_l (fw_l (fw_r h)))))) (fun _ h => fw_t (fw_l (fw_l (fw_r h)))))) (by decide +kernel)
set_option maxRecDepth 20000 in
theorem gX11_place_X7_addPlace : GoodIn wsX11_place (wsV RX11 100 RX7 yX7_addPlace wsX7_addPlace) := goodIn_app (goodIn_sub (fw_c (fw_t (fw_l (fw_l (fw_l (fw_l (fw_l (fw_r (fw_l (fw_t (fw_t (fw_t (fw_t (fw_t (fw_t (fw_t (fw_t (fw_t (fw_t (fw_t (fw_t (fw_t (fw_t (fw_t (fw_t (fw_t (fw_t (fw_t (fw_t (fw_t (fw_t fw_h)))))))))))))))))))))))))))))) (fw_c (fw_t (fw_l (fw_l (fw_l (fw_l (fw_l (fw_r (fw_l (fw_t (fw_t (fw_t (fw_t (fw_t (fw_t (fw_t (fw_t (fw_t (fw_t (fw_t (fw_t (fw_t (fw_t (fw_t (fw_t (fw_t (fw_t (fw_t (fw_t (fw_t (fw_t (fw_t fw_h))))))))))))))))))))))))))))))) (fw_c (fw_t (fw_l (fw_l (fw_l (fw_l (fw_l (fw_r (fw_r (fw_l fw_h))))))))) (fw_c (fw_t (fw_l (fw_l (fw_l (fw_l (fw_l (fw_r (fw_l (fw_t fw_h))))))))) fw_n)))) (by decide +kernel)) ggX11_place_X7_addPlace
theorem dX11_place_0 : decode cX11_place 0 = .ok (.aload_n 0, 1) := by decide +kernel
theorem dX11_place_1 : decode cX11_place 1 = .ok (.iload_n 1, 1) := by decide +kernel
theorem dX11_place_2 : decode cX11_place 2 = .ok (.invokevirtual 86, 3) := by decide +kernel
theorem dX11_place_5 : decode cX11_place 5 = .ok (.astore 6, 2) := by decide +kernel
theorem dX11_place_7 : decode cX11_place 7 = .ok (.aload 6, 2) := by decide +kernel
theorem dX11_place_9 : decode cX11_place 9 = .ok (.ifnull 33, 3) := by decide +kernel
theorem dX11_place_12 : decode cX11_place 12 = .ok (.iload_n 2, 1) := by decide +kernel
theorem dX11_place_13 : decode cX11_place 13 = .ok (.invokestatic 90, 3) := by decide +kernel
theorem dX11_place_16 : decode cX11_place 16 = .ok (.ifCond .eq 26, 3) := by decide +kernel
theorem dX11_place_19 : decode cX11_place 19 = .ok (.iload_n 3, 1) := by decide +kernel
theorem dX11_place_20 : decode cX11_place 20 = .ok (.invokestatic 90, 3) := by decide +kernel
theorem dX11_place_23 : decode cX11_place 23 = .ok (.ifCond .eq 19, 3) := by decide +kernel
theorem dX11_place_26 : decode cX11_place 26 = .ok (.iload 4, 2) := by decide +kernel
theorem dX11_place_28 : decode cX11_place 28 = .ok (.invokestatic 90, 3) := by decide +kernel
theorem dX11_place_31 : decode cX11_place 31 = .ok (.ifCond .eq 11, 3) := by decide +kernel
theorem dX11_place_34 : decode cX11_place 34 = .ok (.iload 5, 2) := by decide +kernel
theorem dX11_place_36 : decode cX11_place 36 = .ok (.invokestatic 90, 3) := by decide +kernel
theorem dX11_place_39 : decode cX11_place 39 = .ok (.ifCond .ne 11, 3) := by decide +kernel
theorem dX11_place_42 : decode cX11_place 42 = .ok (.aload_n 0, 1) := by decide +kernel
theorem dX11_place_43 : decode cX11_place 43 = .ok (.ldc2_w 94, 3) := by decide +kernel
theorem dX11_place_46 : decode cX11_place 46 = .ok (.invokevirtual 75, 3) := by decide +kernel
theorem dX11_place_49 : decode cX11_place 49 = .ok (.lreturn, 1) := by decide +kernel
theorem dX11_place_50 : decode cX11_place 50 = .ok (.aload 6, 2) := by decide +kernel
theorem dX11_place_52 : decode cX11_place 52 = .ok (.invokevirtual 96, 3) := by decide +kernel
theorem dX11_place_55 : decode cX11_place 55 = .ok (.bipush 8, 2) := by decide +kernel
theorem dX11_place_57 : decode cX11_place 57 = .ok (.if_icmp .lt 11, 3) := by decide +kernel
theorem dX11_place_60 : decode cX11_place 60 = .ok (.aload_n 0, 1) := by decide +kernel
theorem dX11_place_61 : decode cX11_place 61 = .ok (.ldc2_w 73, 3) := by decide +kernel
theorem dX11_place_64 : decode cX11_place 64 = .ok (.invokevirtual 75, 3) := by decide +kernel
theorem dX11_place_67 : decode cX11_place 67 = .ok (.lreturn, 1) := by decide +kernel
theorem dX11_place_68 : decode cX11_place 68 = .ok (.aload_n 0, 1) := by decide +kernel
theorem dX11_place_69 : decode cX11_place 69 = .ok (.getfield 64, 3) := by decide +kernel
theorem dX11_place_72 : decode cX11_place 72 = .ok (.iconst 1, 1) := by decide +kernel
theorem dX11_place_73 : decode cX11_place 73 = .ok (.iload_n 1, 1) := by decide +kernel
theorem dX11_place_74 : decode cX11_place 74 = .ok (.invokevirtual 79, 3) := by decide +kernel
theorem dX11_place_77 : decode cX11_place 77 = .ok (.pop, 1) := by decide +kernel
theorem dX11_place_78 : decode cX11_place 78 = .ok (.aload 6, 2) := by decide +kernel
theorem dX11_place_80 : decode cX11_place 80 = .ok (.iload_n 2, 1) := by decide +kernel
theorem dX11_place_81 : decode cX11_place 81 = .ok (.iload_n 3, 1) := by decide +kernel
theorem dX11_place_82 : decode cX11_place 82 = .ok (.iload 4, 2) := by decide +kernel
theorem dX11_place_84 : decode cX11_place 84 = .ok (.iload 5, 2) := by decide +kernel
theorem dX11_place_86 : decode cX11_place 86 = .ok (.invokevirtual 100, 3) := by decide +kernel
theorem dX11_place_89 : decode cX11_place 89 = .ok (.aload 6, 2) := by decide +kernel
theorem dX11_place_91 : decode cX11_place 91 = .ok (.invokevirtual 96, 3) := by decide +kernel
theorem dX11_place_94 : decode cX11_place 94 = .ok (.i2l, 1) := by decide +kernel
theorem dX11_place_95 : decode cX11_place 95 = .ok (.lreturn, 1) := by decide +kernel
set_option maxRecDepth 20000 in
theorem ggX11_unplace_X11_pictureAt : GoodIn wsX11_unplace wsX11_pictureAt := goodIn_sub (fw_c (fw_t (fw_l (fw_l (fw_l (fw_l (fw_l (fw_l (fw_t (fw_t (fw_t (fw_t (fw_t (fw_t (fw_t fw_h)))))))))))))) (fw_a (fw_c (fw_t (fw_l (fw_l (fw_l (fw_l (fw_l (fw_l (fw_t (fw_t (fw_t (fw_t (fw_t (fw_t (fw_t (fw_t fw_h))))))))))))))) (fw_c (fw_t (fw_l (fw_l (fw_l (fw_l (fw_l (fw_l (fw_t (fw_t (fw_t (fw_t (fw_t (fw_t (fw_t (fw_t (fw_t fw_h)))))))))))))))) fw_n)) (fun _ h => fw_t (fw_l (fw_l (fw_l (fw_l (fw_r h)))))))) (by decide +kernel)
set_option maxRecDepth 20000 in
theorem gX11_unplace_X11_pictureAt : GoodIn wsX11_unplace (wsV RX11 86 RX11 yX11_pictureAt wsX11_pictureAt) := goodIn_app (goodIn_sub (fw_c (fw_t (fw_l (fw_l (fw_l (fw_l (fw_l (fw_l (fw_t (fw_t (fw_t fw_h)))))))))) (fw_c (fw_t (fw_l (fw_l (fw_l (fw_l (fw_l (fw_l (fw_t (fw_t (fw_t (fw_t fw_h))))))))))) (fw_c (fw_t (fw_l (fw_l (fw_l (fw_l (fw_l (fw_l (fw_t (fw_t (fw_t (fw_t (fw_t fw_h)))))))))))) (fw_c (fw_t (fw_l (fw_l (fw_l (fw_l (fw_l (fw_l (fw_t (fw_t (fw_t (fw_t (fw_t (fw_t fw_h))))))))))))) fw_n)))) (by decide +kernel)) ggX11_unplace_X11_pictureAt
set_option maxRecDepth 20000 in
theorem ggX11_unplace_X11_told : GoodIn wsX11_unplace wsX11_told := goodIn_sub (fw_c (fw_t (fw_l (fw_l (fw_l (fw_l (fw_l (fw_l (fw_t (fw_t (fw_t (fw_t (fw_t (fw_t (fw_t (fw_t (fw_t (fw_t (fw_t (fw_t (fw_t fw_h)))))))))))))))))))) (fw_a (fw_c (fw_t (fw_l (fw_l (fw_l (fw_l (fw_l (fw_l (fw_t (fw_t (fw_t (fw_t (fw_t (fw_t (fw_t (fw_t (fw_t (fw_t (fw_t (fw_t (fw_t (fw_t fw_h))))))))))))))))))))) (fw_c (fw_t (fw_l (fw_l (fw_l (fw_l (fw_l (fw_l (fw_t (fw_t (fw_t (fw_t (fw_t (fw_t (fw_t (fw_t (fw_t (fw_t (fw_t (fw_t (fw_t (fw_t (fw_t fw_h)))))))))))))))))))))) fw_n)) (fun _ h => fw_t (fw_l (fw_l (fw_l (fw_l (fw_r h)))))))) (by decide +kernel)
set_option maxRecDepth 20000 in
theorem gX11_unplace_X11_told : GoodIn wsX11_unplace (wsV RX11 75 RX11 yX11_told wsX11_told) := goodIn_app (goodIn_sub (fw_c (fw_t (fw_l (fw_l (fw_l (fw_l (fw_l (fw_l (fw_t (fw_t (fw_t (fw_t (fw_t (fw_t (fw_t (fw_t (fw_t (fw_t fw_h))))))))))))))))) (fw_c (fw_t (fw_l (fw_l (fw_l (fw_l (fw_l (fw_l (fw_t (fw_t (fw_t (fw_t (fw_t (fw_t (fw_t (fw_t (fw_t (fw_t (fw_t fw_h)))))))))))))))))) (fw_c (fw_t (fw_l (fw_l (fw_l (fw_l (fw_l (fw_l (fw_t (fw_t (fw_t (fw_t (fw_t (fw_t (fw_t (fw_t (fw_t (fw_t (fw_t (fw_t fw_h))))))))))))))))))) (fw_c (fw_t (fw_l (fw_l (fw_l (fw_l (fw_l (fw_l (fw_t (fw_t (fw_t (fw_t (fw_t (fw_t fw_h))))))))))))) fw_n)))) (by decide +kernel)) ggX11_unplace_X11_told
set_option maxRecDepth 20000 in
theorem ggX11_unplace_X7_size : GoodIn wsX11_unplace wsX7_size := goodIn_sub (fw_c (fw_t (fw_l (fw_l (fw_l (fw_l (fw_l (fw_l (fw_t (fw_t (fw_t (fw_t (fw_t (fw_t (fw_t (fw_t (fw_t (fw_t (fw_t (fw_t (fw_t (fw_t (fw_t (fw_t (fw_t (fw_t (fw_t (fw_t fw_h))))))))))))))))))))))))))) (fw_a (fw_a (fw_c (fw_t (fw_l (fw_l (fw_l (fw_l (fw_l (fw_l (fw_t (fw_t (fw_t (fw_t (fw_t (fw_t (fw_t (fw_t (fw_t (fw_t (fw_t (fw_t (fw_t (fw_t (fw_t (fw_t (fw_t (fw_t (fw_t (fw_t (fw_t fw_h)))))))))))))))))))))))))))) (fw_c (fw_t (fw_l (fw_l (fw_l (fw_l (fw_l (fw_l (fw_t (fw_t (fw_t (fw_t (fw_t (fw_t (fw_t (fw_t (fw_t (fw_t (fw_t (fw_t (fw_t (fw_t (fw_t (fw_t (fw_t (fw_t (fw_t (fw_t (fw_t (fw_t fw_h))))))))))))))))))))))))))))) (fw_c (fw_t (fw_l (fw_l (fw_l (fw_l (fw_l (fw_l (fw_t (fw_t (fw_t (fw_t (fw_t (fw_t (fw_t (fw_t (fw_t (fw_t (fw_t (fw_t (fw_t (fw_t (fw_t (fw_t (fw_t (fw_t (fw_t (fw_t (fw_t (fw_t (fw_t fw_h)))))))))))))))))))))))))))))) (fw_c (fw_t (fw_l (fw_l (fw_l (fw_l (fw_l (fw_r (fw_l fw_h)))))))) (fw_c (fw_t (fw_l (fw_l (fw_l (fw_l (fw_l (fw_r (fw_l (fw_t fw_h))))))))) (fw_c (fw_t (fw_l (fw_l (fw_l (fw_l (fw_l (fw_r (fw_l (fw_t (fw_t fw_h)))))))))) (fw_c (fw_t (fw_l (fw_l (fw_l (fw_l (fw_l (fw_r (fw_l (fw_t (fw_t (fw_t fw_h))))))))))) fw_n))))))) (fun _ h => fw_t (fw_l (fw_l (fw_l (fw_r h)))))) (fun _ h => fw_t (fw_l (fw_l (fw_r h)))))) (by decide +kernel)
set_option maxRecDepth 20000 in
theorem gX11_unplace_X7_size : GoodIn wsX11_unplace (wsV RX11 96 RX7 yX7_size wsX7_size) := goodIn_app (goodIn_sub (fw_c (fw_t (fw_l (fw_l (fw_l (fw_l (fw_l (fw_l (fw_t (fw_t (fw_t (fw_t (fw_t (fw_t (fw_t (fw_t (fw_t (fw_t (fw_t (fw_t (fw_t (fw_t (fw_t (fw_t fw_h))))))))))))))))))))))) (fw_c (fw_t (fw_l (fw_l (fw_l (fw_l (fw_l (fw_l (fw_t (fw_t (fw_t (fw_t (fw_t (fw_t (fw_t (fw_t (fw_t (fw_t (fw_t (fw_t (fw_t (fw_t (fw_t (fw_t (fw_t fw_h)))))))))))))))))))))))) (fw_c (fw_t (fw_l (fw_l (fw_l (fw_l (fw_l (fw_l (fw_t (fw_t (fw_t (fw_t (fw_t (fw_t (fw_t (fw_t (fw_t (fw_t (fw_t (fw_t (fw_t (fw_t (fw_t (fw_t (fw_t (fw_t fw_h))))))))))))))))))))))))) (fw_c (fw_t (fw_l (fw_l (fw_l (fw_l (fw_l (fw_l (fw_t (fw_t (fw_t (fw_t (fw_t (fw_t (fw_t (fw_t (fw_t (fw_t (fw_t (fw_t (fw_t (fw_t (fw_t (fw_t (fw_t (fw_t (fw_t fw_h)))))))))))))))))))))))))) fw_n)))) (by decide +kernel)) ggX11_unplace_X7_size
set_option maxRecDepth 20000 in
theorem ggX11_unplace_X6_keep : GoodIn wsX11_unplace wsX6_keep := goodIn_sub (fw_c (fw_t (fw_l (fw_l (fw_l (fw_l (fw_l (fw_r (fw_l (fw_t (fw_t (fw_t (fw_t (fw_t (fw_t (fw_t (fw_t fw_h)))))))))))))))) (fw_a (fw_a (fw_c (fw_t (fw_l (fw_l (fw_l (fw_l (fw_l (fw_r (fw_l (fw_t (fw_t (fw_t (fw_t (fw_t (fw_t (fw_t (fw_t (fw_t fw_h))))))))))))))))) (fw_c (fw_t (fw_l (fw_l (fw_l (fw_l (fw_l (fw_r (fw_l (fw_t (fw_t (fw_t (fw_t (fw_t (fw_t (fw_t (fw_t (fw_t (fw_t fw_h)))))))))))))))))) (fw_c (fw_t (fw_l (fw_l (fw_l (fw_l (fw_l (fw_r (fw_l (fw_t (fw_t (fw_t (fw_t (fw_t (fw_t (fw_t (fw_t (fw_t (fw_t (fw_t fw_h))))))))))))))))))) (fw_c (fw_t (fw_l (fw_l (fw_l (fw_l (fw_l (fw_r (fw_l (fw_t (fw_t (fw_t (fw_t (fw_t (fw_t (fw_t (fw_t (fw_t (fw_t (fw_t (fw_t fw_h)))))))))))))))))))) (fw_c (fw_t (fw_l (fw_l (fw_l (fw_l (fw_l (fw_r (fw_l (fw_t (fw_t (fw_t (fw_t (fw_t (fw_t (fw_t (fw_t (fw_t (fw_t (fw_t (fw_t (fw_t fw_h))))))))))))))))))))) (fw_c (fw_t (fw_l (fw_l (fw_l (fw_l (fw_l (fw_r (fw_l (fw_t (fw_t (fw_t (fw_t (fw_t (fw_t (fw_t (fw_t (fw_t (fw_t (fw_t (fw_t (fw_t (fw_t fw_h)))))))))))))))))))))) (fw_c (fw_t (fw_l (fw_l (fw_l (fw_l (fw_l (fw_r (fw_l (fw_t (fw_t (fw_t (fw_t (fw_t (fw_t (fw_t (fw_t (fw_t (fw_t (fw_t (fw_t (fw_t (fw_t (fw_t fw_h))))))))))))))))))))))) fw_n))))))) (fun _ h => fw_t (fw_l (fw_r h)))) (fun _ h => fw_t (fw_r h)))) (by decide +kernel)
set_option maxRecDepth 20000 in
theorem gX11_unplace_X6_keep : GoodIn wsX11_unplace (wsV RX11 79 RX6 yX6_keep wsX6_keep) := goodIn_app (goodIn_sub (fw_c (fw_t (fw_l (fw_l (fw_l (fw_l (fw_l (fw_r (fw_l (fw_t (fw_t (fw_t (fw_t fw_h)))))))))))) (fw_c (fw_t (fw_l (fw_l (fw_l (fw_l (fw_l (fw_r (fw_l (fw_t (fw_t (fw_t (fw_t (fw_t fw_h))))))))))))) (fw_c (fw_t (fw_l (fw_l (fw_l (fw_l (fw_l (fw_r (fw_l (fw_t (fw_t (fw_t (fw_t (fw_t (fw_t fw_h)))))))))))))) (fw_c (fw_t (fw_l (fw_l (fw_l (fw_l (fw_l (fw_r (fw_l (fw_t (fw_t (fw_t (fw_t (fw_t (fw_t (fw_t fw_h))))))))))))))) fw_n)))) (by decide +kernel)) ggX11_unplace_X6_keep
set_option maxRecDepth 20000 in
theorem ggX11_unplace_X7_saveLatest : GoodIn wsX11_unplace wsX7_saveLatest := goodIn_sub (fw_c (fw_t (fw_l (fw_l (fw_l (fw_l (fw_l (fw_r (fw_l (fw_t (fw_t (fw_t (fw_t (fw_t (fw_t (fw_t (fw_t (fw_t (fw_t (fw_t (fw_t (fw_t (fw_t (fw_t (fw_t (fw_t (fw_t (fw_t fw_h))))))))))))))))))))))))))) (fw_a (fw_a (fw_a (fw_c (fw_t (fw_l (fw_l (fw_l (fw_l (fw_l (fw_l (fw_t (fw_t (fw_t (fw_t (fw_t (fw_t (fw_t (fw_t (fw_t (fw_t (fw_t (fw_t (fw_t (fw_t (fw_t (fw_t (fw_t (fw_t (fw_t (fw_t (fw_t fw_h)))))))))))))))))))))))))))) (fw_c (fw_t (fw_l (fw_l (fw_l (fw_l (fw_l (fw_r (fw_l (fw_t (fw_t (fw_t (fw_t (fw_t (fw_t (fw_t (fw_t (fw_t (fw_t (fw_t (fw_t (fw_t (fw_t (fw_t (fw_t (fw_t (fw_t (fw_t (fw_t fw_h)))))))))))))))))))))))))))) (fw_c (fw_t (fw_l (fw_l (fw_l (fw_l (fw_l (fw_r (fw_l (fw_t (fw_t (fw_t (fw_t (fw_t (fw_t (fw_t (fw_t (fw_t (fw_t (fw_t (fw_t (fw_t (fw_t (fw_t (fw_t (fw_t (fw_t (fw_t (fw_t (fw_t fw_h))))))))))))))))))))))))))))) (fw_c (fw_t (fw_l (fw_l (fw_l (fw_l (fw_l (fw_r (fw_l (fw_t (fw_t (fw_t (fw_t (fw_t (fw_t (fw_t (fw_t (fw_t (fw_t (fw_t (fw_t (fw_t (fw_t (fw_t (fw_t (fw_t (fw_t (fw_t (fw_t (fw_t (fw_t fw_h)))))))))))))))))))))))))))))) (fw_c (fw_t (fw_l (fw_l (fw_l (fw_l (fw_l (fw_r (fw_l (fw_t (fw_t (fw_t (fw_t (fw_t (fw_t (fw_t (fw_t (fw_t (fw_t (fw_t (fw_t (fw_t (fw_t (fw_t (fw_t (fw_t (fw_t (fw_t (fw_t (fw_t (fw_t (fw_t fw_h))))))))))))))))))))))))))))))) (fw_c (fw_t (fw_l (fw_l (fw_l (fw_l (fw_l (fw_r (fw_l (fw_t fw_h))))))))) (fw_c (fw_t (fw_l (fw_l (fw_l (fw_l (fw_l (fw_r (fw_r (fw_l fw_h))))))))) (fw_c (fw_t (fw_l (fw_l (fw_l (fw_l (fw_l (fw_r (fw_l (fw_t (fw_t (fw_t fw_h))))))))))) (fw_c (fw_t (fw_l (fw_l (fw_l (fw_l (fw_l (fw_r (fw_r (fw_l (fw_t fw_h)))))))))) (fw_c (fw_t (fw_l (fw_l (fw_l (fw_l (fw_l (fw_r (fw_r (fw_l (fw_t (fw_t fw_h))))))))))) (fw_c (fw_t (fw_l (fw_l (fw_l (fw_l (fw_l (fw_r (fw_r (fw_l (fw_t (fw_t (fw_t fw_h)))))))))))) (fw_c (fw_t (fw_l (fw_l (fw_l (fw_l (fw_l (fw_r (fw_r (fw_l (fw_t (fw_t (fw_t (fw_t fw_h))))))))))))) (fw_c (fw_t (fw_l (fw_l (fw_l (fw_l (fw_l (fw_r (fw_r (fw_l (fw_t (fw_t (fw_t (fw_t (fw_t fw_h)))))))))))))) (fw_c (fw_t (fw_l (fw_l (fw_l (fw_l (fw_l (fw_r (fw_r (fw_l (fw_t (fw_t (fw_t (fw_t (fw_t (fw_t fw_h))))))))))))))) fw_n)))))))))))))) (fun _ h => fw_t (fw_r h))) (fun _ h => fw_t (fw_l (fw_l (fw_l (fw_r h)))))) (fun _ h => fw_t (fw_l (fw_l (fw_r h)))))) (by decide +kernel)
set_option maxRecDepth 20000 in
theorem gX11_unplace_X7_saveLatest : GoodIn wsX11_unplace (wsV RX11 106 RX7 yX7_saveLatest wsX7_saveLatest) := goodIn_app (goodIn_sub (fw_c (fw_t (fw_l (fw_l (fw_l (fw_l (fw_l (fw_r (fw_l (fw_t (fw_t (fw_t (fw_t (fw_t (fw_t (fw_t (fw_t (fw_t (fw_t (fw_t (fw_t (fw_t (fw_t (fw_t (fw_t fw_h)))))))))))))))))))))))) (fw_c (fw_t (fw_l (fw_l (fw_l (fw_l (fw_l (fw_r (fw_l (fw_t (fw_t (fw_t (fw_t (fw_t (fw_t (fw_t (fw_t (fw_t (fw_t (fw_t (fw_t (fw_t (fw_t (fw_t (fw_t (fw_t fw_h))))))))))))))))))))))))) (fw_c (fw_t (fw_l (fw_l (fw_l (fw_l (fw_l (fw_r (fw_l (fw_t (fw_t (fw_t (fw_t (fw_t (fw_t (fw_t (fw_t (fw_t (fw_t (fw_t (fw_t (fw_t (fw_t (fw_t (fw_t (fw_t (fw_t fw_h)))))))))))))))))))))))))) (fw_c (fw_t (fw_l (fw_l (fw_l (fw_l (fw_l (fw_l (fw_t (fw_t (fw_t (fw_t (fw_t (fw_t (fw_t (fw_t (fw_t (fw_t (fw_t (fw_t (fw_t (fw_t (fw_t (fw_t (fw_t (fw_t (fw_t fw_h)))))))))))))))))))))))))) fw_n)))) (by decide +kernel)) ggX11_unplace_X7_saveLatest
set_option maxRecDepth 20000 in
theorem ggX11_unplace_X7_dropPlace : GoodIn wsX11_unplace wsX7_dropPlace := goodIn_sub (fw_c (fw_t (fw_l (fw_l (fw_l (fw_l (fw_l (fw_r (fw_r (fw_l (fw_t (fw_t (fw_t (fw_t (fw_t (fw_t (fw_t (fw_t (fw_t (fw_t fw_h))))))))))))))))))) (fw_a (fw_a (fw_a (fw_c (fw_t (fw_l (fw_l (fw_l (fw_l (fw_l (fw_l (fw_t (fw_t (fw_t (fw_t (fw_t (fw_t (fw_t (fw_t (fw_t (fw_t (fw_t (fw_t (fw_t (fw_t (fw_t (fw_t (fw_t (fw_t (fw_t (fw_t (fw_t fw_h)))))))))))))))))))))))))))) (fw_c (fw_t (fw_l (fw_l (fw_l (fw_l (fw_l (fw_r (fw_l (fw_t (fw_t (fw_t (fw_t (fw_t (fw_t (fw_t (fw_t (fw_t (fw_t (fw_t (fw_t (fw_t (fw_t (fw_t (fw_t (fw_t (fw_t (fw_t (fw_t fw_h)))))))))))))))))))))))))))) (fw_c (fw_t (fw_l (fw_l (fw_l (fw_l (fw_l (fw_r (fw_r (fw_l (fw_t (fw_t (fw_t (fw_t (fw_t (fw_t (fw_t (fw_t (fw_t (fw_t (fw_t fw_h)))))))))))))))))))) (fw_c (fw_t (fw_l (fw_l (fw_l (fw_l (fw_l (fw_r (fw_r (fw_l (fw_t (fw_t (fw_t (fw_t (fw_t (fw_t (fw_t (fw_t (fw_t (fw_t (fw_t (fw_t fw_h))))))))))))))))))))) (fw_c (fw_t (fw_l (fw_l (fw_l (fw_l (fw_l (fw_r (fw_r (fw_l (fw_t (fw_t (fw_t (fw_t (fw_t (fw_t (fw_t (fw_t (fw_t (fw_t (fw_t (fw_t (fw_t fw_h)))))))))))))))))))))) (fw_c (fw_t (fw_l (fw_l (fw_l (fw_l (fw_l (fw_r (fw_l (fw_t fw_h))))))))) (fw_c (fw_t (fw_l (fw_l (fw_l (fw_l (fw_l (fw_r (fw_r (fw_l (fw_t (fw_t (fw_t (fw_t (fw_t (fw_t (fw_t (fw_t (fw_t (fw_t (fw_t (fw_t (fw_t (fw_t fw_h))))))))))))))))))))))) (fw_c (fw_t (fw_l (fw_l (fw_l (fw_l (fw_l (fw_r (fw_l (fw_t (fw_t (fw_t fw_h))))))))))) (fw_c (fw_t (fw_l (fw_l (fw_l (fw_l (fw_l (fw_r (fw_r (fw_l (fw_t (fw_t (fw_t (fw_t (fw_t (fw_t (fw_t (fw_t (fw_t (fw_t (fw_t (fw_t (fw_t (fw_t (fw_t fw_h)))))))))))))))))))))))) (fw_c (fw_t (fw_l (fw_l (fw_l (fw_l (fw_l (fw_r (fw_r (fw_l (fw_t (fw_t (fw_t (fw_t (fw_t (fw_t (fw_t (fw_t (fw_t (fw_t (fw_t (fw_t (fw_t (fw_t (fw_t (fw_t fw_h))))))))))))))))))))))))) (fw_c (fw_t (fw_l (fw_l (fw_l (fw_l (fw_l (fw_r (fw_r (fw_l (fw_t (fw_t (fw_t (fw_t (fw_t (fw_t (fw_t (fw_t (fw_t (fw_t (fw_t (fw_t (fw_t (fw_t (fw_t (fw_t (fw_t fw_h)))))))))))))))))))))))))) (fw_c (fw_t (fw_l (fw_l (fw_l (fw_l (fw_l (fw_r (fw_r (fw_l (fw_t (fw_t (fw_t (fw_t (fw_t (fw_t (fw_t (fw_t (fw_t (fw_t (fw_t (fw_t (fw_t (fw_t (fw_t (fw_t (fw_t (fw_t fw_h))))))))))))))))))))))))))) (fw_c (fw_t (fw_l (fw_l (fw_l (fw_l (fw_l (fw_r (fw_r (fw_l (fw_t fw_h)))))))))) (fw_c (fw_t (fw_l (fw_l (fw_l (fw_l (fw_l (fw_r (fw_r (fw_l (fw_t (fw_t (fw_t (fw_t (fw_t (fw_t fw_h))))))))))))))) (fw_c (fw_t (fw_l (fw_l (fw_l (fw_l (fw_l (fw_r (fw_r (fw_l (fw_t (fw_t (fw_t (fw_t (fw_t (fw_t (fw_t (fw_t (fw_t (fw_t (fw_t (fw_t (fw_t (fw_t (fw_t (fw_t (fw_t (fw_t (fw_t fw_h)))))))))))))))))))))))))))) (fw_c (fw_t (fw_l (fw_l (fw_l (fw_l (fw_l (fw_r (fw_r (fw_l (fw_t (fw_t (fw_t (fw_t (fw_t (fw_t (fw_t (fw_t (fw_t (fw_t (fw_t (fw_t (fw_t (fw_t (fw_t (fw_t (fw_t (fw_t (fw_t (fw_t fw_h))))))))))))))))))))))))))))) (fw_c (fw_t (fw_l (fw_l (fw_l (fw_l (fw_l (fw_r (fw_r (fw_l (fw_t (fw_t (fw_t (fw_t (fw_t (fw_t (fw_t (fw_t (fw_t (fw_t (fw_t (fw_t (fw_t (fw_t (fw_t (fw_t (fw_t (fw_t (fw_t (fw_t (fw_t fw_h)))))))))))))))))))))))))))))) (fw_c (fw_t (fw_l (fw_l (fw_l (fw_l (fw_l (fw_r (fw_r (fw_l (fw_t (fw_t (fw_t (fw_t (fw_t (fw_t (fw_t (fw_t (fw_t (fw_t (fw_t (fw_t (fw_t (fw_t (fw_t (fw_t (fw_t (fw_t (fw_t (fw_t (fw_t (fw_t fw_h))))))))))))))))))))))))))))))) (fw_c (fw_t (fw_l (fw_l (fw_l (fw_l (fw_l (fw_r (fw_r (fw_l (fw_t (fw_t (fw_t (fw_t (fw_t (fw_t (fw_t (fw_t (fw_t (fw_t (fw_t (fw_t (fw_t (fw_t (fw_t (fw_t (fw_t (fw_t (fw_t (fw_t (fw_t (fw_t (fw_t fw_h)))))))))))))))))))))))))))))))) (fw_c (fw_t (fw_l (fw_l (fw_l (fw_l (fw_l (fw_r (fw_r (fw_r fw_h))))))))) (fw_c (fw_t (fw_l (fw_l (fw_l (fw_l (fw_l (fw_r (fw_r (fw_r (fw_t fw_h)))))))))) (fw_c (fw_t (fw_l (fw_l (fw_l (fw_l (fw_l (fw_r (fw_r (fw_r (fw_t (fw_t fw_h))))))))))) (fw_c (fw_t (fw_l (fw_l (fw_l (fw_l (fw_l (fw_r (fw_r (fw_r (fw_t (fw_t (fw_t fw_h)))))))))))) (fw_c (fw_t (fw_l (fw_l (fw_l (fw_l (fw_l (fw_r (fw_r (fw_r (fw_t (fw_t (fw_t (fw_t fw_h))))))))))))) fw_n)))))))))))))))))))))))) (fw_c (fw_t (fw_l (fw_l (fw_l (fw_l (fw_l (fw_r (fw_r (fw_r (fw_t (fw_t (fw_t (fw_t (fw_t fw_h)))))))))))))) (fw_c (fw_t (fw_l (fw_l (fw_l (fw_l (fw_l (fw_r (fw_l (fw_t (fw_t (fw_t (fw_t (fw_t (fw_t (fw_t (fw_t (fw_t (fw_t (fw_t (fw_t (fw_t (fw_t fw_h)))))))))))))))))))))) (fw_c (fw_t (fw_l (fw_l (fw_l (fw_l (fw_l (fw_r (fw_r (fw_r (fw_t (fw_t (fw_t (fw_t (fw_t (fw_t fw_h))))))))))))))) (fw_c (fw_t (fw_l (fw_l (fw_l (fw_l (fw_l (fw_r (fw_r (fw_r (fw_t (fw_t (fw_t (fw_t (fw_t (fw_t (fw_t fw_h)))))))))))))))) (fw_c (fw_t (fw_l (fw_l (fw_l (fw_l (fw_l (fw_r (fw_r (fw_r (fw_t (fw_t (fw_t (fw_t (fw_t (fw_t (fw_t (fw_t fw_h))))))))))))))))) (fw_c (fw_t (fw_l (fw_l (fw_l (fw_l (fw_l (fw_r (fw_r (fw_r (fw_t (fw_t (fw_t (fw_t (fw_t (fw_t (fw_t (fw_t (fw_t fw_h)))))))))))))))))) (fw_c (fw_t (fw_l (fw_l (fw_l (fw_l (fw_l (fw_r (fw_r (fw_r (fw_t (fw_t (fw_t (fw_t (fw_t (fw_t (fw_t (fw_t (fw_t (fw_t fw_h))))))))))))))))))) (fw_c (fw_t (fw_l (fw_l (fw_l (fw_l (fw_l (fw_r (fw_r (fw_r (fw_t (fw_t (fw_t (fw_t (fw_t (fw_t (fw_t (fw_t (fw_t (fw_t (fw_t fw_h)))))))))))))))))))) (fw_c (fw_t (fw_l (fw_l (fw_l (fw_l (fw_l (fw_r (fw_r (fw_r (fw_t (fw_t (fw_t (fw_t (fw_t (fw_t (fw_t (fw_t (fw_t (fw_t (fw_t (fw_t fw_h))))))))))))))))))))) (fw_c (fw_t (fw_l (fw_l (fw_l (fw_l (fw_l (fw_r (fw_r (fw_r (fw_t (fw_t (fw_t (fw_t (fw_t (fw_t (fw_t (fw_t (fw_t (fw_t (fw_t (fw_t (fw_t fw_h)))))))))))))))))))))) fw_n))))))))))) (fun _ h => fw_t (fw_l (fw_l (fw_l (fw_r h)))))) (fun _ h => fw_t (fw_l (fw_l (fw_r h)))))) (by decide +kernel)
set_option maxRecDepth 20000 in
theorem gX11_unplace_X7_dropPlace : GoodIn wsX11_unplace (wsV RX11 110 RX7 yX7_dropPlace wsX7_dropPlace) := goodIn_app (goodIn_sub (fw_c (fw_t (fw_l (fw_l (fw_l (fw_l (fw_l (fw_r (fw_r (fw_l (fw_t (fw_t (fw_t (fw_t (fw_t (fw_t (fw_t fw_h)))))))))))))))) (fw_c (fw_t (fw_l (fw_l (fw_l (fw_l (fw_l (fw_r (fw_r (fw_l (fw_t (fw_t (fw_t (fw_t (fw_t (fw_t (fw_t (fw_t fw_h))))))))))))))))) (fw_c (fw_t (fw_l (fw_l (fw_l (fw_l (fw_l (fw_r (fw_r (fw_l (fw_t (fw_t (fw_t (fw_t (fw_t (fw_t (fw_t (fw_t (fw_t fw_h)))))))))))))))))) (fw_c (fw_t (fw_l (fw_l (fw_l (fw_l (fw_l (fw_l (fw_t (fw_t (fw_t (fw_t (fw_t (fw_t (fw_t (fw_t (fw_t (fw_t (fw_t (fw_t (fw_t (fw_t (fw_t (fw_t (fw_t (fw_t (fw_t fw_h)))))))))))))))))))))))))) fw_n)))) (by decide +kernel)) ggX11_unplace_X7_dropPlace
theorem dX11_unplace_0 : decode cX11_unplace 0 = .ok (.aload_n 0, 1) := by decide +kernel
theorem dX11_unplace_1 : decode cX11_unplace 1 = .ok (.iload_n 1, 1) := by decide +kernel
theorem dX11_unplace_2 : decode cX11_unplace 2 = .ok (.invokevirtual 86, 3) := by decide +kernel
theorem dX11_unplace_5 : decode cX11_unplace 5 = .ok (.astore_n 2, 1) := by decide +kernel
theorem dX11_unplace_6 : decode cX11_unplace 6 = .ok (.aload_n 2, 1) := by decide +kernel
theorem dX11_unplace_7 : decode cX11_unplace 7 = .ok (.ifnonnull 11, 3) := by decide +kernel
theorem dX11_unplace_10 : decode cX11_unplace 10 = .ok (.aload_n 0, 1) := by decide +kernel
theorem dX11_unplace_11 : decode cX11_unplace 11 = .ok (.ldc2_w 94, 3) := by decide +kernel
theorem dX11_unplace_14 : decode cX11_unplace 14 = .ok (.invokevirtual 75, 3) := by decide +kernel
theorem dX11_unplace_17 : decode cX11_unplace 17 = .ok (.lreturn, 1) := by decide +kernel
theorem dX11_unplace_18 : decode cX11_unplace 18 = .ok (.aload_n 2, 1) := by decide +kernel
