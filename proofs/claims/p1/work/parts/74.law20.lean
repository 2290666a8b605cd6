set_option maxHeartbeats 4000000 in
set_option maxRecDepth 100000 in
theorem law_20 (l : Launch) {p : Program} {e : Env} {s : State} {m : MethodId} {below : List Frame} {meth : Method} {c : Code} {b L : Nat} {xs : Nat → Int32} (C0 : lw_At p s m meth c b L xs) {D : va_G} {cy : Nat → ClassId} (hK : va_K D vwCl (cT cy) s) (hN : nst s) {i : Nat} (hi : i + 7 ≤ L) (hL : L ≤ 3584) {d0 pA mA go0 ga0 gb0 gc0 m0 sA rA fQ t0 up lo g0 ga ho shA pq sA0 s0 z0 s1 z1 s2 z2 s3 z3 : Nat} {sa ra ad : Nat → Nat} {H : Heap} {locs : List Loc} {ls : Array Slot} (hP : va_P D vwCl (fC cy d0 pA mA go0 ga0 gb0 gc0 m0 sA rA fQ t0 up lo g0 ga ho shA pq sA0 s0 z0 s1 z1 s2 z2 s3 z3 sa ra ++ fM cy ad) H) (hD : va_D (fun q : Nat => s.heap.size ≤ q) (fC cy d0 pA mA go0 ga0 gb0 gc0 m0 sA rA fQ t0 up lo g0 ga ho shA pq sA0 s0 z0 s1 z1 s2 z2 s3 z3 sa ra ++ fM cy ad)) (hS : va_S (fun q : Nat => s.heap.size ≤ q) s.heap H locs) (hl : lv_has ls 4 [(3, .int (nI i)), (2, .ref (ad 0)), (1, .ref d0), (0, .ref b)]) (hend : ∀ (H : Heap) (locs : List Loc) (cs sl : Nat), cs ≤ 1000 → sl ≤ 20000 → va_S (fun q : Nat => s.heap.size ≤ q) s.heap H locs → W p l e room_1 s m #[Value.ref b] below meth c H locs cs sl (lw_Z below #[Value.ref b] s) (F0 m 1374 ls [])) : W p l e room_1 s m #[Value.ref b] below meth c H locs 100 15000 (lw_Z below #[Value.ref b] s) (F0 m 952 ls []) := by
  obtain ⟨hx, hb, hr, hml, hown, hts, hX, hbl, hlocks, hgv⟩ := C0
  have htsL : ∀ w ∈ wsL_law, w.before #[Value.ref b] s = true := fun w h => hts w (wsL_law_in w h)
  have hown : s.vm.findClass RL = some m.cls := hown
  have hA : ∀ q : Nat, s.heap.size ≤ q → (fun q : Nat => s.heap.size ≤ q) q := fun _ h => h
  have hbA : ¬ (fun q : Nat => s.heap.size ≤ q) b := Nat.not_le.mpr hbl
  have hKm : va_K D vwCl (mT (cy 0) (cy 1)) s := hK.sub [0, 1] rfl
  refine lv_aload_n hx hb dL_law_952 rfl (lv_at hl 2 rfl) ?_
  refine lv_aload_n hx hb dL_law_953 rfl (lv_at hl 3 rfl) ?_
  refine lv_iload_n hx hb dL_law_954 rfl (lv_at hl 0 rfl) ?_
  refine lv_iconst (v := (nI (1))) hx hb dL_law_955 (by decide) ?_
  refine ln_iadd hx hb dL_law_956 ?_
  refine va_sld hx hb hX hbl hbA hS (vp_in_nI (show i + 1 < L by omega) (by omega)) dL_law_957 ?_
  refine ln_eqi (y := xs (i + 1)) (by rw [nI_clamp (by omega)]) ?_
  refine lv_aload_n hx hb dL_law_958 rfl (lv_at hl 3 rfl) ?_
  refine lv_iload_n hx hb dL_law_959 rfl (lv_at hl 0 rfl) ?_
  refine lv_iconst (v := (nI (2))) hx hb dL_law_960 (by decide) ?_
  refine ln_iadd hx hb dL_law_961 ?_
  refine va_sld hx hb hX hbl hbA hS (vp_in_nI (show i + 2 < L by omega) (by omega)) dL_law_962 ?_
  refine ln_eqi (y := xs (i + 2)) (by rw [nI_clamp (by omega)]) ?_
  refine lv_aload_n hx hb dL_law_963 rfl (lv_at hl 3 rfl) ?_
  refine lv_iload_n hx hb dL_law_964 rfl (lv_at hl 0 rfl) ?_
  refine lv_iconst (v := (nI (3))) hx hb dL_law_965 (by decide) ?_
  refine ln_iadd hx hb dL_law_966 ?_
  refine va_sld hx hb hX hbl hbA hS (vp_in_nI (show i + 3 < L by omega) (by omega)) dL_law_967 ?_
  refine ln_eqi (y := xs (i + 3)) (by rw [nI_clamp (by omega)]) ?_
  refine lv_aload_n hx hb dL_law_968 rfl (lv_at hl 3 rfl) ?_
  refine lv_iload_n hx hb dL_law_969 rfl (lv_at hl 0 rfl) ?_
  refine lv_iconst (v := (nI (4))) hx hb dL_law_970 (by decide) ?_
  refine ln_iadd hx hb dL_law_971 ?_
  refine va_sld hx hb hX hbl hbA hS (vp_in_nI (show i + 4 < L by omega) (by omega)) dL_law_972 ?_
  refine ln_eqi (y := xs (i + 4)) (by rw [nI_clamp (by omega)]) ?_
  refine lz_dia hx hb dL_law_973 dL_law_976 dL_law_977 dL_law_980 ?_
  have hP := hP.subT (w' := [(d0, .inr (11, [.ref (pA), .int (nI (0)), .ref (mA), .int (nI (0)), .ref (go0), .ref (m0), .ref (fQ), .int (nI (0)), .ref (t0), .ref (g0), .ref (shA), .ref (pq), .long (0)])), (t0, .inr (10, [.ref (up), .ref (lo)])), (up, .inl (cy 0, 64, .inl (nA (tbF 1)))), (lo, .inl (cy 0, 64, .inl (nA (tbF 2))))]) [0, 11, 12, 13] rfl
  have hD := hD.subT (w' := [(d0, .inr (11, [.ref (pA), .int (nI (0)), .ref (mA), .int (nI (0)), .ref (go0), .ref (m0), .ref (fQ), .int (nI (0)), .ref (t0), .ref (g0), .ref (shA), .ref (pq), .long (0)])), (t0, .inr (10, [.ref (up), .ref (lo)])), (up, .inl (cy 0, 64, .inl (nA (tbF 1)))), (lo, .inl (cy 0, 64, .inl (nA (tbF 2))))]) [0, 11, 12, 13] (by decide) rfl
  refine nq_Vl (As := [.int (xs (i + 1)), .int (xs (i + 2)), .int (xs (i + 3)), .int (zI (xs (i + 4)))]) (rest := []) (w := [(d0, .inr (11, [.ref (pA), .int (nI (0)), .ref (mA), .int (nI (0)), .ref (go0), .ref (m0), .ref (fQ), .int (nI (0)), .ref (t0), .ref (g0), .ref (shA), .ref (pq), .long (0)])), (t0, .inr (10, [.ref (up), .ref (lo)])), (up, .inl (cy 0, 64, .inl (nA (tbF 1)))), (lo, .inl (cy 0, 64, .inl (nA (tbF 2))))]) (wr := fM cy ad) (ci := 11) (k0 := 0) ⟨hx, hb, hml, hown, htsL⟩ (qX11_showing l D cy d0 pA 0 mA 0 go0 m0 fQ 0 t0 g0 shA pq 0 up lo (tbF 1) (tbF 2) (xs (i + 1)) (xs (i + 2)) (xs (i + 3)) (zI (xs (i + 4))) ) (cwV 4 htsL gL_law_X11_showing rfl rfl rfl (by decide +kernel) ⟨Nat.le_of_ble_eq_true rfl, Nat.le_of_ble_eq_true rfl⟩) rfl rfl hP hK hD hN hS hA rfl hl.1 rfl (Nat.le_of_ble_eq_true rfl) dL_law_981 ⟨Nat.le_of_ble_eq_true rfl, Nat.le_of_ble_eq_true rfl⟩ (fun r1 w1 H locs hq1 hP hD hS => ?_)
  have hP := hP.right
  have hD := hD.right
  refine lv_aload_n hx hb dL_law_984 rfl (lv_at hl 1 rfl) ?_
  refine lv_aload_n hx hb dL_law_985 rfl (lv_at hl 3 rfl) ?_
  refine lv_iload_n hx hb dL_law_986 rfl (lv_at hl 0 rfl) ?_
  refine lv_iconst (v := (nI (1))) hx hb dL_law_987 (by decide) ?_
  refine ln_iadd hx hb dL_law_988 ?_
  refine va_sld hx hb hX hbl hbA hS (vp_in_nI (show i + 1 < L by omega) (by omega)) dL_law_989 ?_
  refine ln_eqi (y := xs (i + 1)) (by rw [nI_clamp (by omega)]) ?_
  refine lv_aload_n hx hb dL_law_990 rfl (lv_at hl 3 rfl) ?_
  refine lv_iload_n hx hb dL_law_991 rfl (lv_at hl 0 rfl) ?_
  refine lv_iconst (v := (nI (2))) hx hb dL_law_992 (by decide) ?_
  refine ln_iadd hx hb dL_law_993 ?_
  refine va_sld hx hb hX hbl hbA hS (vp_in_nI (show i + 2 < L by omega) (by omega)) dL_law_994 ?_
  refine ln_eqi (y := xs (i + 2)) (by rw [nI_clamp (by omega)]) ?_
  refine lv_aload_n hx hb dL_law_995 rfl (lv_at hl 3 rfl) ?_
  refine lv_iload_n hx hb dL_law_996 rfl (lv_at hl 0 rfl) ?_
  refine lv_iconst (v := (nI (3))) hx hb dL_law_997 (by decide) ?_
  refine ln_iadd hx hb dL_law_998 ?_
  refine va_sld hx hb hX hbl hbA hS (vp_in_nI (show i + 3 < L by omega) (by omega)) dL_law_999 ?_
  refine ln_eqi (y := xs (i + 3)) (by rw [nI_clamp (by omega)]) ?_
  refine lv_aload_n hx hb dL_law_1000 rfl (lv_at hl 3 rfl) ?_
  refine lv_iload_n hx hb dL_law_1001 rfl (lv_at hl 0 rfl) ?_
  refine lv_iconst (v := (nI (4))) hx hb dL_law_1002 (by decide) ?_
  refine ln_iadd hx hb dL_law_1003 ?_
  refine va_sld hx hb hX hbl hbA hS (vp_in_nI (show i + 4 < L by omega) (by omega)) dL_law_1004 ?_
  refine ln_eqi (y := xs (i + 4)) (by rw [nI_clamp (by omega)]) ?_
  refine lz_dia hx hb dL_law_1005 dL_law_1008 dL_law_1009 dL_law_1012 ?_
  refine mq_Vl (As := [.int (xs (i + 1)), .int (xs (i + 2)), .int (xs (i + 3)), .int (zI (xs (i + 4)))]) (rest := [.long r1]) (ci := 12) (k0 := 0) ⟨hx, hb, hml, hown, htsL⟩ (cM_showing l D ad (cy 0) (cy 1) (iniA 64) (fun _ => 0) (fun _ => 0) (fun _ => 0) (fun _ => 0) (fun _ => 1) (fun _ => 0) (fun _ => 0) 0 0 0 0 0 0 0 0 0 0 0 0 0 (fun _ => 0) (fun _ => 0) (fun _ => 0) (xs (i + 1)) (xs (i + 2)) (xs (i + 3)) (zI (xs (i + 4))) ) (cwV 4 htsL gL_law_X12_showing rfl rfl rfl (by decide +kernel) ⟨Nat.le_of_ble_eq_true rfl, Nat.le_of_ble_eq_true rfl⟩) rfl rfl hP hKm hD hS hA rfl hl.1 rfl (Nat.le_of_ble_eq_true rfl) dL_law_1013 ⟨Nat.le_of_ble_eq_true rfl, Nat.le_of_ble_eq_true rfl⟩ (fun r2 w2 H locs hq2 hP hD hS => ?_)
  have heq : r1 = r2 := by
    rcases hq1 with ⟨h, h1, -⟩ | ⟨so, cr, dr, ⟨e1, e2, e3, b1, b2, b3⟩, h1, -⟩
    · rcases hq2 with ⟨-, h2, -⟩ | ⟨so, cr, dr, ⟨e1, e2, e3, b1, b2, b3⟩, -⟩
      · rw [h1, h2]
      · exact absurd (by rw [e1, e2, e3]; exact ⟨rg_nI (Nat.zero_le _) b1 (by decide), rg_nI (Nat.zero_le _) b2 (by decide), rg_nI (Nat.zero_le _) b3 (by decide)⟩) h
    · rcases hq2 with ⟨h, -⟩ | ⟨so2, cr2, dr2, ⟨f1, f2, f3, g1, g2, g3⟩, h2, -⟩
      · exact absurd (by rw [e1, e2, e3]; exact ⟨rg_nI (Nat.zero_le _) b1 (by decide), rg_nI (Nat.zero_le _) b2 (by decide), rg_nI (Nat.zero_le _) b3 (by decide)⟩) h
      · obtain ⟨u1, u2⟩ := ini_up 64 (16 * so2 + 4 * cr2 + dr2) (by omega)
        rw [h1, h2]
        by_cases hz : zI (xs (i + 4)) = 0
        · rw [zN_0 hz, if_pos hz, Nat.add_zero, u1, show tbF 1 ((so * 4 + cr) * 4 + dr) = 1 from if_pos (by omega)]
        · rw [zN_1 hz, if_neg hz, u2, show tbF 2 ((so * 4 + cr) * 4 + dr) = 2 from if_pos (by omega)]
  refine W.lcmp hx hb dL_law_1016 ?_
  refine lv_if_eq (tgt := 1374) hx hb dL_law_1017 (by decide) (fun c9 => ?_) (fun c9 => ?_)
  · exact hend _ _ _ _ (by decide) (by decide) hS
  · exact absurd ((lg_cmp_eq _ _).mpr heq) c9
set_option maxHeartbeats 4000000 in
set_option maxRecDepth 100000 in
theorem law_21 (l : Launch) {p : Program} {e : Env} {s : State} {m : MethodId} {below : List Frame} {meth : Method} {c : Code} {b L : Nat} {xs : Nat → Int32} (C0 : lw_At p s m meth c b L xs) {D : va_G} {cy : Nat → ClassId} (hK : va_K D vwCl (cT cy) s) (hN : nst s) {i : Nat} (hi : i + 7 ≤ L) (hL : L ≤ 3584) {d0 pA mA go0 ga0 gb0 gc0 m0 sA rA fQ t0 up lo g0 ga ho shA pq sA0 s0 z0 s1 z1 s2 z2 s3 z3 : Nat} {sa ra ad : Nat → Nat} {H : Heap} {locs : List Loc} {ls : Array Slot} (hP : va_P D vwCl (fC cy d0 pA mA go0 ga0 gb0 gc0 m0 sA rA fQ t0 up lo g0 ga ho shA pq sA0 s0 z0 s1 z1 s2 z2 s3 z3 sa ra ++ fM cy ad) H) (hD : va_D (fun q : Nat => s.heap.size ≤ q) (fC cy d0 pA mA go0 ga0 gb0 gc0 m0 sA rA fQ t0 up lo g0 ga ho shA pq sA0 s0 z0 s1 z1 s2 z2 s3 z3 sa ra ++ fM cy ad)) (hS : va_S (fun q : Nat => s.heap.size ≤ q) s.heap H locs) (hl : lv_has ls 4 [(3, .int (nI i)), (2, .ref (ad 0)), (1, .ref d0), (0, .ref b)]) (hend : ∀ (H : Heap) (locs : List Loc) (cs sl : Nat), cs ≤ 1000 → sl ≤ 20000 → va_S (fun q : Nat => s.heap.size ≤ q) s.heap H locs → W p l e room_1 s m #[Value.ref b] below meth c H locs cs sl (lw_Z below #[Value.ref b] s) (F0 m 1374 ls [])) : W p l e room_1 s m #[Value.ref b] below meth c H locs 100 15000 (lw_Z below #[Value.ref b] s) (F0 m 1022 ls []) := by
  obtain ⟨hx, hb, hr, hml, hown, hts, hX, hbl, hlocks, hgv⟩ := C0
  have htsL : ∀ w ∈ wsL_law, w.before #[Value.ref b] s = true := fun w h => hts w (wsL_law_in w h)
  have hown : s.vm.findClass RL = some m.cls := hown
  have hA : ∀ q : Nat, s.heap.size ≤ q → (fun q : Nat => s.heap.size ≤ q) q := fun _ h => h
  have hbA : ¬ (fun q : Nat => s.heap.size ≤ q) b := Nat.not_le.mpr hbl
  have hKm : va_K D vwCl (mT (cy 0) (cy 1)) s := hK.sub [0, 1] rfl
  refine lv_aload_n hx hb dL_law_1022 rfl (lv_at hl 2 rfl) ?_
  refine lv_aload_n hx hb dL_law_1023 rfl (lv_at hl 3 rfl) ?_
  refine lv_iload_n hx hb dL_law_1024 rfl (lv_at hl 0 rfl) ?_
  refine lv_iconst (v := (nI (1))) hx hb dL_law_1025 (by decide) ?_
  refine ln_iadd hx hb dL_law_1026 ?_
  refine va_sld hx hb hX hbl hbA hS (vp_in_nI (show i + 1 < L by omega) (by omega)) dL_law_1027 ?_
  refine ln_eqi (y := xs (i + 1)) (by rw [nI_clamp (by omega)]) ?_
  refine lv_aload_n hx hb dL_law_1028 rfl (lv_at hl 3 rfl) ?_
  refine lv_iload_n hx hb dL_law_1029 rfl (lv_at hl 0 rfl) ?_
  refine lv_iconst (v := (nI (2))) hx hb dL_law_1030 (by decide) ?_
  refine ln_iadd hx hb dL_law_1031 ?_
  refine va_sld hx hb hX hbl hbA hS (vp_in_nI (show i + 2 < L by omega) (by omega)) dL_law_1032 ?_
  refine ln_eqi (y := xs (i + 2)) (by rw [nI_clamp (by omega)]) ?_
  refine lz_dia hx hb dL_law_1033 dL_law_1036 dL_law_1037 dL_law_1040 ?_
  have hP := hP.subT (w' := [(d0, .inr (11, [.ref (pA), .int (nI (0)), .ref (mA), .int (nI (0)), .ref (go0), .ref (m0), .ref (fQ), .int (nI (0)), .ref (t0), .ref (g0), .ref (shA), .ref (pq), .long (0)])), (fQ, .inl (cy 5, 8, .inr (.inr (.inr (.inr (fun _ => none))))))]) [0, 10] rfl
  have hD := hD.subT (w' := [(d0, .inr (11, [.ref (pA), .int (nI (0)), .ref (mA), .int (nI (0)), .ref (go0), .ref (m0), .ref (fQ), .int (nI (0)), .ref (t0), .ref (g0), .ref (shA), .ref (pq), .long (0)])), (fQ, .inl (cy 5, 8, .inr (.inr (.inr (.inr (fun _ => none))))))]) [0, 10] (by decide) rfl
  refine nq_Vl (As := [.int (xs (i + 1)), .int (zI (xs (i + 2)))]) (rest := []) (w := [(d0, .inr (11, [.ref (pA), .int (nI (0)), .ref (mA), .int (nI (0)), .ref (go0), .ref (m0), .ref (fQ), .int (nI (0)), .ref (t0), .ref (g0), .ref (shA), .ref (pq), .long (0)])), (fQ, .inl (cy 5, 8, .inr (.inr (.inr (.inr (fun _ => none))))))]) (wr := fM cy ad) (ci := 11) (k0 := 0) ⟨hx, hb, hml, hown, htsL⟩ (qX11_dig_n l D cy d0 pA 0 mA 0 go0 m0 fQ 0 t0 g0 shA pq 0 (fun _ => none) (xs (i + 1)) (zI (xs (i + 2))) ix0) (cwV 2 htsL gL_law_X11_dig rfl rfl rfl (by decide +kernel) ⟨Nat.le_of_ble_eq_true rfl, Nat.le_of_ble_eq_true rfl⟩) rfl rfl hP hK hD hN hS hA rfl hl.1 rfl (Nat.le_of_ble_eq_true rfl) dL_law_1041 ⟨Nat.le_of_ble_eq_true rfl, Nat.le_of_ble_eq_true rfl⟩ (fun r1 w1 H locs hq1 hP hD hS => ?_)
  have hP := hP.right
  have hD := hD.right
  refine lv_aload_n hx hb dL_law_1044 rfl (lv_at hl 1 rfl) ?_
  refine lv_aload_n hx hb dL_law_1045 rfl (lv_at hl 3 rfl) ?_
  refine lv_iload_n hx hb dL_law_1046 rfl (lv_at hl 0 rfl) ?_
  refine lv_iconst (v := (nI (1))) hx hb dL_law_1047 (by decide) ?_
  refine ln_iadd hx hb dL_law_1048 ?_
  refine va_sld hx hb hX hbl hbA hS (vp_in_nI (show i + 1 < L by omega) (by omega)) dL_law_1049 ?_
  refine ln_eqi (y := xs (i + 1)) (by rw [nI_clamp (by omega)]) ?_
  refine lv_aload_n hx hb dL_law_1050 rfl (lv_at hl 3 rfl) ?_
  refine lv_iload_n hx hb dL_law_1051 rfl (lv_at hl 0 rfl) ?_
  refine lv_iconst (v := (nI (2))) hx hb dL_law_1052 (by decide) ?_
  refine ln_iadd hx hb dL_law_1053 ?_
  refine va_sld hx hb hX hbl hbA hS (vp_in_nI (show i + 2 < L by omega) (by omega)) dL_law_1054 ?_
  refine ln_eqi (y := xs (i + 2)) (by rw [nI_clamp (by omega)]) ?_
  refine lz_dia hx hb dL_law_1055 dL_law_1058 dL_law_1059 dL_law_1062 ?_
  refine mq_Vl (As := [.int (xs (i + 1)), .int (zI (xs (i + 2)))]) (rest := [.long r1]) (ci := 12) (k0 := 0) ⟨hx, hb, hml, hown, htsL⟩ (cM_dig l D ad (cy 0) (cy 1) (iniA 64) (fun _ => 0) (fun _ => 0) (fun _ => 0) (fun _ => 0) (fun _ => 1) (fun _ => 0) (fun _ => 0) 0 0 0 0 0 0 0 0 0 0 0 0 0 (fun _ => 0) (fun _ => 0) (fun _ => 0) (xs (i + 1)) (zI (xs (i + 2))) (by rw [ini_3]; decide) (fun i h => absurd h (by rw [ini_3]; exact Nat.not_lt_zero i)) ini_sh (by decide) (by decide)) (cwV 2 htsL gL_law_X12_dig rfl rfl rfl (by decide +kernel) ⟨Nat.le_of_ble_eq_true rfl, Nat.le_of_ble_eq_true rfl⟩) rfl rfl hP hKm hD hS hA rfl hl.1 rfl (Nat.le_of_ble_eq_true rfl) dL_law_1063 ⟨Nat.le_of_ble_eq_true rfl, Nat.le_of_ble_eq_true rfl⟩ (fun r2 w2 H locs hq2 hP hD hS => ?_)
  have heq : r1 = r2 := by
    rcases hq2 with ⟨-, h2, -⟩ | h2
    · rw [hq1.1, h2]
    · obtain ⟨_, ⟨_, h9⟩, _⟩ := h2
      rw [ini_3] at h9
      exact absurd h9 (Nat.not_lt_zero _)
  refine W.lcmp hx hb dL_law_1066 ?_
  refine lv_if_eq (tgt := 1374) hx hb dL_law_1067 (by decide) (fun c9 => ?_) (fun c9 => ?_)
  · exact hend _ _ _ _ (by decide) (by decide) hS
  · exact absurd ((lg_cmp_eq _ _).mpr heq) c9
set_option maxHeartbeats 4000000 in
set_option maxRecDepth 100000 in
theorem law_22 (l : Launch) {p : Program} {e : Env} {s : State} {m : MethodId} {below : List Frame} {meth : Method} {c : Code} {b L : Nat} {xs : Nat → Int32} (C0 : lw_At p s m meth c b L xs) {D : va_G} {cy : Nat → ClassId} (hK : va_K D vwCl (cT cy) s) (hN : nst s) {i : Nat} (hi : i + 7 ≤ L) (hL : L ≤ 3584) {d0 pA mA go0 ga0 gb0 gc0 m0 sA rA fQ t0 up lo g0 ga ho shA pq sA0 s0 z0 s1 z1 s2 z2 s3 z3 : Nat} {sa ra ad : Nat → Nat} {H : Heap} {locs : List Loc} {ls : Array Slot} (hP : va_P D vwCl (fC cy d0 pA mA go0 ga0 gb0 gc0 m0 sA rA fQ t0 up lo g0 ga ho shA pq sA0 s0 z0 s1 z1 s2 z2 s3 z3 sa ra ++ fM cy ad) H) (hD : va_D (fun q : Nat => s.heap.size ≤ q) (fC cy d0 pA mA go0 ga0 gb0 gc0 m0 sA rA fQ t0 up lo g0 ga ho shA pq sA0 s0 z0 s1 z1 s2 z2 s3 z3 sa ra ++ fM cy ad)) (hS : va_S (fun q : Nat => s.heap.size ≤ q) s.heap H locs) (hl : lv_has ls 4 [(3, .int (nI i)), (2, .ref (ad 0)), (1, .ref d0), (0, .ref b)]) (hend : ∀ (H : Heap) (locs : List Loc) (cs sl : Nat), cs ≤ 1000 → sl ≤ 20000 → va_S (fun q : Nat => s.heap.size ≤ q) s.heap H locs → W p l e room_1 s m #[Value.ref b] below meth c H locs cs sl (lw_Z below #[Value.ref b] s) (F0 m 1374 ls [])) : W p l e room_1 s m #[Value.ref b] below meth c H locs 100 15000 (lw_Z below #[Value.ref b] s) (F0 m 1072 ls []) := by
  obtain ⟨hx, hb, hr, hml, hown, hts, hX, hbl, hlocks, hgv⟩ := C0
  have htsL : ∀ w ∈ wsL_law, w.before #[Value.ref b] s = true := fun w h => hts w (wsL_law_in w h)
  have hown : s.vm.findClass RL = some m.cls := hown
  have hA : ∀ q : Nat, s.heap.size ≤ q → (fun q : Nat => s.heap.size ≤ q) q := fun _ h => h
  have hbA : ¬ (fun q : Nat => s.heap.size ≤ q) b := Nat.not_le.mpr hbl
  have hKm : va_K D vwCl (mT (cy 0) (cy 1)) s := hK.sub [0, 1] rfl
  refine lv_aload_n hx hb dL_law_1072 rfl (lv_at hl 2 rfl) ?_
  refine lv_aload_n hx hb dL_law_1073 rfl (lv_at hl 3 rfl) ?_
  refine lv_iload_n hx hb dL_law_1074 rfl (lv_at hl 0 rfl) ?_
  refine lv_iconst (v := (nI (1))) hx hb dL_law_1075 (by decide) ?_
  refine ln_iadd hx hb dL_law_1076 ?_
  refine va_sld hx hb hX hbl hbA hS (vp_in_nI (show i + 1 < L by omega) (by omega)) dL_law_1077 ?_
  refine ln_eqi (y := xs (i + 1)) (by rw [nI_clamp (by omega)]) ?_
  refine lv_aload_n hx hb dL_law_1078 rfl (lv_at hl 3 rfl) ?_
  refine lv_iload_n hx hb dL_law_1079 rfl (lv_at hl 0 rfl) ?_
  refine lv_iconst (v := (nI (2))) hx hb dL_law_1080 (by decide) ?_
  refine ln_iadd hx hb dL_law_1081 ?_
  refine va_sld hx hb hX hbl hbA hS (vp_in_nI (show i + 2 < L by omega) (by omega)) dL_law_1082 ?_
  refine ln_eqi (y := xs (i + 2)) (by rw [nI_clamp (by omega)]) ?_
  refine lv_aload_n hx hb dL_law_1083 rfl (lv_at hl 3 rfl) ?_
  refine lv_iload_n hx hb dL_law_1084 rfl (lv_at hl 0 rfl) ?_
  refine lv_iconst (v := (nI (3))) hx hb dL_law_1085 (by decide) ?_
  refine ln_iadd hx hb dL_law_1086 ?_
  refine va_sld hx hb hX hbl hbA hS (vp_in_nI (show i + 3 < L by omega) (by omega)) dL_law_1087 ?_
  refine ln_eqi (y := xs (i + 3)) (by rw [nI_clamp (by omega)]) ?_
  have hP := hP.subT (w' := [(d0, .inr (11, [.ref (pA), .int (nI (0)), .ref (mA), .int (nI (0)), .ref (go0), .ref (m0), .ref (fQ), .int (nI (0)), .ref (t0), .ref (g0), .ref (shA), .ref (pq), .long (0)])), (g0, .inr (1, [.ref (ga), .ref (ho), .int (nI (0)), .long (0), .int (nI (0))])), (ga, .inl (cy 1, 8, .inr (.inl (fun _ => 0)))), (ho, .inl (cy 0, 8, .inl (nA (fun _ => 0))))]) [0, 14, 15, 16] rfl
  have hD := hD.subT (w' := [(d0, .inr (11, [.ref (pA), .int (nI (0)), .ref (mA), .int (nI (0)), .ref (go0), .ref (m0), .ref (fQ), .int (nI (0)), .ref (t0), .ref (g0), .ref (shA), .ref (pq), .long (0)])), (g0, .inr (1, [.ref (ga), .ref (ho), .int (nI (0)), .long (0), .int (nI (0))])), (ga, .inl (cy 1, 8, .inr (.inl (fun _ => 0)))), (ho, .inl (cy 0, 8, .inl (nA (fun _ => 0))))]) [0, 14, 15, 16] (by decide) rfl
  refine nq_Vl (As := [.int (xs (i + 1)), .int (xs (i + 2)), .int (xs (i + 3))]) (rest := []) (w := [(d0, .inr (11, [.ref (pA), .int (nI (0)), .ref (mA), .int (nI (0)), .ref (go0), .ref (m0), .ref (fQ), .int (nI (0)), .ref (t0), .ref (g0), .ref (shA), .ref (pq), .long (0)])), (g0, .inr (1, [.ref (ga), .ref (ho), .int (nI (0)), .long (0), .int (nI (0))])), (ga, .inl (cy 1, 8, .inr (.inl (fun _ => 0)))), (ho, .inl (cy 0, 8, .inl (nA (fun _ => 0))))]) (wr := fM cy ad) (ci := 11) (k0 := 0) ⟨hx, hb, hml, hown, htsL⟩ (qX11_plan0 l D cy d0 pA 0 mA 0 go0 m0 fQ 0 t0 g0 shA pq 0 ga ho 0 0 0 (fun _ => 0) (fun _ => 0) (xs (i + 1)) (xs (i + 2)) (xs (i + 3)) (fun _ => 0) (fun _ _ => rfl) (fun _ _ => by decide) (fun _ _ => by decide) rfl) (cwV 3 htsL gL_law_X11_plan rfl rfl rfl (by decide +kernel) ⟨Nat.le_of_ble_eq_true rfl, Nat.le_of_ble_eq_true rfl⟩) rfl rfl hP hK hD hN hS hA rfl hl.1 rfl (Nat.le_of_ble_eq_true rfl) dL_law_1088 ⟨Nat.le_of_ble_eq_true rfl, Nat.le_of_ble_eq_true rfl⟩ (fun r1 w1 H locs hq1 hP hD hS => ?_)
  have hP := hP.right
  have hD := hD.right
  refine lv_aload_n hx hb dL_law_1091 rfl (lv_at hl 1 rfl) ?_
  refine lv_aload_n hx hb dL_law_1092 rfl (lv_at hl 3 rfl) ?_
  refine lv_iload_n hx hb dL_law_1093 rfl (lv_at hl 0 rfl) ?_
  refine lv_iconst (v := (nI (1))) hx hb dL_law_1094 (by decide) ?_
  refine ln_iadd hx hb dL_law_1095 ?_
  refine va_sld hx hb hX hbl hbA hS (vp_in_nI (show i + 1 < L by omega) (by omega)) dL_law_1096 ?_
  refine ln_eqi (y := xs (i + 1)) (by rw [nI_clamp (by omega)]) ?_
  refine lv_aload_n hx hb dL_law_1097 rfl (lv_at hl 3 rfl) ?_
  refine lv_iload_n hx hb dL_law_1098 rfl (lv_at hl 0 rfl) ?_
  refine lv_iconst (v := (nI (2))) hx hb dL_law_1099 (by decide) ?_
  refine ln_iadd hx hb dL_law_1100 ?_
  refine va_sld hx hb hX hbl hbA hS (vp_in_nI (show i + 2 < L by omega) (by omega)) dL_law_1101 ?_
  refine ln_eqi (y := xs (i + 2)) (by rw [nI_clamp (by omega)]) ?_
  refine lv_aload_n hx hb dL_law_1102 rfl (lv_at hl 3 rfl) ?_
  refine lv_iload_n hx hb dL_law_1103 rfl (lv_at hl 0 rfl) ?_
  refine lv_iconst (v := (nI (3))) hx hb dL_law_1104 (by decide) ?_
  refine ln_iadd hx hb dL_law_1105 ?_
  refine va_sld hx hb hX hbl hbA hS (vp_in_nI (show i + 3 < L by omega) (by omega)) dL_law_1106 ?_
  refine ln_eqi (y := xs (i + 3)) (by rw [nI_clamp (by omega)]) ?_
  refine mq_Vl (As := [.int (xs (i + 1)), .int (xs (i + 2)), .int (xs (i + 3))]) (rest := [.long r1]) (ci := 12) (k0 := 0) ⟨hx, hb, hml, hown, htsL⟩ (cM_plan l D ad (cy 0) (cy 1) (iniA 64) (fun _ => 0) (fun _ => 0) (fun _ => 0) (fun _ => 0) (fun _ => 1) (fun _ => 0) (fun _ => 0) 0 0 0 0 0 0 0 0 0 0 0 0 0 (fun _ => 0) (fun _ => 0) (fun _ => 0) (xs (i + 1)) (xs (i + 2)) (xs (i + 3)) (by rw [ini_3]; decide) (fun i h => absurd h (by rw [ini_3]; exact Nat.not_lt_zero i)) ini_sh) (cwV 3 htsL gL_law_X12_plan rfl rfl rfl (by decide +kernel) ⟨Nat.le_of_ble_eq_true rfl, Nat.le_of_ble_eq_true rfl⟩) rfl rfl hP hKm hD hS hA rfl hl.1 rfl (Nat.le_of_ble_eq_true rfl) dL_law_1107 ⟨Nat.le_of_ble_eq_true rfl, Nat.le_of_ble_eq_true rfl⟩ (fun r2 w2 H locs hq2 hP hD hS => ?_)
  have heq : r1 = r2 := by
    rcases hq1 with ⟨h, h1⟩ | ⟨hr', e1, b1, hxy, h1⟩
    · rcases hq2 with ⟨-, h2, -⟩ | ⟨hr2, cr, dr, ⟨e1, e2, e3, b1, b2, b3⟩, -⟩
      · rw [h1, h2]
      · exact absurd (by rw [e1, e2, e3]; exact ⟨rg_nI (Nat.zero_le _) b1 (by decide), rg_nI (Nat.zero_le _) b2 (by decide), rg_nI (Nat.zero_le _) b3 (by decide)⟩) h
    · rcases hq2 with ⟨h, -⟩ | ⟨hr2, cr, dr, -, h2, -⟩
      · exact absurd ⟨by rw [e1]; exact rg_nI (Nat.zero_le _) b1 (by decide), hxy⟩ h
      · rw [ini_3, show 2 ^ 0 = 1 from rfl, plB_10] at h2
        rw [show 2 ^ 0 = 1 from rfl, plB_1] at h1
        rw [h1, h2]
  refine W.lcmp hx hb dL_law_1110 ?_
  refine lv_if_eq (tgt := 1374) hx hb dL_law_1111 (by decide) (fun c9 => ?_) (fun c9 => ?_)
  · exact hend _ _ _ _ (by decide) (by decide) hS
  · exact absurd ((lg_cmp_eq _ _).mpr heq) c9
set_option maxHeartbeats 4000000 in
set_option maxRecDepth 100000 in
theorem law_23 (l : Launch) {p : Program} {e : Env} {s : State} {m : MethodId} {below : List Frame} {meth : Method} {c : Code} {b L : Nat} {xs : Nat → Int32} (C0 : lw_At p s m meth c b L xs) {D : va_G} {cy : Nat → ClassId} (hK : va_K D vwCl (cT cy) s) (hN : nst s) {i : Nat} (hi : i + 7 ≤ L) (hL : L ≤ 3584) {d0 pA mA go0 ga0 gb0 gc0 m0 sA rA fQ t0 up lo g0 ga ho shA pq sA0 s0 z0 s1 z1 s2 z2 s3 z3 : Nat} {sa ra ad : Nat → Nat} {H : Heap} {locs : List Loc} {ls : Array Slot} (hP : va_P D vwCl (fC cy d0 pA mA go0 ga0 gb0 gc0 m0 sA rA fQ t0 up lo g0 ga ho shA pq sA0 s0 z0 s1 z1 s2 z2 s3 z3 sa ra ++ fM cy ad) H) (hD : va_D (fun q : Nat => s.heap.size ≤ q) (fC cy d0 pA mA go0 ga0 gb0 gc0 m0 sA rA fQ t0 up lo g0 ga ho shA pq sA0 s0 z0 s1 z1 s2 z2 s3 z3 sa ra ++ fM cy ad)) (hS : va_S (fun q : Nat => s.heap.size ≤ q) s.heap H locs) (hl : lv_has ls 4 [(3, .int (nI i)), (2, .ref (ad 0)), (1, .ref d0), (0, .ref b)]) (hend : ∀ (H : Heap) (locs : List Loc) (cs sl : Nat), cs ≤ 1000 → sl ≤ 20000 → va_S (fun q : Nat => s.heap.size ≤ q) s.heap H locs → W p l e room_1 s m #[Value.ref b] below meth c H locs cs sl (lw_Z below #[Value.ref b] s) (F0 m 1374 ls [])) : W p l e room_1 s m #[Value.ref b] below meth c H locs 100 15000 (lw_Z below #[Value.ref b] s) (F0 m 1116 ls []) := by
  obtain ⟨hx, hb, hr, hml, hown, hts, hX, hbl, hlocks, hgv⟩ := C0
  have htsL : ∀ w ∈ wsL_law, w.before #[Value.ref b] s = true := fun w h => hts w (wsL_law_in w h)
  have hown : s.vm.findClass RL = some m.cls := hown
  have hA : ∀ q : Nat, s.heap.size ≤ q → (fun q : Nat => s.heap.size ≤ q) q := fun _ h => h
  have hbA : ¬ (fun q : Nat => s.heap.size ≤ q) b := Nat.not_le.mpr hbl
  have hKm : va_K D vwCl (mT (cy 0) (cy 1)) s := hK.sub [0, 1] rfl
  refine lv_aload_n hx hb dL_law_1116 rfl (lv_at hl 2 rfl) ?_
  refine lv_aload_n hx hb dL_law_1117 rfl (lv_at hl 3 rfl) ?_
  refine lv_iload_n hx hb dL_law_1118 rfl (lv_at hl 0 rfl) ?_
  refine lv_iconst (v := (nI (1))) hx hb dL_law_1119 (by decide) ?_
  refine ln_iadd hx hb dL_law_1120 ?_
  refine va_sld hx hb hX hbl hbA hS (vp_in_nI (show i + 1 < L by omega) (by omega)) dL_law_1121 ?_
  refine ln_eqi (y := xs (i + 1)) (by rw [nI_clamp (by omega)]) ?_
  refine lv_aload_n hx hb dL_law_1122 rfl (lv_at hl 3 rfl) ?_
  refine lv_iload_n hx hb dL_law_1123 rfl (lv_at hl 0 rfl) ?_
  refine lv_iconst (v := (nI (2))) hx hb dL_law_1124 (by decide) ?_
  refine ln_iadd hx hb dL_law_1125 ?_
  refine va_sld hx hb hX hbl hbA hS (vp_in_nI (show i + 2 < L by omega) (by omega)) dL_law_1126 ?_
  refine ln_eqi (y := xs (i + 2)) (by rw [nI_clamp (by omega)]) ?_
  refine lv_aload_n hx hb dL_law_1127 rfl (lv_at hl 3 rfl) ?_
  refine lv_iload_n hx hb dL_law_1128 rfl (lv_at hl 0 rfl) ?_
  refine lv_iconst (v := (nI (3))) hx hb dL_law_1129 (by decide) ?_
  refine ln_iadd hx hb dL_law_1130 ?_
  refine va_sld hx hb hX hbl hbA hS (vp_in_nI (show i + 3 < L by omega) (by omega)) dL_law_1131 ?_
  refine ln_eqi (y := xs (i + 3)) (by rw [nI_clamp (by omega)]) ?_
  have hP := hP.subT (w' := [(d0, .inr (11, [.ref (pA), .int (nI (0)), .ref (mA), .int (nI (0)), .ref (go0), .ref (m0), .ref (fQ), .int (nI (0)), .ref (t0), .ref (g0), .ref (shA), .ref (pq), .long (0)])), (g0, .inr (1, [.ref (ga), .ref (ho), .int (nI (0)), .long (0), .int (nI (0))])), (ga, .inl (cy 1, 8, .inr (.inl (fun _ => 0)))), (ho, .inl (cy 0, 8, .inl (nA (fun _ => 0))))]) [0, 14, 15, 16] rfl
  have hD := hD.subT (w' := [(d0, .inr (11, [.ref (pA), .int (nI (0)), .ref (mA), .int (nI (0)), .ref (go0), .ref (m0), .ref (fQ), .int (nI (0)), .ref (t0), .ref (g0), .ref (shA), .ref (pq), .long (0)])), (g0, .inr (1, [.ref (ga), .ref (ho), .int (nI (0)), .long (0), .int (nI (0))])), (ga, .inl (cy 1, 8, .inr (.inl (fun _ => 0)))), (ho, .inl (cy 0, 8, .inl (nA (fun _ => 0))))]) [0, 14, 15, 16] (by decide) rfl
  refine nq_Vl (As := [.int (xs (i + 1)), .int (xs (i + 2)), .int (xs (i + 3))]) (rest := []) (w := [(d0, .inr (11, [.ref (pA), .int (nI (0)), .ref (mA), .int (nI (0)), .ref (go0), .ref (m0), .ref (fQ), .int (nI (0)), .ref (t0), .ref (g0), .ref (shA), .ref (pq), .long (0)])), (g0, .inr (1, [.ref (ga), .ref (ho), .int (nI (0)), .long (0), .int (nI (0))])), (ga, .inl (cy 1, 8, .inr (.inl (fun _ => 0)))), (ho, .inl (cy 0, 8, .inl (nA (fun _ => 0))))]) (wr := fM cy ad) (ci := 11) (k0 := 0) ⟨hx, hb, hml, hown, htsL⟩ (qX11_brings0 l D cy d0 pA 0 mA 0 go0 m0 fQ 0 t0 g0 shA pq 0 ga ho 0 0 0 (fun _ => 0) (fun _ => 0) (xs (i + 1)) (xs (i + 2)) (xs (i + 3)) (fun _ => 0) (fun _ _ => rfl) (fun _ _ => by decide) (fun _ _ => by decide) rfl) (cwV 3 htsL gL_law_X11_brings rfl rfl rfl (by decide +kernel) ⟨Nat.le_of_ble_eq_true rfl, Nat.le_of_ble_eq_true rfl⟩) rfl rfl hP hK hD hN hS hA rfl hl.1 rfl (Nat.le_of_ble_eq_true rfl) dL_law_1132 ⟨Nat.le_of_ble_eq_true rfl, Nat.le_of_ble_eq_true rfl⟩ (fun r1 w1 H locs hq1 hP hD hS => ?_)
  have hP := hP.right
  have hD := hD.right
  refine lv_aload_n hx hb dL_law_1135 rfl (lv_at hl 1 rfl) ?_
  refine lv_aload_n hx hb dL_law_1136 rfl (lv_at hl 3 rfl) ?_
  refine lv_iload_n hx hb dL_law_1137 rfl (lv_at hl 0 rfl) ?_
  refine lv_iconst (v := (nI (1))) hx hb dL_law_1138 (by decide) ?_
  refine ln_iadd hx hb dL_law_1139 ?_
  refine va_sld hx hb hX hbl hbA hS (vp_in_nI (show i + 1 < L by omega) (by omega)) dL_law_1140 ?_
  refine ln_eqi (y := xs (i + 1)) (by rw [nI_clamp (by omega)]) ?_
  refine lv_aload_n hx hb dL_law_1141 rfl (lv_at hl 3 rfl) ?_
  refine lv_iload_n hx hb dL_law_1142 rfl (lv_at hl 0 rfl) ?_
  refine lv_iconst (v := (nI (2))) hx hb dL_law_1143 (by decide) ?_
  refine ln_iadd hx hb dL_law_1144 ?_
  refine va_sld hx hb hX hbl hbA hS (vp_in_nI (show i + 2 < L by omega) (by omega)) dL_law_1145 ?_
  refine ln_eqi (y := xs (i + 2)) (by rw [nI_clamp (by omega)]) ?_
  refine lv_aload_n hx hb dL_law_1146 rfl (lv_at hl 3 rfl) ?_
  refine lv_iload_n hx hb dL_law_1147 rfl (lv_at hl 0 rfl) ?_
  refine lv_iconst (v := (nI (3))) hx hb dL_law_1148 (by decide) ?_
  refine ln_iadd hx hb dL_law_1149 ?_
  refine va_sld hx hb hX hbl hbA hS (vp_in_nI (show i + 3 < L by omega) (by omega)) dL_law_1150 ?_
  refine ln_eqi (y := xs (i + 3)) (by rw [nI_clamp (by omega)]) ?_
  refine mq_Vl (As := [.int (xs (i + 1)), .int (xs (i + 2)), .int (xs (i + 3))]) (rest := [.long r1]) (ci := 12) (k0 := 0) ⟨hx, hb, hml, hown, htsL⟩ (cM_brings l D ad (cy 0) (cy 1) (iniA 64) (fun _ => 0) (fun _ => 0) (fun _ => 0) (fun _ => 0) (fun _ => 1) (fun _ => 0) (fun _ => 0) 0 0 0 0 0 0 0 0 0 0 0 0 0 (fun _ => 0) (fun _ => 0) (fun _ => 0) (xs (i + 1)) (xs (i + 2)) (xs (i + 3)) (by rw [ini_3]; decide) (fun i h => absurd h (by rw [ini_3]; exact Nat.not_lt_zero i)) ini_sh) (cwV 3 htsL gL_law_X12_brings rfl rfl rfl (by decide +kernel) ⟨Nat.le_of_ble_eq_true rfl, Nat.le_of_ble_eq_true rfl⟩) rfl rfl hP hKm hD hS hA rfl hl.1 rfl (Nat.le_of_ble_eq_true rfl) dL_law_1151 ⟨Nat.le_of_ble_eq_true rfl, Nat.le_of_ble_eq_true rfl⟩ (fun r2 w2 H locs hq2 hP hD hS => ?_)
  have heq : r1 = r2 := by
    rcases hq1 with ⟨h, h1⟩ | ⟨hr', e1, b1, hxy, h1⟩
    · rcases hq2 with ⟨-, h2, -⟩ | ⟨hr2, cr, dr, ⟨e1, e2, e3, b1, b2, b3⟩, -⟩
      · rw [h1, h2]
      · exact absurd (by rw [e1, e2, e3]; exact ⟨rg_nI (Nat.zero_le _) b1 (by decide), rg_nI (Nat.zero_le _) b2 (by decide), rg_nI (Nat.zero_le _) b3 (by decide)⟩) h
    · rcases hq2 with ⟨h, -⟩ | ⟨hr2, cr, dr, -, h2, -⟩
      · exact absurd ⟨by rw [e1]; exact rg_nI (Nat.zero_le _) b1 (by decide), hxy⟩ h
      · rw [ini_3, show 2 ^ 0 = 1 from rfl, plB_10] at h2
        rw [show 2 ^ 0 = 1 from rfl, plB_1] at h1
        rw [h1, h2]
        decide
  refine W.lcmp hx hb dL_law_1154 ?_
  refine lv_if_eq (tgt := 1374) hx hb dL_law_1155 (by decide) (fun c9 => ?_) (fun c9 => ?_)
  · exact hend _ _ _ _ (by decide) (by decide) hS
  · exact absurd ((lg_cmp_eq _ _).mpr heq) c9
set_option maxHeartbeats 4000000 in
set_option maxRecDepth 100000 in
theorem law_24 (l : Launch) {p : Program} {e : Env} {s : State} {m : MethodId} {below : List Frame} {meth : Method} {c : Code} {b L : Nat} {xs : Nat → Int32} (C0 : lw_At p s m meth c b L xs) {D : va_G} {cy : Nat → ClassId} (hK : va_K D vwCl (cT cy) s) (hN : nst s) {i : Nat} (hi : i + 7 ≤ L) (hL : L ≤ 3584) {d0 pA mA go0 ga0 gb0 gc0 m0 sA rA fQ t0 up lo g0 ga ho shA pq sA0 s0 z0 s1 z1 s2 z2 s3 z3 : Nat} {sa ra ad : Nat → Nat} {H : Heap} {locs : List Loc} {ls : Array Slot} (hP : va_P D vwCl (fC cy d0 pA mA go0 ga0 gb0 gc0 m0 sA rA fQ t0 up lo g0 ga ho shA pq sA0 s0 z0 s1 z1 s2 z2 s3 z3 sa ra ++ fM cy ad) H) (hD : va_D (fun q : Nat => s.heap.size ≤ q) (fC cy d0 pA mA go0 ga0 gb0 gc0 m0 sA rA fQ t0 up lo g0 ga ho shA pq sA0 s0 z0 s1 z1 s2 z2 s3 z3 sa ra ++ fM cy ad)) (hS : va_S (fun q : Nat => s.heap.size ≤ q) s.heap H locs) (hl : lv_has ls 4 [(3, .int (nI i)), (2, .ref (ad 0)), (1, .ref d0), (0, .ref b)]) (hend : ∀ (H : Heap) (locs : List Loc) (cs sl : Nat), cs ≤ 1000 → sl ≤ 20000 → va_S (fun q : Nat => s.heap.size ≤ q) s.heap H locs → W p l e room_1 s m #[Value.ref b] below meth c H locs cs sl (lw_Z below #[Value.ref b] s) (F0 m 1374 ls [])) : W p l e room_1 s m #[Value.ref b] below meth c H locs 100 15000 (lw_Z below #[Value.ref b] s) (F0 m 1160 ls []) := by
  obtain ⟨hx, hb, hr, hml, hown, hts, hX, hbl, hlocks, hgv⟩ := C0
  have htsL : ∀ w ∈ wsL_law, w.before #[Value.ref b] s = true := fun w h => hts w (wsL_law_in w h)
  have hown : s.vm.findClass RL = some m.cls := hown
  have hA : ∀ q : Nat, s.heap.size ≤ q → (fun q : Nat => s.heap.size ≤ q) q := fun _ h => h
  have hbA : ¬ (fun q : Nat => s.heap.size ≤ q) b := Nat.not_le.mpr hbl
  have hKm : va_K D vwCl (mT (cy 0) (cy 1)) s := hK.sub [0, 1] rfl
  by_cases hs1 : ix 4 (xs (i + 1))
  · obtain ⟨k, hk, e1⟩ := ix_of9 hs1 (by decide)
    rcases (show k = 0 ∨ k = 1 ∨ k = 2 ∨ k = 3 by omega) with rfl | rfl | rfl | rfl
    · have hs0 := hs1
      refine lv_aload_n hx hb dL_law_1160 rfl (lv_at hl 2 rfl) ?_
      refine lv_aload_n hx hb dL_law_1161 rfl (lv_at hl 3 rfl) ?_
      refine lv_iload_n hx hb dL_law_1162 rfl (lv_at hl 0 rfl) ?_
      refine lv_iconst (v := (nI (1))) hx hb dL_law_1163 (by decide) ?_
      refine ln_iadd hx hb dL_law_1164 ?_
      refine va_sld hx hb hX hbl hbA hS (vp_in_nI (show i + 1 < L by omega) (by omega)) dL_law_1165 ?_
      refine ln_eqi (y := xs (i + 1)) (by rw [nI_clamp (by omega)]) ?_
      refine ln_eqi (y := (nI (0))) e1 ?_
      refine lv_aload_n hx hb dL_law_1166 rfl (lv_at hl 3 rfl) ?_
      refine lv_iload_n hx hb dL_law_1167 rfl (lv_at hl 0 rfl) ?_
      refine lv_iconst (v := (nI (2))) hx hb dL_law_1168 (by decide) ?_
      refine ln_iadd hx hb dL_law_1169 ?_
      refine va_sld hx hb hX hbl hbA hS (vp_in_nI (show i + 2 < L by omega) (by omega)) dL_law_1170 ?_
      refine ln_eqi (y := xs (i + 2)) (by rw [nI_clamp (by omega)]) ?_
      refine lv_aload_n hx hb dL_law_1171 rfl (lv_at hl 3 rfl) ?_
      refine lv_iload_n hx hb dL_law_1172 rfl (lv_at hl 0 rfl) ?_
      refine lv_iconst (v := (nI (3))) hx hb dL_law_1173 (by decide) ?_
      refine ln_iadd hx hb dL_law_1174 ?_
      refine va_sld hx hb hX hbl hbA hS (vp_in_nI (show i + 3 < L by omega) (by omega)) dL_law_1175 ?_
      refine ln_eqi (y := xs (i + 3)) (by rw [nI_clamp (by omega)]) ?_
      have hP := hP.subT (w' := [(d0, .inr (11, [.ref (pA), .int (nI (0)), .ref (mA), .int (nI (0)), .ref (go0), .ref (m0), .ref (fQ), .int (nI (0)), .ref (t0), .ref (g0), .ref (shA), .ref (pq), .long (0)])), (shA, .inl (cy 6, 4, .inr (.inr (.inr (.inr (va_up (va_up (va_up (va_up (fun _ => none) (0) (some (s0))) (1) (some (s1))) (2) (some (s2))) (3) (some (s3)))))))), (s0, .inr (8, [.ref (z0), .int (nI (0)), .int (nI (0))])), (z0, .inl (cy 0, 16, .inl (fun _ => 0)))]) [0, 17, 20, 21] rfl
      have hD := hD.subT (w' := [(d0, .inr (11, [.ref (pA), .int (nI (0)), .ref (mA), .int (nI (0)), .ref (go0), .ref (m0), .ref (fQ), .int (nI (0)), .ref (t0), .ref (g0), .ref (shA), .ref (pq), .long (0)])), (shA, .inl (cy 6, 4, .inr (.inr (.inr (.inr (va_up (va_up (va_up (va_up (fun _ => none) (0) (some (s0))) (1) (some (s1))) (2) (some (s2))) (3) (some (s3)))))))), (s0, .inr (8, [.ref (z0), .int (nI (0)), .int (nI (0))])), (z0, .inl (cy 0, 16, .inl (fun _ => 0)))]) [0, 17, 20, 21] (by decide) rfl
      refine nq_Vl (As := [.int (nI (0)), .int (xs (i + 2)), .int (xs (i + 3))]) (rest := []) (w := [(d0, .inr (11, [.ref (pA), .int (nI (0)), .ref (mA), .int (nI (0)), .ref (go0), .ref (m0), .ref (fQ), .int (nI (0)), .ref (t0), .ref (g0), .ref (shA), .ref (pq), .long (0)])), (shA, .inl (cy 6, 4, .inr (.inr (.inr (.inr (va_up (va_up (va_up (va_up (fun _ => none) (0) (some (s0))) (1) (some (s1))) (2) (some (s2))) (3) (some (s3)))))))), (s0, .inr (8, [.ref (z0), .int (nI (0)), .int (nI (0))])), (z0, .inl (cy 0, 16, .inl (fun _ => 0)))]) (wr := fM cy ad) (ci := 11) (k0 := 0) ⟨hx, hb, hml, hown, htsL⟩ (qX11_sheet_y l D cy d0 pA 0 mA 0 go0 m0 fQ 0 t0 g0 shA pq 0 (va_up (va_up (va_up (va_up (fun _ => none) (0) (some (s0))) (1) (some (s1))) (2) (some (s2))) (3) (some (s3))) s0 z0 0 0 (fun _ => 0) (0) (xs (i + 2)) (xs (i + 3)) (by decide) rfl) (cwV 3 htsL gL_law_X11_sheet rfl rfl rfl (by decide +kernel) ⟨Nat.le_of_ble_eq_true rfl, Nat.le_of_ble_eq_true rfl⟩) rfl rfl hP hK hD hN hS hA rfl hl.1 rfl (Nat.le_of_ble_eq_true rfl) dL_law_1176 ⟨Nat.le_of_ble_eq_true rfl, Nat.le_of_ble_eq_true rfl⟩ (fun r1 w1 H locs hq1 hP hD hS => ?_)
      have hP := hP.right
      have hD := hD.right
      refine lv_aload_n hx hb dL_law_1179 rfl (lv_at hl 1 rfl) ?_
      refine lv_aload_n hx hb dL_law_1180 rfl (lv_at hl 3 rfl) ?_
      refine lv_iload_n hx hb dL_law_1181 rfl (lv_at hl 0 rfl) ?_
      refine lv_iconst (v := (nI (1))) hx hb dL_law_1182 (by decide) ?_
      refine ln_iadd hx hb dL_law_1183 ?_
      refine va_sld hx hb hX hbl hbA hS (vp_in_nI (show i + 1 < L by omega) (by omega)) dL_law_1184 ?_
      refine ln_eqi (y := xs (i + 1)) (by rw [nI_clamp (by omega)]) ?_
      refine lv_aload_n hx hb dL_law_1185 rfl (lv_at hl 3 rfl) ?_
      refine lv_iload_n hx hb dL_law_1186 rfl (lv_at hl 0 rfl) ?_
      refine lv_iconst (v := (nI (2))) hx hb dL_law_1187 (by decide) ?_
      refine ln_iadd hx hb dL_law_1188 ?_
      refine va_sld hx hb hX hbl hbA hS (vp_in_nI (show i + 2 < L by omega) (by omega)) dL_law_1189 ?_
      refine ln_eqi (y := xs (i + 2)) (by rw [nI_clamp (by omega)]) ?_
      refine lv_aload_n hx hb dL_law_1190 rfl (lv_at hl 3 rfl) ?_
      refine lv_iload_n hx hb dL_law_1191 rfl (lv_at hl 0 rfl) ?_
      refine lv_iconst (v := (nI (3))) hx hb dL_law_1192 (by decide) ?_
      refine ln_iadd hx hb dL_law_1193 ?_
      refine va_sld hx hb hX hbl hbA hS (vp_in_nI (show i + 3 < L by omega) (by omega)) dL_law_1194 ?_
      refine ln_eqi (y := xs (i + 3)) (by rw [nI_clamp (by omega)]) ?_
      refine mq_Vl (As := [.int (xs (i + 1)), .int (xs (i + 2)), .int (xs (i + 3))]) (rest := [.long r1]) (ci := 12) (k0 := 0) ⟨hx, hb, hml, hown, htsL⟩ (cM_sheet l D ad (cy 0) (cy 1) (iniA 64) (fun _ => 0) (fun _ => 0) (fun _ => 0) (fun _ => 0) (fun _ => 1) (fun _ => 0) (fun _ => 0) 0 0 0 0 0 0 0 0 0 0 0 0 0 (fun _ => 0) (fun _ => 0) (fun _ => 0) (xs (i + 1)) (xs (i + 2)) (xs (i + 3)) ) (cwV 3 htsL gL_law_X12_sheet rfl rfl rfl (by decide +kernel) ⟨Nat.le_of_ble_eq_true rfl, Nat.le_of_ble_eq_true rfl⟩) rfl rfl hP hKm hD hS hA rfl hl.1 rfl (Nat.le_of_ble_eq_true rfl) dL_law_1195 ⟨Nat.le_of_ble_eq_true rfl, Nat.le_of_ble_eq_true rfl⟩ (fun r2 w2 H locs hq2 hP hD hS => ?_)
      have heq : r1 = r2 := by
        rcases hq1 with ⟨h, h1, -⟩ | ⟨b', ⟨hb, hb4⟩, h1⟩
        · rcases hq2 with ⟨-, h2, -⟩ | ⟨s', b', ⟨-, hb⟩, ⟨-, hb4⟩, -⟩
          · rw [h1, h2]
          · rcases hb4 with q | q | q | q
            · exact absurd (Or.inl (by rw [hb, q])) h
            · exact absurd (Or.inr (Or.inl (by rw [hb, q]))) h
            · exact absurd (Or.inr (Or.inr (Or.inl (by rw [hb, q])))) h
            · exact absurd (Or.inr (Or.inr (Or.inr (by rw [hb, q])))) h
        · rcases hq2 with ⟨h, -⟩ | ⟨s', b2, ⟨-, hb2⟩, ⟨-, hb42⟩, h2⟩
          · exact absurd ⟨0, b', ⟨e1, hb⟩, by decide, hb4⟩ h
          · have eb : b' = b2 := nI_inj9 (by omega) (by omega) (hb.symm.trans hb2)
            subst eb
            rcases h1 with ⟨z1, h1, -⟩ | ⟨z1, z2, h1, -⟩ | ⟨n, z1, z2, h1, -⟩
            · rcases h2 with ⟨-, h2, -⟩ | ⟨y1, -⟩ | ⟨n2, y1, y2, -⟩
              · rw [h1, h2]
              · exact absurd y1 z1
              · exact absurd (by rw [y1]; exact nI_pos' (by omega)) z1
            · rcases h2 with ⟨y1, -⟩ | ⟨-, -, h2, -⟩ | ⟨n2, y1, y2, -⟩
              · exact absurd z1 y1
              · rw [h1, h2]
              · exact absurd (by rw [y1]; exact nI_le y2 (by decide)) z2
            · rcases h2 with ⟨y1, -⟩ | ⟨-, y1, -⟩ | ⟨n2, y1, y2, h2, -⟩
              · exact absurd (by rw [z1]; exact nI_pos' (by omega)) y1
              · exact absurd (by rw [z1]; exact nI_le z2 (by decide)) y1
              · have en : n = n2 := nI_inj9 (by omega) (by omega) (z1.symm.trans y1)
                subst en
                rw [h1, h2]
      refine W.lcmp hx hb dL_law_1198 ?_
      refine lv_if_eq (tgt := 1374) hx hb dL_law_1199 (by decide) (fun c9 => ?_) (fun c9 => ?_)
      · exact hend _ _ _ _ (by decide) (by decide) hS
      · exact absurd ((lg_cmp_eq _ _).mpr heq) c9
    · have hs0 := hs1
      refine lv_aload_n hx hb dL_law_1160 rfl (lv_at hl 2 rfl) ?_
      refine lv_aload_n hx hb dL_law_1161 rfl (lv_at hl 3 rfl) ?_
      refine lv_iload_n hx hb dL_law_1162 rfl (lv_at hl 0 rfl) ?_
      refine lv_iconst (v := (nI (1))) hx hb dL_law_1163 (by decide) ?_
      refine ln_iadd hx hb dL_law_1164 ?_
      refine va_sld hx hb hX hbl hbA hS (vp_in_nI (show i + 1 < L by omega) (by omega)) dL_law_1165 ?_
      refine ln_eqi (y := xs (i + 1)) (by rw [nI_clamp (by omega)]) ?_
      refine ln_eqi (y := (nI (1))) e1 ?_
      refine lv_aload_n hx hb dL_law_1166 rfl (lv_at hl 3 rfl) ?_
      refine lv_iload_n hx hb dL_law_1167 rfl (lv_at hl 0 rfl) ?_
      refine lv_iconst (v := (nI (2))) hx hb dL_law_1168 (by decide) ?_
      refine ln_iadd hx hb dL_law_1169 ?_
      refine va_sld hx hb hX hbl hbA hS (vp_in_nI (show i + 2 < L by omega) (by omega)) dL_law_1170 ?_
      refine ln_eqi (y := xs (i + 2)) (by rw [nI_clamp (by omega)]) ?_
      refine lv_aload_n hx hb dL_law_1171 rfl (lv_at hl 3 rfl) ?_
      refine lv_iload_n hx hb dL_law_1172 rfl (lv_at hl 0 rfl) ?_
      refine lv_iconst (v := (nI (3))) hx hb dL_law_1173 (by decide) ?_
      refine ln_iadd hx hb dL_law_1174 ?_
      refine va_sld hx hb hX hbl hbA hS (vp_in_nI (show i + 3 < L by omega) (by omega)) dL_law_1175 ?_
      refine ln_eqi (y := xs (i + 3)) (by rw [nI_clamp (by omega)]) ?_
      have hP := hP.subT (w' := [(d0, .inr (11, [.ref (pA), .int (nI (0)), .ref (mA), .int (nI (0)), .ref (go0), .ref (m0), .ref (fQ), .int (nI (0)), .ref (t0), .ref (g0), .ref (shA), .ref (pq), .long (0)])), (shA, .inl (cy 6, 4, .inr (.inr (.inr (.inr (va_up (va_up (va_up (va_up (fun _ => none) (0) (some (s0))) (1) (some (s1))) (2) (some (s2))) (3) (some (s3)))))))), (s1, .inr (8, [.ref (z1), .int (nI (0)), .int (nI (0))])), (z1, .inl (cy 0, 16, .inl (fun _ => 0)))]) [0, 17, 22, 23] rfl
      have hD := hD.subT (w' := [(d0, .inr (11, [.ref (pA), .int (nI (0)), .ref (mA), .int (nI (0)), .ref (go0), .ref (m0), .ref (fQ), .int (nI (0)), .ref (t0), .ref (g0), .ref (shA), .ref (pq), .long (0)])), (shA, .inl (cy 6, 4, .inr (.inr (.inr (.inr (va_up (va_up (va_up (va_up (fun _ => none) (0) (some (s0))) (1) (some (s1))) (2) (some (s2))) (3) (some (s3)))))))), (s1, .inr (8, [.ref (z1), .int (nI (0)), .int (nI (0))])), (z1, .inl (cy 0, 16, .inl (fun _ => 0)))]) [0, 17, 22, 23] (by decide) rfl
      refine nq_Vl (As := [.int (nI (1)), .int (xs (i + 2)), .int (xs (i + 3))]) (rest := []) (w := [(d0, .inr (11, [.ref (pA), .int (nI (0)), .ref (mA), .int (nI (0)), .ref (go0), .ref (m0), .ref (fQ), .int (nI (0)), .ref (t0), .ref (g0), .ref (shA), .ref (pq), .long (0)])), (shA, .inl (cy 6, 4, .inr (.inr (.inr (.inr (va_up (va_up (va_up (va_up (fun _ => none) (0) (some (s0))) (1) (some (s1))) (2) (some (s2))) (3) (some (s3)))))))), (s1, .inr (8, [.ref (z1), .int (nI (0)), .int (nI (0))])), (z1, .inl (cy 0, 16, .inl (fun _ => 0)))]) (wr := fM cy ad) (ci := 11) (k0 := 0) ⟨hx, hb, hml, hown, htsL⟩ (qX11_sheet_y l D cy d0 pA 0 mA 0 go0 m0 fQ 0 t0 g0 shA pq 0 (va_up (va_up (va_up (va_up (fun _ => none) (0) (some (s0))) (1) (some (s1))) (2) (some (s2))) (3) (some (s3))) s1 z1 0 0 (fun _ => 0) (1) (xs (i + 2)) (xs (i + 3)) (by decide) rfl) (cwV 3 htsL gL_law_X11_sheet rfl rfl rfl (by decide +kernel) ⟨Nat.le_of_ble_eq_true rfl, Nat.le_of_ble_eq_true rfl⟩) rfl rfl hP hK hD hN hS hA rfl hl.1 rfl (Nat.le_of_ble_eq_true rfl) dL_law_1176 ⟨Nat.le_of_ble_eq_true rfl, Nat.le_of_ble_eq_true rfl⟩ (fun r1 w1 H locs hq1 hP hD hS => ?_)
      have hP := hP.right
      have hD := hD.right
      refine lv_aload_n hx hb dL_law_1179 rfl (lv_at hl 1 rfl) ?_
      refine lv_aload_n hx hb dL_law_1180 rfl (lv_at hl 3 rfl) ?_
      refine lv_iload_n hx hb dL_law_1181 rfl (lv_at hl 0 rfl) ?_
      refine lv_iconst (v := (nI (1))) hx hb dL_law_1182 (by decide) ?_
      refine ln_iadd hx hb dL_law_1183 ?_
      refine va_sld hx hb hX hbl hbA hS (vp_in_nI (show i + 1 < L by omega) (by omega)) dL_law_1184 ?_
      refine ln_eqi (y := xs (i + 1)) (by rw [nI_clamp (by omega)]) ?_
      refine lv_aload_n hx hb dL_law_1185 rfl (lv_at hl 3 rfl) ?_
      refine lv_iload_n hx hb dL_law_1186 rfl (lv_at hl 0 rfl) ?_
      refine lv_iconst (v := (nI (2))) hx hb dL_law_1187 (by decide) ?_
      refine ln_iadd hx hb dL_law_1188 ?_
      refine va_sld hx hb hX hbl hbA hS (vp_in_nI (show i + 2 < L by omega) (by omega)) dL_law_1189 ?_
      refine ln_eqi (y := xs (i + 2)) (by rw [nI_clamp (by omega)]) ?_
      refine lv_aload_n hx hb dL_law_1190 rfl (lv_at hl 3 rfl) ?_
      refine lv_iload_n hx hb dL_law_1191 rfl (lv_at hl 0 rfl) ?_
      refine lv_iconst (v := (nI (3))) hx hb dL_law_1192 (by decide) ?_
      refine ln_iadd hx hb dL_law_1193 ?_
      refine va_sld hx hb hX hbl hbA hS (vp_in_nI (show i + 3 < L by omega) (by omega)) dL_law_1194 ?_
      refine ln_eqi (y := xs (i + 3)) (by rw [nI_clamp (by omega)]) ?_
      refine mq_Vl (As := [.int (xs (i + 1)), .int (xs (i + 2)), .int (xs (i + 3))]) (rest := [.long r1]) (ci := 12) (k0 := 0) ⟨hx, hb, hml, hown, htsL⟩ (cM_sheet l D ad (cy 0) (cy 1) (iniA 64) (fun _ => 0) (fun _ => 0) (fun _ => 0) (fun _ => 0) (fun _ => 1) (fun _ => 0) (fun _ => 0) 0 0 0 0 0 0 0 0 0 0 0 0 0 (fun _ => 0) (fun _ => 0) (fun _ => 0) (xs (i + 1)) (xs (i + 2)) (xs (i + 3)) ) (cwV 3 htsL gL_law_X12_sheet rfl rfl rfl (by decide +kernel) ⟨Nat.le_of_ble_eq_true rfl, Nat.le_of_ble_eq_true rfl⟩) rfl rfl hP hKm hD hS hA rfl hl.1 rfl (Nat.le_of_ble_eq_true rfl) dL_law_1195 ⟨Nat.le_of_ble_eq_true rfl, Nat.le_of_ble_eq_true rfl⟩ (fun r2 w2 H locs hq2 hP hD hS => ?_)
      have heq : r1 = r2 := by
        rcases hq1 with ⟨h, h1, -⟩ | ⟨b', ⟨hb, hb4⟩, h1⟩
        · rcases hq2 with ⟨-, h2, -⟩ | ⟨s', b', ⟨-, hb⟩, ⟨-, hb4⟩, -⟩
          · rw [h1, h2]
          · rcases hb4 with q | q | q | q
            · exact absurd (Or.inl (by rw [hb, q])) h
            · exact absurd (Or.inr (Or.inl (by rw [hb, q]))) h
            · exact absurd (Or.inr (Or.inr (Or.inl (by rw [hb, q])))) h
            · exact absurd (Or.inr (Or.inr (Or.inr (by rw [hb, q])))) h
        · rcases hq2 with ⟨h, -⟩ | ⟨s', b2, ⟨-, hb2⟩, ⟨-, hb42⟩, h2⟩
          · exact absurd ⟨1, b', ⟨e1, hb⟩, by decide, hb4⟩ h
          · have eb : b' = b2 := nI_inj9 (by omega) (by omega) (hb.symm.trans hb2)
            subst eb
            rcases h1 with ⟨z1, h1, -⟩ | ⟨z1, z2, h1, -⟩ | ⟨n, z1, z2, h1, -⟩
            · rcases h2 with ⟨-, h2, -⟩ | ⟨y1, -⟩ | ⟨n2, y1, y2, -⟩
              · rw [h1, h2]
              · exact absurd y1 z1
              · exact absurd (by rw [y1]; exact nI_pos' (by omega)) z1
            · rcases h2 with ⟨y1, -⟩ | ⟨-, -, h2, -⟩ | ⟨n2, y1, y2, -⟩
              · exact absurd z1 y1
              · rw [h1, h2]
              · exact absurd (by rw [y1]; exact nI_le y2 (by decide)) z2
            · rcases h2 with ⟨y1, -⟩ | ⟨-, y1, -⟩ | ⟨n2, y1, y2, h2, -⟩
              · exact absurd (by rw [z1]; exact nI_pos' (by omega)) y1
              · exact absurd (by rw [z1]; exact nI_le z2 (by decide)) y1
              · have en : n = n2 := nI_inj9 (by omega) (by omega) (z1.symm.trans y1)
                subst en
                rw [h1, h2]
      refine W.lcmp hx hb dL_law_1198 ?_
      refine lv_if_eq (tgt := 1374) hx hb dL_law_1199 (by decide) (fun c9 => ?_) (fun c9 => ?_)
      · exact hend _ _ _ _ (by decide) (by decide) hS
      · exact absurd ((lg_cmp_eq _ _).mpr heq) c9
    · have hs0 := hs1
      refine lv_aload_n hx hb dL_law_1160 rfl (lv_at hl 2 rfl) ?_
      refine lv_aload_n hx hb dL_law_1161 rfl (lv_at hl 3 rfl) ?_
      refine lv_iload_n hx hb dL_law_1162 rfl (lv_at hl 0 rfl) ?_
      refine lv_iconst (v := (nI (1))) hx hb dL_law_1163 (by decide) ?_
      refine ln_iadd hx hb dL_law_1164 ?_
      refine va_sld hx hb hX hbl hbA hS (vp_in_nI (show i + 1 < L by omega) (by omega)) dL_law_1165 ?_
      refine ln_eqi (y := xs (i + 1)) (by rw [nI_clamp (by omega)]) ?_
      refine ln_eqi (y := (nI (2))) e1 ?_
      refine lv_aload_n hx hb dL_law_1166 rfl (lv_at hl 3 rfl) ?_
      refine lv_iload_n hx hb dL_law_1167 rfl (lv_at hl 0 rfl) ?_
      refine lv_iconst (v := (nI (2))) hx hb dL_law_1168 (by decide) ?_
      refine ln_iadd hx hb dL_law_1169 ?_
      refine va_sld hx hb hX hbl hbA hS (vp_in_nI (show i + 2 < L by omega) (by omega)) dL_law_1170 ?_
      refine ln_eqi (y := xs (i + 2)) (by rw [nI_clamp (by omega)]) ?_
      refine lv_aload_n hx hb dL_law_1171 rfl (lv_at hl 3 rfl) ?_
      refine lv_iload_n hx hb dL_law_1172 rfl (lv_at hl 0 rfl) ?_
      refine lv_iconst (v := (nI (3))) hx hb dL_law_1173 (by decide) ?_
      refine ln_iadd hx hb dL_law_1174 ?_
      refine va_sld hx hb hX hbl hbA hS (vp_in_nI (show i + 3 < L by omega) (by omega)) dL_law_1175 ?_
      refine ln_eqi (y := xs (i + 3)) (by rw [nI_clamp (by omega)]) ?_
      have hP := hP.subT (w' := [(d0, .inr (11, [.ref (pA), .int (nI (0)), .ref (mA), .int (nI (0)), .ref (go0), .ref (m0), .ref (fQ), .int (nI (0)), .ref (t0), .ref (g0), .ref (shA), .ref (pq), .long (0)])), (shA, .inl (cy 6, 4, .inr (.inr (.inr (.inr (va_up (va_up (va_up (va_up (fun _ => none) (0) (some (s0))) (1) (some (s1))) (2) (some (s2))) (3) (some (s3)))))))), (s2, .inr (8, [.ref (z2), .int (nI (0)), .int (nI (0))])), (z2, .inl (cy 0, 16, .inl (fun _ => 0)))]) [0, 17, 24, 25] rfl
      have hD := hD.subT (w' := [(d0, .inr (11, [.ref (pA), .int (nI (0)), .ref (mA), .int (nI (0)), .ref (go0), .ref (m0), .ref (fQ), .int (nI (0)), .ref (t0), .ref (g0), .ref (shA), .ref (pq), .long (0)])), (shA, .inl (cy 6, 4, .inr (.inr (.inr (.inr (va_up (va_up (va_up (va_up (fun _ => none) (0) (some (s0))) (1) (some (s1))) (2) (some (s2))) (3) (some (s3)))))))), (s2, .inr (8, [.ref (z2), .int (nI (0)), .int (nI (0))])), (z2, .inl (cy 0, 16, .inl (fun _ => 0)))]) [0, 17, 24, 25] (by decide) rfl
      refine nq_Vl (As := [.int (nI (2)), .int (xs (i + 2)), .int (xs (i + 3))]) (rest := []) (w := [(d0, .inr (11, [.ref (pA), .int (nI (0)), .ref (mA), .int (nI (0)), .ref (go0), .ref (m0), .ref (fQ), .int (nI (0)), .ref (t0), .ref (g0), .ref (shA), .ref (pq), .long (0)])), (shA, .inl (cy 6, 4, .inr (.inr (.inr (.inr (va_up (va_up (va_up (va_up (fun _ => none) (0) (some (s0))) (1) (some (s1))) (2) (some (s2))) (3) (some (s3)))))))), (s2, .inr (8, [.ref (z2), .int (nI (0)), .int (nI (0))])), (z2, .inl (cy 0, 16, .inl (fun _ => 0)))]) (wr := fM cy ad) (ci := 11) (k0 := 0) ⟨hx, hb, hml, hown, htsL⟩ (qX11_sheet_y l D cy d0 pA 0 mA 0 go0 m0 fQ 0 t0 g0 shA pq 0 (va_up (va_up (va_up (va_up (fun _ => none) (0) (some (s0))) (1) (some (s1))) (2) (some (s2))) (3) (some (s3))) s2 z2 0 0 (fun _ => 0) (2) (xs (i + 2)) (xs (i + 3)) (by decide) rfl) (cwV 3 htsL gL_law_X11_sheet rfl rfl rfl (by decide +kernel) ⟨Nat.le_of_ble_eq_true rfl, Nat.le_of_ble_eq_true rfl⟩) rfl rfl hP hK hD hN hS hA rfl hl.1 rfl (Nat.le_of_ble_eq_true rfl) dL_law_1176 ⟨Nat.le_of_ble_eq_true rfl, Nat.le_of_ble_eq_true rfl⟩ (fun r1 w1 H locs hq1 hP hD hS => ?_)
      have hP := hP.right
      have hD := hD.right
      refine lv_aload_n hx hb dL_law_1179 rfl (lv_at hl 1 rfl) ?_
      refine lv_aload_n hx hb dL_law_1180 rfl (lv_at hl 3 rfl) ?_
      refine lv_iload_n hx hb dL_law_1181 rfl (lv_at hl 0 rfl) ?_
      refine lv_iconst (v := (nI (1))) hx hb dL_law_1182 (by decide) ?_
      refine ln_iadd hx hb dL_law_1183 ?_
      refine va_sld hx hb hX hbl hbA hS (vp_in_nI (show i + 1 < L by omega) (by omega)) dL_law_1184 ?_
      refine ln_eqi (y := xs (i + 1)) (by rw [nI_clamp (by omega)]) ?_
      refine lv_aload_n hx hb dL_law_1185 rfl (lv_at hl 3 rfl) ?_
      refine lv_iload_n hx hb dL_law_1186 rfl (lv_at hl 0 rfl) ?_
      refine lv_iconst (v := (nI (2))) hx hb dL_law_1187 (by decide) ?_
      refine ln_iadd hx hb dL_law_1188 ?_
      refine va_sld hx hb hX hbl hbA hS (vp_in_nI (show i + 2 < L by omega) (by omega)) dL_law_1189 ?_
      refine ln_eqi (y := xs (i + 2)) (by rw [nI_clamp (by omega)]) ?_
      refine lv_aload_n hx hb dL_law_1190 rfl (lv_at hl 3 rfl) ?_
      refine lv_iload_n hx hb dL_law_1191 rfl (lv_at hl 0 rfl) ?_
      refine lv_iconst (v := (nI (3))) hx hb dL_law_1192 (by decide) ?_
      refine ln_iadd hx hb dL_law_1193 ?_
      refine va_sld hx hb hX hbl hbA hS (vp_in_nI (show i + 3 < L by omega) (by omega)) dL_law_1194 ?_
      refine ln_eqi (y := xs (i + 3)) (by rw [nI_clamp (by omega)]) ?_
      refine mq_Vl (As := [.int (xs (i + 1)), .int (xs (i + 2)), .int (xs (i + 3))]) (rest := [.long r1]) (ci := 12) (k0 := 0) ⟨hx, hb, hml, hown, htsL⟩ (cM_sheet l D ad (cy 0) (cy 1) (iniA 64) (fun _ => 0) (fun _ => 0) (fun _ => 0) (fun _ => 0) (fun _ => 1) (fun _ => 0) (fun _ => 0) 0 0 0 0 0 0 0 0 0 0 0 0 0 (fun _ => 0) (fun _ => 0) (fun _ => 0) (xs (i + 1)) (xs (i + 2)) (xs (i + 3)) ) (cwV 3 htsL gL_law_X12_sheet rfl rfl rfl (by decide +kernel) ⟨Nat.le_of_ble_eq_true rfl, Nat.le_of_ble_eq_true rfl⟩) rfl rfl hP hKm hD hS hA rfl hl.1 rfl (Nat.le_of_ble_eq_true rfl) dL_law_1195 ⟨Nat.le_of_ble_eq_true rfl, Nat.le_of_ble_eq_true rfl⟩ (fun r2 w2 H locs hq2 hP hD hS => ?_)
      have heq : r1 = r2 := by
        rcases hq1 with ⟨h, h1, -⟩ | ⟨b', ⟨hb, hb4⟩, h1⟩
        · rcases hq2 with ⟨-, h2, -⟩ | ⟨s', b', ⟨-, hb⟩, ⟨-, hb4⟩, -⟩
          · rw [h1, h2]
          · rcases hb4 with q | q | q | q
            · exact absurd (Or.inl (by rw [hb, q])) h
            · exact absurd (Or.inr (Or.inl (by rw [hb, q]))) h
            · exact absurd (Or.inr (Or.inr (Or.inl (by rw [hb, q])))) h
            · exact absurd (Or.inr (Or.inr (Or.inr (by rw [hb, q])))) h
        · rcases hq2 with ⟨h, -⟩ | ⟨s', b2, ⟨-, hb2⟩, ⟨-, hb42⟩, h2⟩
          · exact absurd ⟨2, b', ⟨e1, hb⟩, by decide, hb4⟩ h
          · have eb : b' = b2 := nI_inj9 (by omega) (by omega) (hb.symm.trans hb2)
            subst eb
            rcases h1 with ⟨z1, h1, -⟩ | ⟨z1, z2, h1, -⟩ | ⟨n, z1, z2, h1, -⟩
            · rcases h2 with ⟨-, h2, -⟩ | ⟨y1, -⟩ | ⟨n2, y1, y2, -⟩
              · rw [h1, h2]
              · exact absurd y1 z1
              · exact absurd (by rw [y1]; exact nI_pos' (by omega)) z1
            · rcases h2 with ⟨y1, -⟩ | ⟨-, -, h2, -⟩ | ⟨n2, y1, y2, -⟩
              · exact absurd z1 y1
              · rw [h1, h2]
              · exact absurd (by rw [y1]; exact nI_le y2 (by decide)) z2
            · rcases h2 with ⟨y1, -⟩ | ⟨-, y1, -⟩ | ⟨n2, y1, y2, h2, -⟩
              · exact absurd (by rw [z1]; exact nI_pos' (by omega)) y1
              · exact absurd (by rw [z1]; exact nI_le z2 (by decide)) y1
              · have en : n = n2 := nI_inj9 (by omega) (by omega) (z1.symm.trans y1)
                subst en
                rw [h1, h2]
      refine W.lcmp hx hb dL_law_1198 ?_
      refine lv_if_eq (tgt := 1374) hx hb dL_law_1199 (by decide) (fun c9 => ?_) (fun c9 => ?_)
      · exact hend _ _ _ _ (by decide) (by decide) hS
      · exact absurd ((lg_cmp_eq _ _).mpr heq) c9
    · have hs0 := hs1
      refine lv_aload_n hx hb dL_law_1160 rfl (lv_at hl 2 rfl) ?_
      refine lv_aload_n hx hb dL_law_1161 rfl (lv_at hl 3 rfl) ?_
      refine lv_iload_n hx hb dL_law_1162 rfl (lv_at hl 0 rfl) ?_
      refine lv_iconst (v := (nI (1))) hx hb dL_law_1163 (by decide) ?_
      refine ln_iadd hx hb dL_law_1164 ?_
      refine va_sld hx hb hX hbl hbA hS (vp_in_nI (show i + 1 < L by omega) (by omega)) dL_law_1165 ?_
      refine ln_eqi (y := xs (i + 1)) (by rw [nI_clamp (by omega)]) ?_
      refine ln_eqi (y := (nI (3))) e1 ?_
      refine lv_aload_n hx hb dL_law_1166 rfl (lv_at hl 3 rfl) ?_
      refine lv_iload_n hx hb dL_law_1167 rfl (lv_at hl 0 rfl) ?_
      refine lv_iconst (v := (nI (2))) hx hb dL_law_1168 (by decide) ?_
      refine ln_iadd hx hb dL_law_1169 ?_
      refine va_sld hx hb hX hbl hbA hS (vp_in_nI (show i + 2 < L by omega) (by omega)) dL_law_1170 ?_
      refine ln_eqi (y := xs (i + 2)) (by rw [nI_clamp (by omega)]) ?_
      refine lv_aload_n hx hb dL_law_1171 rfl (lv_at hl 3 rfl) ?_
      refine lv_iload_n hx hb dL_law_1172 rfl (lv_at hl 0 rfl) ?_
      refine lv_iconst (v := (nI (3))) hx hb dL_law_1173 (by decide) ?_
      refine ln_iadd hx hb dL_law_1174 ?_
      refine va_sld hx hb hX hbl hbA hS (vp_in_nI (show i + 3 < L by omega) (by omega)) dL_law_1175 ?_
      refine ln_eqi (y := xs (i + 3)) (by rw [nI_clamp (by omega)]) ?_
      have hP := hP.subT (w' := [(d0, .inr (11, [.ref (pA), .int (nI (0)), .ref (mA), .int (nI (0)), .ref (go0), .ref (m0), .ref (fQ), .int (nI (0)), .ref (t0), .ref (g0), .ref (shA), .ref (pq), .long (0)])), (shA, .inl (cy 6, 4, .inr (.inr (.inr (.inr (va_up (va_up (va_up (va_up (fun _ => none) (0) (some (s0))) (1) (some (s1))) (2) (some (s2))) (3) (some (s3)))))))), (s3, .inr (8, [.ref (z3), .int (nI (0)), .int (nI (0))])), (z3, .inl (cy 0, 16, .inl (fun _ => 0)))]) [0, 17, 26, 27] rfl
      have hD := hD.subT (w' := [(d0, .inr (11, [.ref (pA), .int (nI (0)), .ref (mA), .int (nI (0)), .ref (go0), .ref (m0), .ref (fQ), .int (nI (0)), .ref (t0), .ref (g0), .ref (shA), .ref (pq), .long (0)])), (shA, .inl (cy 6, 4, .inr (.inr (.inr (.inr (va_up (va_up (va_up (va_up (fun _ => none) (0) (some (s0))) (1) (some (s1))) (2) (some (s2))) (3) (some (s3)))))))), (s3, .inr (8, [.ref (z3), .int (nI (0)), .int (nI (0))])), (z3, .inl (cy 0, 16, .inl (fun _ => 0)))]) [0, 17, 26, 27] (by decide) rfl
      refine nq_Vl (As := [.int (nI (3)), .int (xs (i + 2)), .int (xs (i + 3))]) (rest := []) (w := [(d0, .inr (11, [.ref (pA), .int (nI (0)), .ref (mA), .int (nI (0)), .ref (go0), .ref (m0), .ref (fQ), .int (nI (0)), .ref (t0), .ref (g0), .ref (shA), .ref (pq), .long (0)])), (shA, .inl (cy 6, 4, .inr (.inr (.inr (.inr (va_up (va_up (va_up (va_up (fun _ => none) (0) (some (s0))) (1) (some (s1))) (2) (some (s2))) (3) (some (s3)))))))), (s3, .inr (8, [.ref (z3), .int (nI (0)), .int (nI (0))])), (z3, .inl (cy 0, 16, .inl (fun _ => 0)))]) (wr := fM cy ad) (ci := 11) (k0 := 0) ⟨hx, hb, hml, hown, htsL⟩ (qX11_sheet_y l D cy d0 pA 0 mA 0 go0 m0 fQ 0 t0 g0 shA pq 0 (va_up (va_up (va_up (va_up (fun _ => none) (0) (some (s0))) (1) (some (s1))) (2) (some (s2))) (3) (some (s3))) s3 z3 0 0 (fun _ => 0) (3) (xs (i + 2)) (xs (i + 3)) (by decide) rfl) (cwV 3 htsL gL_law_X11_sheet rfl rfl rfl (by decide +kernel) ⟨Nat.le_of_ble_eq_true rfl, Nat.le_of_ble_eq_true rfl⟩) rfl rfl hP hK hD hN hS hA rfl hl.1 rfl (Nat.le_of_ble_eq_true rfl) dL_law_1176 ⟨Nat.le_of_ble_eq_true rfl, Nat.le_of_ble_eq_true rfl⟩ (fun r1 w1 H locs hq1 hP hD hS => ?_)
      have hP := hP.right
      have hD := hD.right
      refine lv_aload_n hx hb dL_law_1179 rfl (lv_at hl 1 rfl) ?_
      refine lv_aload_n hx hb dL_law_1180 rfl (lv_at hl 3 rfl) ?_
      refine lv_iload_n hx hb dL_law_1181 rfl (lv_at hl 0 rfl) ?_
      refine lv_iconst (v := (nI (1))) hx hb dL_law_1182 (by decide) ?_
      refine ln_iadd hx hb dL_law_1183 ?_
      refine va_sld hx hb hX hbl hbA hS (vp_in_nI (show i + 1 < L by omega) (by omega)) dL_law_1184 ?_
      refine ln_eqi (y := xs (i + 1)) (by rw [nI_clamp (by omega)]) ?_
      refine lv_aload_n hx hb dL_law_1185 rfl (lv_at hl 3 rfl) ?_
      refine lv_iload_n hx hb dL_law_1186 rfl (lv_at hl 0 rfl) ?_
      refine lv_iconst (v := (nI (2))) hx hb dL_law_1187 (by decide) ?_
      refine ln_iadd hx hb dL_law_1188 ?_
      refine va_sld hx hb hX hbl hbA hS (vp_in_nI (show i + 2 < L by omega) (by omega)) dL_law_1189 ?_
      refine ln_eqi (y := xs (i + 2)) (by rw [nI_clamp (by omega)]) ?_
      refine lv_aload_n hx hb dL_law_1190 rfl (lv_at hl 3 rfl) ?_
      refine lv_iload_n hx hb dL_law_1191 rfl (lv_at hl 0 rfl) ?_
      refine lv_iconst (v := (nI (3))) hx hb dL_law_1192 (by decide) ?_
      refine ln_iadd hx hb dL_law_1193 ?_
      refine va_sld hx hb hX hbl hbA hS (vp_in_nI (show i + 3 < L by omega) (by omega)) dL_law_1194 ?_
      refine ln_eqi (y := xs (i + 3)) (by rw [nI_clamp (by omega)]) ?_
      refine mq_Vl (As := [.int (xs (i + 1)), .int (xs (i + 2)), .int (xs (i + 3))]) (rest := [.long r1]) (ci := 12) (k0 := 0) ⟨hx, hb, hml, hown, htsL⟩ (cM_sheet l D ad (cy 0) (cy 1) (iniA 64) (fun _ => 0) (fun _ => 0) (fun _ => 0) (fun _ => 0) (fun _ => 1) (fun _ => 0) (fun _ => 0) 0 0 0 0 0 0 0 0 0 0 0 0 0 (fun _ => 0) (fun _ => 0) (fun _ => 0) (xs (i + 1)) (xs (i + 2)) (xs (i + 3)) ) (cwV 3 htsL gL_law_X12_sheet rfl rfl rfl (by decide +kernel) ⟨Nat.le_of_ble_eq_true rfl, Nat.le_of_ble_eq_true rfl⟩) rfl rfl hP hKm hD hS hA rfl hl.1 rfl (Nat.le_of_ble_eq_true rfl) dL_law_1195 ⟨Nat.le_of_ble_eq_true rfl, Nat.le_of_ble_eq_true rfl⟩ (fun r2 w2 H locs hq2 hP hD hS => ?_)
      have heq : r1 = r2 := by
        rcases hq1 with ⟨h, h1, -⟩ | ⟨b', ⟨hb, hb4⟩, h1⟩
        · rcases hq2 with ⟨-, h2, -⟩ | ⟨s', b', ⟨-, hb⟩, ⟨-, hb4⟩, -⟩
          · rw [h1, h2]
          · rcases hb4 with q | q | q | q
            · exact absurd (Or.inl (by rw [hb, q])) h
            · exact absurd (Or.inr (Or.inl (by rw [hb, q]))) h
            · exact absurd (Or.inr (Or.inr (Or.inl (by rw [hb, q])))) h
            · exact absurd (Or.inr (Or.inr (Or.inr (by rw [hb, q])))) h
        · rcases hq2 with ⟨h, -⟩ | ⟨s', b2, ⟨-, hb2⟩, ⟨-, hb42⟩, h2⟩
          · exact absurd ⟨3, b', ⟨e1, hb⟩, by decide, hb4⟩ h
          · have eb : b' = b2 := nI_inj9 (by omega) (by omega) (hb.symm.trans hb2)
            subst eb
            rcases h1 with ⟨z1, h1, -⟩ | ⟨z1, z2, h1, -⟩ | ⟨n, z1, z2, h1, -⟩
            · rcases h2 with ⟨-, h2, -⟩ | ⟨y1, -⟩ | ⟨n2, y1, y2, -⟩
              · rw [h1, h2]
              · exact absurd y1 z1
              · exact absurd (by rw [y1]; exact nI_pos' (by omega)) z1
            · rcases h2 with ⟨y1, -⟩ | ⟨-, -, h2, -⟩ | ⟨n2, y1, y2, -⟩
              · exact absurd z1 y1
              · rw [h1, h2]
              · exact absurd (by rw [y1]; exact nI_le y2 (by decide)) z2
            · rcases h2 with ⟨y1, -⟩ | ⟨-, y1, -⟩ | ⟨n2, y1, y2, h2, -⟩
              · exact absurd (by rw [z1]; exact nI_pos' (by omega)) y1
              · exact absurd (by rw [z1]; exact nI_le z2 (by decide)) y1
              · have en : n = n2 := nI_inj9 (by omega) (by omega) (z1.symm.trans y1)
                subst en
                rw [h1, h2]
      refine W.lcmp hx hb dL_law_1198 ?_
      refine lv_if_eq (tgt := 1374) hx hb dL_law_1199 (by decide) (fun c9 => ?_) (fun c9 => ?_)
      · exact hend _ _ _ _ (by decide) (by decide) hS
      · exact absurd ((lg_cmp_eq _ _).mpr heq) c9
  · have hs0 := hs1
    refine lv_aload_n hx hb dL_law_1160 rfl (lv_at hl 2 rfl) ?_
    refine lv_aload_n hx hb dL_law_1161 rfl (lv_at hl 3 rfl) ?_
    refine lv_iload_n hx hb dL_law_1162 rfl (lv_at hl 0 rfl) ?_
    refine lv_iconst (v := (nI (1))) hx hb dL_law_1163 (by decide) ?_
    refine ln_iadd hx hb dL_law_1164 ?_
    refine va_sld hx hb hX hbl hbA hS (vp_in_nI (show i + 1 < L by omega) (by omega)) dL_law_1165 ?_
    refine ln_eqi (y := xs (i + 1)) (by rw [nI_clamp (by omega)]) ?_
    refine lv_aload_n hx hb dL_law_1166 rfl (lv_at hl 3 rfl) ?_
    refine lv_iload_n hx hb dL_law_1167 rfl (lv_at hl 0 rfl) ?_
    refine lv_iconst (v := (nI (2))) hx hb dL_law_1168 (by decide) ?_
    refine ln_iadd hx hb dL_law_1169 ?_
    refine va_sld hx hb hX hbl hbA hS (vp_in_nI (show i + 2 < L by omega) (by omega)) dL_law_1170 ?_
    refine ln_eqi (y := xs (i + 2)) (by rw [nI_clamp (by omega)]) ?_
    refine lv_aload_n hx hb dL_law_1171 rfl (lv_at hl 3 rfl) ?_
    refine lv_iload_n hx hb dL_law_1172 rfl (lv_at hl 0 rfl) ?_
    refine lv_iconst (v := (nI (3))) hx hb dL_law_1173 (by decide) ?_
    refine ln_iadd hx hb dL_law_1174 ?_
    refine va_sld hx hb hX hbl hbA hS (vp_in_nI (show i + 3 < L by omega) (by omega)) dL_law_1175 ?_
    refine ln_eqi (y := xs (i + 3)) (by rw [nI_clamp (by omega)]) ?_
    have hP := hP.subT (w' := [(d0, .inr (11, [.ref (pA), .int (nI (0)), .ref (mA), .int (nI (0)), .ref (go0), .ref (m0), .ref (fQ), .int (nI (0)), .ref (t0), .ref (g0), .ref (shA), .ref (pq), .long (0)])), (shA, .inl (cy 6, 4, .inr (.inr (.inr (.inr (va_up (va_up (va_up (va_up (fun _ => none) (0) (some (s0))) (1) (some (s1))) (2) (some (s2))) (3) (some (s3))))))))]) [0, 17] rfl
    have hD := hD.subT (w' := [(d0, .inr (11, [.ref (pA), .int (nI (0)), .ref (mA), .int (nI (0)), .ref (go0), .ref (m0), .ref (fQ), .int (nI (0)), .ref (t0), .ref (g0), .ref (shA), .ref (pq), .long (0)])), (shA, .inl (cy 6, 4, .inr (.inr (.inr (.inr (va_up (va_up (va_up (va_up (fun _ => none) (0) (some (s0))) (1) (some (s1))) (2) (some (s2))) (3) (some (s3))))))))]) [0, 17] (by decide) rfl
    refine nq_Vl (As := [.int (xs (i + 1)), .int (xs (i + 2)), .int (xs (i + 3))]) (rest := []) (w := [(d0, .inr (11, [.ref (pA), .int (nI (0)), .ref (mA), .int (nI (0)), .ref (go0), .ref (m0), .ref (fQ), .int (nI (0)), .ref (t0), .ref (g0), .ref (shA), .ref (pq), .long (0)])), (shA, .inl (cy 6, 4, .inr (.inr (.inr (.inr (va_up (va_up (va_up (va_up (fun _ => none) (0) (some (s0))) (1) (some (s1))) (2) (some (s2))) (3) (some (s3))))))))]) (wr := fM cy ad) (ci := 11) (k0 := 0) ⟨hx, hb, hml, hown, htsL⟩ (qX11_sheet_n l D cy d0 pA 0 mA 0 go0 m0 fQ 0 t0 g0 shA pq 0 (va_up (va_up (va_up (va_up (fun _ => none) (0) (some (s0))) (1) (some (s1))) (2) (some (s2))) (3) (some (s3))) (xs (i + 1)) (xs (i + 2)) (xs (i + 3)) hs1) (cwV 3 htsL gL_law_X11_sheet rfl rfl rfl (by decide +kernel) ⟨Nat.le_of_ble_eq_true rfl, Nat.le_of_ble_eq_true rfl⟩) rfl rfl hP hK hD hN hS hA rfl hl.1 rfl (Nat.le_of_ble_eq_true rfl) dL_law_1176 ⟨Nat.le_of_ble_eq_true rfl, Nat.le_of_ble_eq_true rfl⟩ (fun r1 w1 H locs hq1 hP hD hS => ?_)
    have hP := hP.right
    have hD := hD.right
    refine lv_aload_n hx hb dL_law_1179 rfl (lv_at hl 1 rfl) ?_
    refine lv_aload_n hx hb dL_law_1180 rfl (lv_at hl 3 rfl) ?_
    refine lv_iload_n hx hb dL_law_1181 rfl (lv_at hl 0 rfl) ?_
    refine lv_iconst (v := (nI (1))) hx hb dL_law_1182 (by decide) ?_
    refine ln_iadd hx hb dL_law_1183 ?_
    refine va_sld hx hb hX hbl hbA hS (vp_in_nI (show i + 1 < L by omega) (by omega)) dL_law_1184 ?_
    refine ln_eqi (y := xs (i + 1)) (by rw [nI_clamp (by omega)]) ?_
    refine lv_aload_n hx hb dL_law_1185 rfl (lv_at hl 3 rfl) ?_
    refine lv_iload_n hx hb dL_law_1186 rfl (lv_at hl 0 rfl) ?_
    refine lv_iconst (v := (nI (2))) hx hb dL_law_1187 (by decide) ?_
    refine ln_iadd hx hb dL_law_1188 ?_
    refine va_sld hx hb hX hbl hbA hS (vp_in_nI (show i + 2 < L by omega) (by omega)) dL_law_1189 ?_
    refine ln_eqi (y := xs (i + 2)) (by rw [nI_clamp (by omega)]) ?_
    refine lv_aload_n hx hb dL_law_1190 rfl (lv_at hl 3 rfl) ?_
    refine lv_iload_n hx hb dL_law_1191 rfl (lv_at hl 0 rfl) ?_
    refine lv_iconst (v := (nI (3))) hx hb dL_law_1192 (by decide) ?_
    refine ln_iadd hx hb dL_law_1193 ?_
    refine va_sld hx hb hX hbl hbA hS (vp_in_nI (show i + 3 < L by omega) (by omega)) dL_law_1194 ?_
    refine ln_eqi (y := xs (i + 3)) (by rw [nI_clamp (by omega)]) ?_
    refine mq_Vl (As := [.int (xs (i + 1)), .int (xs (i + 2)), .int (xs (i + 3))]) (rest := [.long r1]) (ci := 12) (k0 := 0) ⟨hx, hb, hml, hown, htsL⟩ (cM_sheet l D ad (cy 0) (cy 1) (iniA 64) (fun _ => 0) (fun _ => 0) (fun _ => 0) (fun _ => 0) (fun _ => 1) (fun _ => 0) (fun _ => 0) 0 0 0 0 0 0 0 0 0 0 0 0 0 (fun _ => 0) (fun _ => 0) (fun _ => 0) (xs (i + 1)) (xs (i + 2)) (xs (i + 3)) ) (cwV 3 htsL gL_law_X12_sheet rfl rfl rfl (by decide +kernel) ⟨Nat.le_of_ble_eq_true rfl, Nat.le_of_ble_eq_true rfl⟩) rfl rfl hP hKm hD hS hA rfl hl.1 rfl (Nat.le_of_ble_eq_true rfl) dL_law_1195 ⟨Nat.le_of_ble_eq_true rfl, Nat.le_of_ble_eq_true rfl⟩ (fun r2 w2 H locs hq2 hP hD hS => ?_)
    have heq : r1 = r2 := by
      rcases hq2 with ⟨-, h2, -⟩ | ⟨s', b', ⟨e1, -⟩, ⟨h3, -⟩, -⟩
      · rw [hq1.1, h2]
      · exact absurd (by rw [e1]; exact ix_nI (by omega) (by decide)) hs1
    refine W.lcmp hx hb dL_law_1198 ?_
    refine lv_if_eq (tgt := 1374) hx hb dL_law_1199 (by decide) (fun c9 => ?_) (fun c9 => ?_)
    · exact hend _ _ _ _ (by decide) (by decide) hS
    · exact absurd ((lg_cmp_eq _ _).mpr heq) c9
