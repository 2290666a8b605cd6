set_option maxHeartbeats 4000000 in
set_option maxRecDepth 100000 in
theorem law_25 (l : Launch) {p : Program} {e : Env} {s : State} {m : MethodId} {below : List Frame} {meth : Method} {c : Code} {b L : Nat} {xs : Nat → Int32} (C0 : lw_At p s m meth c b L xs) {D : va_G} {cy : Nat → ClassId} (hK : va_K D vwCl (cT cy) s) (hN : nst s) {i : Nat} (hi : i + 7 ≤ L) (hL : L ≤ 3584) {d0 pA mA go0 ga0 gb0 gc0 m0 sA rA fQ t0 up lo g0 ga ho shA pq sA0 s0 z0 s1 z1 s2 z2 s3 z3 : Nat} {sa ra ad : Nat → Nat} {H : Heap} {locs : List Loc} {ls : Array Slot} (hP : va_P D vwCl (fC cy d0 pA mA go0 ga0 gb0 gc0 m0 sA rA fQ t0 up lo g0 ga ho shA pq sA0 s0 z0 s1 z1 s2 z2 s3 z3 sa ra ++ fM cy ad) H) (hD : va_D (fun q : Nat => s.heap.size ≤ q) (fC cy d0 pA mA go0 ga0 gb0 gc0 m0 sA rA fQ t0 up lo g0 ga ho shA pq sA0 s0 z0 s1 z1 s2 z2 s3 z3 sa ra ++ fM cy ad)) (hS : va_S (fun q : Nat => s.heap.size ≤ q) s.heap H locs) (hl : lv_has ls 4 [(3, .int (nI i)), (2, .ref (ad 0)), (1, .ref d0), (0, .ref b)]) (hend : ∀ (H : Heap) (locs : List Loc) (cs sl : Nat), cs ≤ 1000 → sl ≤ 20000 → va_S (fun q : Nat => s.heap.size ≤ q) s.heap H locs → W p l e room_1 s m #[Value.ref b] below meth c H locs cs sl (lw_Z below #[Value.ref b] s) (F0 m 1374 ls [])) : W p l e room_1 s m #[Value.ref b] below meth c H locs 100 15000 (lw_Z below #[Value.ref b] s) (F0 m 1204 ls []) := by
  obtain ⟨hx, hb, hr, hml, hown, hts, hX, hbl, hlocks, hgv⟩ := C0
  have htsL : ∀ w ∈ wsL_law, w.before #[Value.ref b] s = true := fun w h => hts w (wsL_law_in w h)
  have hown : s.vm.findClass RL = some m.cls := hown
  have hA : ∀ q : Nat, s.heap.size ≤ q → (fun q : Nat => s.heap.size ≤ q) q := fun _ h => h
  have hbA : ¬ (fun q : Nat => s.heap.size ≤ q) b := Nat.not_le.mpr hbl
  have hKm : va_K D vwCl (mT (cy 0) (cy 1)) s := hK.sub [0, 1] rfl
  by_cases hs1 : ix 4 (xs (i + 1))
  · obtain ⟨k, hk, e1⟩ := ix_of9 hs1 (by decide)
    rcases (show k = 0 ∨ k = 1 ∨ k = 2 ∨ k = 3 by omega) with rfl | rfl | rfl | rfl
    · have hs0 := hs1
      refine lv_aload_n hx hb dL_law_1204 rfl (lv_at hl 2 rfl) ?_
      refine lv_aload_n hx hb dL_law_1205 rfl (lv_at hl 3 rfl) ?_
      refine lv_iload_n hx hb dL_law_1206 rfl (lv_at hl 0 rfl) ?_
      refine lv_iconst (v := (nI (1))) hx hb dL_law_1207 (by decide) ?_
      refine ln_iadd hx hb dL_law_1208 ?_
      refine va_sld hx hb hX hbl hbA hS (vp_in_nI (show i + 1 < L by omega) (by omega)) dL_law_1209 ?_
      refine ln_eqi (y := xs (i + 1)) (by rw [nI_clamp (by omega)]) ?_
      refine ln_eqi (y := (nI (0))) e1 ?_
      refine lv_aload_n hx hb dL_law_1210 rfl (lv_at hl 3 rfl) ?_
      refine lv_iload_n hx hb dL_law_1211 rfl (lv_at hl 0 rfl) ?_
      refine lv_iconst (v := (nI (2))) hx hb dL_law_1212 (by decide) ?_
      refine ln_iadd hx hb dL_law_1213 ?_
      refine va_sld hx hb hX hbl hbA hS (vp_in_nI (show i + 2 < L by omega) (by omega)) dL_law_1214 ?_
      refine ln_eqi (y := xs (i + 2)) (by rw [nI_clamp (by omega)]) ?_
      refine lv_aload_n hx hb dL_law_1215 rfl (lv_at hl 3 rfl) ?_
      refine lv_iload_n hx hb dL_law_1216 rfl (lv_at hl 0 rfl) ?_
      refine lv_iconst (v := (nI (3))) hx hb dL_law_1217 (by decide) ?_
      refine ln_iadd hx hb dL_law_1218 ?_
      refine va_sld hx hb hX hbl hbA hS (vp_in_nI (show i + 3 < L by omega) (by omega)) dL_law_1219 ?_
      refine ln_eqi (y := xs (i + 3)) (by rw [nI_clamp (by omega)]) ?_
      have hP := hP.subT (w' := [(d0, .inr (11, [.ref (pA), .int (nI (0)), .ref (mA), .int (nI (0)), .ref (go0), .ref (m0), .ref (fQ), .int (nI (0)), .ref (t0), .ref (g0), .ref (shA), .ref (pq), .long (0)])), (shA, .inl (cy 6, 4, .inr (.inr (.inr (.inr (va_up (va_up (va_up (va_up (fun _ => none) (0) (some (s0))) (1) (some (s1))) (2) (some (s2))) (3) (some (s3)))))))), (s0, .inr (8, [.ref (z0), .int (nI (0)), .int (nI (0))])), (z0, .inl (cy 0, 16, .inl (fun _ => 0)))]) [0, 17, 20, 21] rfl
      have hD := hD.subT (w' := [(d0, .inr (11, [.ref (pA), .int (nI (0)), .ref (mA), .int (nI (0)), .ref (go0), .ref (m0), .ref (fQ), .int (nI (0)), .ref (t0), .ref (g0), .ref (shA), .ref (pq), .long (0)])), (shA, .inl (cy 6, 4, .inr (.inr (.inr (.inr (va_up (va_up (va_up (va_up (fun _ => none) (0) (some (s0))) (1) (some (s1))) (2) (some (s2))) (3) (some (s3)))))))), (s0, .inr (8, [.ref (z0), .int (nI (0)), .int (nI (0))])), (z0, .inl (cy 0, 16, .inl (fun _ => 0)))]) [0, 17, 20, 21] (by decide) rfl
      refine nq_Vl (As := [.int (nI (0)), .int (xs (i + 2)), .int (xs (i + 3))]) (rest := []) (w := [(d0, .inr (11, [.ref (pA), .int (nI (0)), .ref (mA), .int (nI (0)), .ref (go0), .ref (m0), .ref (fQ), .int (nI (0)), .ref (t0), .ref (g0), .ref (shA), .ref (pq), .long (0)])), (shA, .inl (cy 6, 4, .inr (.inr (.inr (.inr (va_up (va_up (va_up (va_up (fun _ => none) (0) (some (s0))) (1) (some (s1))) (2) (some (s2))) (3) (some (s3)))))))), (s0, .inr (8, [.ref (z0), .int (nI (0)), .int (nI (0))])), (z0, .inl (cy 0, 16, .inl (fun _ => 0)))]) (wr := fM cy ad) (ci := 11) (k0 := 0) ⟨hx, hb, hml, hown, htsL⟩ (qX11_put_m l D cy d0 pA 0 mA 0 go0 m0 fQ 0 t0 g0 shA pq 0 (va_up (va_up (va_up (va_up (fun _ => none) (0) (some (s0))) (1) (some (s1))) (2) (some (s2))) (3) (some (s3))) s0 z0 0 0 (fun _ => 0) (0) (xs (i + 2)) (xs (i + 3)) (by decide) rfl rfl) (cwV 3 htsL gL_law_X11_put rfl rfl rfl (by decide +kernel) ⟨Nat.le_of_ble_eq_true rfl, Nat.le_of_ble_eq_true rfl⟩) rfl rfl hP hK hD hN hS hA rfl hl.1 rfl (Nat.le_of_ble_eq_true rfl) dL_law_1220 ⟨Nat.le_of_ble_eq_true rfl, Nat.le_of_ble_eq_true rfl⟩ (fun r1 w1 H locs hq1 hP hD hS => ?_)
      have hP := hP.right
      have hD := hD.right
      refine lv_aload_n hx hb dL_law_1223 rfl (lv_at hl 1 rfl) ?_
      refine lv_aload_n hx hb dL_law_1224 rfl (lv_at hl 3 rfl) ?_
      refine lv_iload_n hx hb dL_law_1225 rfl (lv_at hl 0 rfl) ?_
      refine lv_iconst (v := (nI (1))) hx hb dL_law_1226 (by decide) ?_
      refine ln_iadd hx hb dL_law_1227 ?_
      refine va_sld hx hb hX hbl hbA hS (vp_in_nI (show i + 1 < L by omega) (by omega)) dL_law_1228 ?_
      refine ln_eqi (y := xs (i + 1)) (by rw [nI_clamp (by omega)]) ?_
      refine lv_aload_n hx hb dL_law_1229 rfl (lv_at hl 3 rfl) ?_
      refine lv_iload_n hx hb dL_law_1230 rfl (lv_at hl 0 rfl) ?_
      refine lv_iconst (v := (nI (2))) hx hb dL_law_1231 (by decide) ?_
      refine ln_iadd hx hb dL_law_1232 ?_
      refine va_sld hx hb hX hbl hbA hS (vp_in_nI (show i + 2 < L by omega) (by omega)) dL_law_1233 ?_
      refine ln_eqi (y := xs (i + 2)) (by rw [nI_clamp (by omega)]) ?_
      refine lv_aload_n hx hb dL_law_1234 rfl (lv_at hl 3 rfl) ?_
      refine lv_iload_n hx hb dL_law_1235 rfl (lv_at hl 0 rfl) ?_
      refine lv_iconst (v := (nI (3))) hx hb dL_law_1236 (by decide) ?_
      refine ln_iadd hx hb dL_law_1237 ?_
      refine va_sld hx hb hX hbl hbA hS (vp_in_nI (show i + 3 < L by omega) (by omega)) dL_law_1238 ?_
      refine ln_eqi (y := xs (i + 3)) (by rw [nI_clamp (by omega)]) ?_
      refine mq_Vl (As := [.int (xs (i + 1)), .int (xs (i + 2)), .int (xs (i + 3))]) (rest := [.long r1]) (ci := 12) (k0 := 0) ⟨hx, hb, hml, hown, htsL⟩ (cM_put l D ad (cy 0) (cy 1) (iniA 64) (fun _ => 0) (fun _ => 0) (fun _ => 0) (fun _ => 0) (fun _ => 1) (fun _ => 0) (fun _ => 0) 0 0 0 0 0 0 0 0 0 0 0 0 0 (fun _ => 0) (fun _ => 0) (fun _ => 0) (xs (i + 1)) (xs (i + 2)) (xs (i + 3)) (fun _ _ => by decide) (fun _ _ => Or.inl rfl)) (cwV 3 htsL gL_law_X12_put rfl rfl rfl (by decide +kernel) ⟨Nat.le_of_ble_eq_true rfl, Nat.le_of_ble_eq_true rfl⟩) rfl rfl hP hKm hD hS hA rfl hl.1 rfl (Nat.le_of_ble_eq_true rfl) dL_law_1239 ⟨Nat.le_of_ble_eq_true rfl, Nat.le_of_ble_eq_true rfl⟩ (fun r2 w2 H locs hq2 hP hD hS => ?_)
      have heq : r1 = r2 := by
        rcases hq2 with ⟨h, -⟩ | ⟨s', -, h2⟩
        · exact absurd (ix_rg hs1) h
        · rcases h2 with ⟨-, h2, -⟩ | ⟨h3, -⟩ | ⟨h3, -⟩
          · rw [hq1.1, h2]
          · exact absurd h3 (Nat.lt_irrefl 0)
          · exact absurd h3 (Nat.lt_irrefl 0)
      refine W.lcmp hx hb dL_law_1242 ?_
      refine lv_if_eq (tgt := 1374) hx hb dL_law_1243 (by decide) (fun c9 => ?_) (fun c9 => ?_)
      · exact hend _ _ _ _ (by decide) (by decide) hS
      · exact absurd ((lg_cmp_eq _ _).mpr heq) c9
    · have hs0 := hs1
      refine lv_aload_n hx hb dL_law_1204 rfl (lv_at hl 2 rfl) ?_
      refine lv_aload_n hx hb dL_law_1205 rfl (lv_at hl 3 rfl) ?_
      refine lv_iload_n hx hb dL_law_1206 rfl (lv_at hl 0 rfl) ?_
      refine lv_iconst (v := (nI (1))) hx hb dL_law_1207 (by decide) ?_
      refine ln_iadd hx hb dL_law_1208 ?_
      refine va_sld hx hb hX hbl hbA hS (vp_in_nI (show i + 1 < L by omega) (by omega)) dL_law_1209 ?_
      refine ln_eqi (y := xs (i + 1)) (by rw [nI_clamp (by omega)]) ?_
      refine ln_eqi (y := (nI (1))) e1 ?_
      refine lv_aload_n hx hb dL_law_1210 rfl (lv_at hl 3 rfl) ?_
      refine lv_iload_n hx hb dL_law_1211 rfl (lv_at hl 0 rfl) ?_
      refine lv_iconst (v := (nI (2))) hx hb dL_law_1212 (by decide) ?_
      refine ln_iadd hx hb dL_law_1213 ?_
      refine va_sld hx hb hX hbl hbA hS (vp_in_nI (show i + 2 < L by omega) (by omega)) dL_law_1214 ?_
      refine ln_eqi (y := xs (i + 2)) (by rw [nI_clamp (by omega)]) ?_
      refine lv_aload_n hx hb dL_law_1215 rfl (lv_at hl 3 rfl) ?_
      refine lv_iload_n hx hb dL_law_1216 rfl (lv_at hl 0 rfl) ?_
      refine lv_iconst (v := (nI (3))) hx hb dL_law_1217 (by decide) ?_
      refine ln_iadd hx hb dL_law_1218 ?_
      refine va_sld hx hb hX hbl hbA hS (vp_in_nI (show i + 3 < L by omega) (by omega)) dL_law_1219 ?_
      refine ln_eqi (y := xs (i + 3)) (by rw [nI_clamp (by omega)]) ?_
      have hP := hP.subT (w' := [(d0, .inr (11, [.ref (pA), .int (nI (0)), .ref (mA), .int (nI (0)), .ref (go0), .ref (m0), .ref (fQ), .int (nI (0)), .ref (t0), .ref (g0), .ref (shA), .ref (pq), .long (0)])), (shA, .inl (cy 6, 4, .inr (.inr (.inr (.inr (va_up (va_up (va_up (va_up (fun _ => none) (0) (some (s0))) (1) (some (s1))) (2) (some (s2))) (3) (some (s3)))))))), (s1, .inr (8, [.ref (z1), .int (nI (0)), .int (nI (0))])), (z1, .inl (cy 0, 16, .inl (fun _ => 0)))]) [0, 17, 22, 23] rfl
      have hD := hD.subT (w' := [(d0, .inr (11, [.ref (pA), .int (nI (0)), .ref (mA), .int (nI (0)), .ref (go0), .ref (m0), .ref (fQ), .int (nI (0)), .ref (t0), .ref (g0), .ref (shA), .ref (pq), .long (0)])), (shA, .inl (cy 6, 4, .inr (.inr (.inr (.inr (va_up (va_up (va_up (va_up (fun _ => none) (0) (some (s0))) (1) (some (s1))) (2) (some (s2))) (3) (some (s3)))))))), (s1, .inr (8, [.ref (z1), .int (nI (0)), .int (nI (0))])), (z1, .inl (cy 0, 16, .inl (fun _ => 0)))]) [0, 17, 22, 23] (by decide) rfl
      refine nq_Vl (As := [.int (nI (1)), .int (xs (i + 2)), .int (xs (i + 3))]) (rest := []) (w := [(d0, .inr (11, [.ref (pA), .int (nI (0)), .ref (mA), .int (nI (0)), .ref (go0), .ref (m0), .ref (fQ), .int (nI (0)), .ref (t0), .ref (g0), .ref (shA), .ref (pq), .long (0)])), (shA, .inl (cy 6, 4, .inr (.inr (.inr (.inr (va_up (va_up (va_up (va_up (fun _ => none) (0) (some (s0))) (1) (some (s1))) (2) (some (s2))) (3) (some (s3)))))))), (s1, .inr (8, [.ref (z1), .int (nI (0)), .int (nI (0))])), (z1, .inl (cy 0, 16, .inl (fun _ => 0)))]) (wr := fM cy ad) (ci := 11) (k0 := 0) ⟨hx, hb, hml, hown, htsL⟩ (qX11_put_m l D cy d0 pA 0 mA 0 go0 m0 fQ 0 t0 g0 shA pq 0 (va_up (va_up (va_up (va_up (fun _ => none) (0) (some (s0))) (1) (some (s1))) (2) (some (s2))) (3) (some (s3))) s1 z1 0 0 (fun _ => 0) (1) (xs (i + 2)) (xs (i + 3)) (by decide) rfl rfl) (cwV 3 htsL gL_law_X11_put rfl rfl rfl (by decide +kernel) ⟨Nat.le_of_ble_eq_true rfl, Nat.le_of_ble_eq_true rfl⟩) rfl rfl hP hK hD hN hS hA rfl hl.1 rfl (Nat.le_of_ble_eq_true rfl) dL_law_1220 ⟨Nat.le_of_ble_eq_true rfl, Nat.le_of_ble_eq_true rfl⟩ (fun r1 w1 H locs hq1 hP hD hS => ?_)
      have hP := hP.right
      have hD := hD.right
      refine lv_aload_n hx hb dL_law_1223 rfl (lv_at hl 1 rfl) ?_
      refine lv_aload_n hx hb dL_law_1224 rfl (lv_at hl 3 rfl) ?_
      refine lv_iload_n hx hb dL_law_1225 rfl (lv_at hl 0 rfl) ?_
      refine lv_iconst (v := (nI (1))) hx hb dL_law_1226 (by decide) ?_
      refine ln_iadd hx hb dL_law_1227 ?_
      refine va_sld hx hb hX hbl hbA hS (vp_in_nI (show i + 1 < L by omega) (by omega)) dL_law_1228 ?_
      refine ln_eqi (y := xs (i + 1)) (by rw [nI_clamp (by omega)]) ?_
      refine lv_aload_n hx hb dL_law_1229 rfl (lv_at hl 3 rfl) ?_
      refine lv_iload_n hx hb dL_law_1230 rfl (lv_at hl 0 rfl) ?_
      refine lv_iconst (v := (nI (2))) hx hb dL_law_1231 (by decide) ?_
      refine ln_iadd hx hb dL_law_1232 ?_
      refine va_sld hx hb hX hbl hbA hS (vp_in_nI (show i + 2 < L by omega) (by omega)) dL_law_1233 ?_
      refine ln_eqi (y := xs (i + 2)) (by rw [nI_clamp (by omega)]) ?_
      refine lv_aload_n hx hb dL_law_1234 rfl (lv_at hl 3 rfl) ?_
      refine lv_iload_n hx hb dL_law_1235 rfl (lv_at hl 0 rfl) ?_
      refine lv_iconst (v := (nI (3))) hx hb dL_law_1236 (by decide) ?_
      refine ln_iadd hx hb dL_law_1237 ?_
      refine va_sld hx hb hX hbl hbA hS (vp_in_nI (show i + 3 < L by omega) (by omega)) dL_law_1238 ?_
      refine ln_eqi (y := xs (i + 3)) (by rw [nI_clamp (by omega)]) ?_
      refine mq_Vl (As := [.int (xs (i + 1)), .int (xs (i + 2)), .int (xs (i + 3))]) (rest := [.long r1]) (ci := 12) (k0 := 0) ⟨hx, hb, hml, hown, htsL⟩ (cM_put l D ad (cy 0) (cy 1) (iniA 64) (fun _ => 0) (fun _ => 0) (fun _ => 0) (fun _ => 0) (fun _ => 1) (fun _ => 0) (fun _ => 0) 0 0 0 0 0 0 0 0 0 0 0 0 0 (fun _ => 0) (fun _ => 0) (fun _ => 0) (xs (i + 1)) (xs (i + 2)) (xs (i + 3)) (fun _ _ => by decide) (fun _ _ => Or.inl rfl)) (cwV 3 htsL gL_law_X12_put rfl rfl rfl (by decide +kernel) ⟨Nat.le_of_ble_eq_true rfl, Nat.le_of_ble_eq_true rfl⟩) rfl rfl hP hKm hD hS hA rfl hl.1 rfl (Nat.le_of_ble_eq_true rfl) dL_law_1239 ⟨Nat.le_of_ble_eq_true rfl, Nat.le_of_ble_eq_true rfl⟩ (fun r2 w2 H locs hq2 hP hD hS => ?_)
      have heq : r1 = r2 := by
        rcases hq2 with ⟨h, -⟩ | ⟨s', -, h2⟩
        · exact absurd (ix_rg hs1) h
        · rcases h2 with ⟨-, h2, -⟩ | ⟨h3, -⟩ | ⟨h3, -⟩
          · rw [hq1.1, h2]
          · exact absurd h3 (Nat.lt_irrefl 0)
          · exact absurd h3 (Nat.lt_irrefl 0)
      refine W.lcmp hx hb dL_law_1242 ?_
      refine lv_if_eq (tgt := 1374) hx hb dL_law_1243 (by decide) (fun c9 => ?_) (fun c9 => ?_)
      · exact hend _ _ _ _ (by decide) (by decide) hS
      · exact absurd ((lg_cmp_eq _ _).mpr heq) c9
    · have hs0 := hs1
      refine lv_aload_n hx hb dL_law_1204 rfl (lv_at hl 2 rfl) ?_
      refine lv_aload_n hx hb dL_law_1205 rfl (lv_at hl 3 rfl) ?_
      refine lv_iload_n hx hb dL_law_1206 rfl (lv_at hl 0 rfl) ?_
      refine lv_iconst (v := (nI (1))) hx hb dL_law_1207 (by decide) ?_
      refine ln_iadd hx hb dL_law_1208 ?_
      refine va_sld hx hb hX hbl hbA hS (vp_in_nI (show i + 1 < L by omega) (by omega)) dL_law_1209 ?_
      refine ln_eqi (y := xs (i + 1)) (by rw [nI_clamp (by omega)]) ?_
      refine ln_eqi (y := (nI (2))) e1 ?_
      refine lv_aload_n hx hb dL_law_1210 rfl (lv_at hl 3 rfl) ?_
      refine lv_iload_n hx hb dL_law_1211 rfl (lv_at hl 0 rfl) ?_
      refine lv_iconst (v := (nI (2))) hx hb dL_law_1212 (by decide) ?_
      refine ln_iadd hx hb dL_law_1213 ?_
      refine va_sld hx hb hX hbl hbA hS (vp_in_nI (show i + 2 < L by omega) (by omega)) dL_law_1214 ?_
      refine ln_eqi (y := xs (i + 2)) (by rw [nI_clamp (by omega)]) ?_
      refine lv_aload_n hx hb dL_law_1215 rfl (lv_at hl 3 rfl) ?_
      refine lv_iload_n hx hb dL_law_1216 rfl (lv_at hl 0 rfl) ?_
      refine lv_iconst (v := (nI (3))) hx hb dL_law_1217 (by decide) ?_
      refine ln_iadd hx hb dL_law_1218 ?_
      refine va_sld hx hb hX hbl hbA hS (vp_in_nI (show i + 3 < L by omega) (by omega)) dL_law_1219 ?_
      refine ln_eqi (y := xs (i + 3)) (by rw [nI_clamp (by omega)]) ?_
      have hP := hP.subT (w' := [(d0, .inr (11, [.ref (pA), .int (nI (0)), .ref (mA), .int (nI (0)), .ref (go0), .ref (m0), .ref (fQ), .int (nI (0)), .ref (t0), .ref (g0), .ref (shA), .ref (pq), .long (0)])), (shA, .inl (cy 6, 4, .inr (.inr (.inr (.inr (va_up (va_up (va_up (va_up (fun _ => none) (0) (some (s0))) (1) (some (s1))) (2) (some (s2))) (3) (some (s3)))))))), (s2, .inr (8, [.ref (z2), .int (nI (0)), .int (nI (0))])), (z2, .inl (cy 0, 16, .inl (fun _ => 0)))]) [0, 17, 24, 25] rfl
      have hD := hD.subT (w' := [(d0, .inr (11, [.ref (pA), .int (nI (0)), .ref (mA), .int (nI (0)), .ref (go0), .ref (m0), .ref (fQ), .int (nI (0)), .ref (t0), .ref (g0), .ref (shA), .ref (pq), .long (0)])), (shA, .inl (cy 6, 4, .inr (.inr (.inr (.inr (va_up (va_up (va_up (va_up (fun _ => none) (0) (some (s0))) (1) (some (s1))) (2) (some (s2))) (3) (some (s3)))))))), (s2, .inr (8, [.ref (z2), .int (nI (0)), .int (nI (0))])), (z2, .inl (cy 0, 16, .inl (fun _ => 0)))]) [0, 17, 24, 25] (by decide) rfl
      refine nq_Vl (As := [.int (nI (2)), .int (xs (i + 2)), .int (xs (i + 3))]) (rest := []) (w := [(d0, .inr (11, [.ref (pA), .int (nI (0)), .ref (mA), .int (nI (0)), .ref (go0), .ref (m0), .ref (fQ), .int (nI (0)), .ref (t0), .ref (g0), .ref (shA), .ref (pq), .long (0)])), (shA, .inl (cy 6, 4, .inr (.inr (.inr (.inr (va_up (va_up (va_up (va_up (fun _ => none) (0) (some (s0))) (1) (some (s1))) (2) (some (s2))) (3) (some (s3)))))))), (s2, .inr (8, [.ref (z2), .int (nI (0)), .int (nI (0))])), (z2, .inl (cy 0, 16, .inl (fun _ => 0)))]) (wr := fM cy ad) (ci := 11) (k0 := 0) ⟨hx, hb, hml, hown, htsL⟩ (qX11_put_m l D cy d0 pA 0 mA 0 go0 m0 fQ 0 t0 g0 shA pq 0 (va_up (va_up (va_up (va_up (fun _ => none) (0) (some (s0))) (1) (some (s1))) (2) (some (s2))) (3) (some (s3))) s2 z2 0 0 (fun _ => 0) (2) (xs (i + 2)) (xs (i + 3)) (by decide) rfl rfl) (cwV 3 htsL gL_law_X11_put rfl rfl rfl (by decide +kernel) ⟨Nat.le_of_ble_eq_true rfl, Nat.le_of_ble_eq_true rfl⟩) rfl rfl hP hK hD hN hS hA rfl hl.1 rfl (Nat.le_of_ble_eq_true rfl) dL_law_1220 ⟨Nat.le_of_ble_eq_true rfl, Nat.le_of_ble_eq_true rfl⟩ (fun r1 w1 H locs hq1 hP hD hS => ?_)
      have hP := hP.right
      have hD := hD.right
      refine lv_aload_n hx hb dL_law_1223 rfl (lv_at hl 1 rfl) ?_
      refine lv_aload_n hx hb dL_law_1224 rfl (lv_at hl 3 rfl) ?_
      refine lv_iload_n hx hb dL_law_1225 rfl (lv_at hl 0 rfl) ?_
      refine lv_iconst (v := (nI (1))) hx hb dL_law_1226 (by decide) ?_
      refine ln_iadd hx hb dL_law_1227 ?_
      refine va_sld hx hb hX hbl hbA hS (vp_in_nI (show i + 1 < L by omega) (by omega)) dL_law_1228 ?_
      refine ln_eqi (y := xs (i + 1)) (by rw [nI_clamp (by omega)]) ?_
      refine lv_aload_n hx hb dL_law_1229 rfl (lv_at hl 3 rfl) ?_
      refine lv_iload_n hx hb dL_law_1230 rfl (lv_at hl 0 rfl) ?_
      refine lv_iconst (v := (nI (2))) hx hb dL_law_1231 (by decide) ?_
      refine ln_iadd hx hb dL_law_1232 ?_
      refine va_sld hx hb hX hbl hbA hS (vp_in_nI (show i + 2 < L by omega) (by omega)) dL_law_1233 ?_
      refine ln_eqi (y := xs (i + 2)) (by rw [nI_clamp (by omega)]) ?_
      refine lv_aload_n hx hb dL_law_1234 rfl (lv_at hl 3 rfl) ?_
      refine lv_iload_n hx hb dL_law_1235 rfl (lv_at hl 0 rfl) ?_
      refine lv_iconst (v := (nI (3))) hx hb dL_law_1236 (by decide) ?_
      refine ln_iadd hx hb dL_law_1237 ?_
      refine va_sld hx hb hX hbl hbA hS (vp_in_nI (show i + 3 < L by omega) (by omega)) dL_law_1238 ?_
      refine ln_eqi (y := xs (i + 3)) (by rw [nI_clamp (by omega)]) ?_
      refine mq_Vl (As := [.int (xs (i + 1)), .int (xs (i + 2)), .int (xs (i + 3))]) (rest := [.long r1]) (ci := 12) (k0 := 0) ⟨hx, hb, hml, hown, htsL⟩ (cM_put l D ad (cy 0) (cy 1) (iniA 64) (fun _ => 0) (fun _ => 0) (fun _ => 0) (fun _ => 0) (fun _ => 1) (fun _ => 0) (fun _ => 0) 0 0 0 0 0 0 0 0 0 0 0 0 0 (fun _ => 0) (fun _ => 0) (fun _ => 0) (xs (i + 1)) (xs (i + 2)) (xs (i + 3)) (fun _ _ => by decide) (fun _ _ => Or.inl rfl)) (cwV 3 htsL gL_law_X12_put rfl rfl rfl (by decide +kernel) ⟨Nat.le_of_ble_eq_true rfl, Nat.le_of_ble_eq_true rfl⟩) rfl rfl hP hKm hD hS hA rfl hl.1 rfl (Nat.le_of_ble_eq_true rfl) dL_law_1239 ⟨Nat.le_of_ble_eq_true rfl, Nat.le_of_ble_eq_true rfl⟩ (fun r2 w2 H locs hq2 hP hD hS => ?_)
      have heq : r1 = r2 := by
        rcases hq2 with ⟨h, -⟩ | ⟨s', -, h2⟩
        · exact absurd (ix_rg hs1) h
        · rcases h2 with ⟨-, h2, -⟩ | ⟨h3, -⟩ | ⟨h3, -⟩
          · rw [hq1.1, h2]
          · exact absurd h3 (Nat.lt_irrefl 0)
          · exact absurd h3 (Nat.lt_irrefl 0)
      refine W.lcmp hx hb dL_law_1242 ?_
      refine lv_if_eq (tgt := 1374) hx hb dL_law_1243 (by decide) (fun c9 => ?_) (fun c9 => ?_)
      · exact hend _ _ _ _ (by decide) (by decide) hS
      · exact absurd ((lg_cmp_eq _ _).mpr heq) c9
    · have hs0 := hs1
      refine lv_aload_n hx hb dL_law_1204 rfl (lv_at hl 2 rfl) ?_
      refine lv_aload_n hx hb dL_law_1205 rfl (lv_at hl 3 rfl) ?_
      refine lv_iload_n hx hb dL_law_1206 rfl (lv_at hl 0 rfl) ?_
      refine lv_iconst (v := (nI (1))) hx hb dL_law_1207 (by decide) ?_
      refine ln_iadd hx hb dL_law_1208 ?_
      refine va_sld hx hb hX hbl hbA hS (vp_in_nI (show i + 1 < L by omega) (by omega)) dL_law_1209 ?_
      refine ln_eqi (y := xs (i + 1)) (by rw [nI_clamp (by omega)]) ?_
      refine ln_eqi (y := (nI (3))) e1 ?_
      refine lv_aload_n hx hb dL_law_1210 rfl (lv_at hl 3 rfl) ?_
      refine lv_iload_n hx hb dL_law_1211 rfl (lv_at hl 0 rfl) ?_
      refine lv_iconst (v := (nI (2))) hx hb dL_law_1212 (by decide) ?_
      refine ln_iadd hx hb dL_law_1213 ?_
      refine va_sld hx hb hX hbl hbA hS (vp_in_nI (show i + 2 < L by omega) (by omega)) dL_law_1214 ?_
      refine ln_eqi (y := xs (i + 2)) (by rw [nI_clamp (by omega)]) ?_
      refine lv_aload_n hx hb dL_law_1215 rfl (lv_at hl 3 rfl) ?_
      refine lv_iload_n hx hb dL_law_1216 rfl (lv_at hl 0 rfl) ?_
      refine lv_iconst (v := (nI (3))) hx hb dL_law_1217 (by decide) ?_
      refine ln_iadd hx hb dL_law_1218 ?_
      refine va_sld hx hb hX hbl hbA hS (vp_in_nI (show i + 3 < L by omega) (by omega)) dL_law_1219 ?_
      refine ln_eqi (y := xs (i + 3)) (by rw [nI_clamp (by omega)]) ?_
      have hP := hP.subT (w' := [(d0, .inr (11, [.ref (pA), .int (nI (0)), .ref (mA), .int (nI (0)), .ref (go0), .ref (m0), .ref (fQ), .int (nI (0)), .ref (t0), .ref (g0), .ref (shA), .ref (pq), .long (0)])), (shA, .inl (cy 6, 4, .inr (.inr (.inr (.inr (va_up (va_up (va_up (va_up (fun _ => none) (0) (some (s0))) (1) (some (s1))) (2) (some (s2))) (3) (some (s3)))))))), (s3, .inr (8, [.ref (z3), .int (nI (0)), .int (nI (0))])), (z3, .inl (cy 0, 16, .inl (fun _ => 0)))]) [0, 17, 26, 27] rfl
      have hD := hD.subT (w' := [(d0, .inr (11, [.ref (pA), .int (nI (0)), .ref (mA), .int (nI (0)), .ref (go0), .ref (m0), .ref (fQ), .int (nI (0)), .ref (t0), .ref (g0), .ref (shA), .ref (pq), .long (0)])), (shA, .inl (cy 6, 4, .inr (.inr (.inr (.inr (va_up (va_up (va_up (va_up (fun _ => none) (0) (some (s0))) (1) (some (s1))) (2) (some (s2))) (3) (some (s3)))))))), (s3, .inr (8, [.ref (z3), .int (nI (0)), .int (nI (0))])), (z3, .inl (cy 0, 16, .inl (fun _ => 0)))]) [0, 17, 26, 27] (by decide) rfl
      refine nq_Vl (As := [.int (nI (3)), .int (xs (i + 2)), .int (xs (i + 3))]) (rest := []) (w := [(d0, .inr (11, [.ref (pA), .int (nI (0)), .ref (mA), .int (nI (0)), .ref (go0), .ref (m0), .ref (fQ), .int (nI (0)), .ref (t0), .ref (g0), .ref (shA), .ref (pq), .long (0)])), (shA, .inl (cy 6, 4, .inr (.inr (.inr (.inr (va_up (va_up (va_up (va_up (fun _ => none) (0) (some (s0))) (1) (some (s1))) (2) (some (s2))) (3) (some (s3)))))))), (s3, .inr (8, [.ref (z3), .int (nI (0)), .int (nI (0))])), (z3, .inl (cy 0, 16, .inl (fun _ => 0)))]) (wr := fM cy ad) (ci := 11) (k0 := 0) ⟨hx, hb, hml, hown, htsL⟩ (qX11_put_m l D cy d0 pA 0 mA 0 go0 m0 fQ 0 t0 g0 shA pq 0 (va_up (va_up (va_up (va_up (fun _ => none) (0) (some (s0))) (1) (some (s1))) (2) (some (s2))) (3) (some (s3))) s3 z3 0 0 (fun _ => 0) (3) (xs (i + 2)) (xs (i + 3)) (by decide) rfl rfl) (cwV 3 htsL gL_law_X11_put rfl rfl rfl (by decide +kernel) ⟨Nat.le_of_ble_eq_true rfl, Nat.le_of_ble_eq_true rfl⟩) rfl rfl hP hK hD hN hS hA rfl hl.1 rfl (Nat.le_of_ble_eq_true rfl) dL_law_1220 ⟨Nat.le_of_ble_eq_true rfl, Nat.le_of_ble_eq_true rfl⟩ (fun r1 w1 H locs hq1 hP hD hS => ?_)
      have hP := hP.right
      have hD := hD.right
      refine lv_aload_n hx hb dL_law_1223 rfl (lv_at hl 1 rfl) ?_
      refine lv_aload_n hx hb dL_law_1224 rfl (lv_at hl 3 rfl) ?_
      refine lv_iload_n hx hb dL_law_1225 rfl (lv_at hl 0 rfl) ?_
      refine lv_iconst (v := (nI (1))) hx hb dL_law_1226 (by decide) ?_
      refine ln_iadd hx hb dL_law_1227 ?_
      refine va_sld hx hb hX hbl hbA hS (vp_in_nI (show i + 1 < L by omega) (by omega)) dL_law_1228 ?_
      refine ln_eqi (y := xs (i + 1)) (by rw [nI_clamp (by omega)]) ?_
      refine lv_aload_n hx hb dL_law_1229 rfl (lv_at hl 3 rfl) ?_
      refine lv_iload_n hx hb dL_law_1230 rfl (lv_at hl 0 rfl) ?_
      refine lv_iconst (v := (nI (2))) hx hb dL_law_1231 (by decide) ?_
      refine ln_iadd hx hb dL_law_1232 ?_
      refine va_sld hx hb hX hbl hbA hS (vp_in_nI (show i + 2 < L by omega) (by omega)) dL_law_1233 ?_
      refine ln_eqi (y := xs (i + 2)) (by rw [nI_clamp (by omega)]) ?_
      refine lv_aload_n hx hb dL_law_1234 rfl (lv_at hl 3 rfl) ?_
      refine lv_iload_n hx hb dL_law_1235 rfl (lv_at hl 0 rfl) ?_
      refine lv_iconst (v := (nI (3))) hx hb dL_law_1236 (by decide) ?_
      refine ln_iadd hx hb dL_law_1237 ?_
      refine va_sld hx hb hX hbl hbA hS (vp_in_nI (show i + 3 < L by omega) (by omega)) dL_law_1238 ?_
      refine ln_eqi (y := xs (i + 3)) (by rw [nI_clamp (by omega)]) ?_
      refine mq_Vl (As := [.int (xs (i + 1)), .int (xs (i + 2)), .int (xs (i + 3))]) (rest := [.long r1]) (ci := 12) (k0 := 0) ⟨hx, hb, hml, hown, htsL⟩ (cM_put l D ad (cy 0) (cy 1) (iniA 64) (fun _ => 0) (fun _ => 0) (fun _ => 0) (fun _ => 0) (fun _ => 1) (fun _ => 0) (fun _ => 0) 0 0 0 0 0 0 0 0 0 0 0 0 0 (fun _ => 0) (fun _ => 0) (fun _ => 0) (xs (i + 1)) (xs (i + 2)) (xs (i + 3)) (fun _ _ => by decide) (fun _ _ => Or.inl rfl)) (cwV 3 htsL gL_law_X12_put rfl rfl rfl (by decide +kernel) ⟨Nat.le_of_ble_eq_true rfl, Nat.le_of_ble_eq_true rfl⟩) rfl rfl hP hKm hD hS hA rfl hl.1 rfl (Nat.le_of_ble_eq_true rfl) dL_law_1239 ⟨Nat.le_of_ble_eq_true rfl, Nat.le_of_ble_eq_true rfl⟩ (fun r2 w2 H locs hq2 hP hD hS => ?_)
      have heq : r1 = r2 := by
        rcases hq2 with ⟨h, -⟩ | ⟨s', -, h2⟩
        · exact absurd (ix_rg hs1) h
        · rcases h2 with ⟨-, h2, -⟩ | ⟨h3, -⟩ | ⟨h3, -⟩
          · rw [hq1.1, h2]
          · exact absurd h3 (Nat.lt_irrefl 0)
          · exact absurd h3 (Nat.lt_irrefl 0)
      refine W.lcmp hx hb dL_law_1242 ?_
      refine lv_if_eq (tgt := 1374) hx hb dL_law_1243 (by decide) (fun c9 => ?_) (fun c9 => ?_)
      · exact hend _ _ _ _ (by decide) (by decide) hS
      · exact absurd ((lg_cmp_eq _ _).mpr heq) c9
  · have hs0 := hs1
    refine lv_aload_n hx hb dL_law_1204 rfl (lv_at hl 2 rfl) ?_
    refine lv_aload_n hx hb dL_law_1205 rfl (lv_at hl 3 rfl) ?_
    refine lv_iload_n hx hb dL_law_1206 rfl (lv_at hl 0 rfl) ?_
    refine lv_iconst (v := (nI (1))) hx hb dL_law_1207 (by decide) ?_
    refine ln_iadd hx hb dL_law_1208 ?_
    refine va_sld hx hb hX hbl hbA hS (vp_in_nI (show i + 1 < L by omega) (by omega)) dL_law_1209 ?_
    refine ln_eqi (y := xs (i + 1)) (by rw [nI_clamp (by omega)]) ?_
    refine lv_aload_n hx hb dL_law_1210 rfl (lv_at hl 3 rfl) ?_
    refine lv_iload_n hx hb dL_law_1211 rfl (lv_at hl 0 rfl) ?_
    refine lv_iconst (v := (nI (2))) hx hb dL_law_1212 (by decide) ?_
    refine ln_iadd hx hb dL_law_1213 ?_
    refine va_sld hx hb hX hbl hbA hS (vp_in_nI (show i + 2 < L by omega) (by omega)) dL_law_1214 ?_
    refine ln_eqi (y := xs (i + 2)) (by rw [nI_clamp (by omega)]) ?_
    refine lv_aload_n hx hb dL_law_1215 rfl (lv_at hl 3 rfl) ?_
    refine lv_iload_n hx hb dL_law_1216 rfl (lv_at hl 0 rfl) ?_
    refine lv_iconst (v := (nI (3))) hx hb dL_law_1217 (by decide) ?_
    refine ln_iadd hx hb dL_law_1218 ?_
    refine va_sld hx hb hX hbl hbA hS (vp_in_nI (show i + 3 < L by omega) (by omega)) dL_law_1219 ?_
    refine ln_eqi (y := xs (i + 3)) (by rw [nI_clamp (by omega)]) ?_
    have hP := hP.subT (w' := [(d0, .inr (11, [.ref (pA), .int (nI (0)), .ref (mA), .int (nI (0)), .ref (go0), .ref (m0), .ref (fQ), .int (nI (0)), .ref (t0), .ref (g0), .ref (shA), .ref (pq), .long (0)])), (shA, .inl (cy 6, 4, .inr (.inr (.inr (.inr (va_up (va_up (va_up (va_up (fun _ => none) (0) (some (s0))) (1) (some (s1))) (2) (some (s2))) (3) (some (s3))))))))]) [0, 17] rfl
    have hD := hD.subT (w' := [(d0, .inr (11, [.ref (pA), .int (nI (0)), .ref (mA), .int (nI (0)), .ref (go0), .ref (m0), .ref (fQ), .int (nI (0)), .ref (t0), .ref (g0), .ref (shA), .ref (pq), .long (0)])), (shA, .inl (cy 6, 4, .inr (.inr (.inr (.inr (va_up (va_up (va_up (va_up (fun _ => none) (0) (some (s0))) (1) (some (s1))) (2) (some (s2))) (3) (some (s3))))))))]) [0, 17] (by decide) rfl
    refine nq_Vl (As := [.int (xs (i + 1)), .int (xs (i + 2)), .int (xs (i + 3))]) (rest := []) (w := [(d0, .inr (11, [.ref (pA), .int (nI (0)), .ref (mA), .int (nI (0)), .ref (go0), .ref (m0), .ref (fQ), .int (nI (0)), .ref (t0), .ref (g0), .ref (shA), .ref (pq), .long (0)])), (shA, .inl (cy 6, 4, .inr (.inr (.inr (.inr (va_up (va_up (va_up (va_up (fun _ => none) (0) (some (s0))) (1) (some (s1))) (2) (some (s2))) (3) (some (s3))))))))]) (wr := fM cy ad) (ci := 11) (k0 := 0) ⟨hx, hb, hml, hown, htsL⟩ (qX11_put_n l D cy d0 pA 0 mA 0 go0 m0 fQ 0 t0 g0 shA pq 0 (va_up (va_up (va_up (va_up (fun _ => none) (0) (some (s0))) (1) (some (s1))) (2) (some (s2))) (3) (some (s3))) (xs (i + 1)) (xs (i + 2)) (xs (i + 3)) hs1) (cwV 3 htsL gL_law_X11_put rfl rfl rfl (by decide +kernel) ⟨Nat.le_of_ble_eq_true rfl, Nat.le_of_ble_eq_true rfl⟩) rfl rfl hP hK hD hN hS hA rfl hl.1 rfl (Nat.le_of_ble_eq_true rfl) dL_law_1220 ⟨Nat.le_of_ble_eq_true rfl, Nat.le_of_ble_eq_true rfl⟩ (fun r1 w1 H locs hq1 hP hD hS => ?_)
    have hP := hP.right
    have hD := hD.right
    refine lv_aload_n hx hb dL_law_1223 rfl (lv_at hl 1 rfl) ?_
    refine lv_aload_n hx hb dL_law_1224 rfl (lv_at hl 3 rfl) ?_
    refine lv_iload_n hx hb dL_law_1225 rfl (lv_at hl 0 rfl) ?_
    refine lv_iconst (v := (nI (1))) hx hb dL_law_1226 (by decide) ?_
    refine ln_iadd hx hb dL_law_1227 ?_
    refine va_sld hx hb hX hbl hbA hS (vp_in_nI (show i + 1 < L by omega) (by omega)) dL_law_1228 ?_
    refine ln_eqi (y := xs (i + 1)) (by rw [nI_clamp (by omega)]) ?_
    refine lv_aload_n hx hb dL_law_1229 rfl (lv_at hl 3 rfl) ?_
    refine lv_iload_n hx hb dL_law_1230 rfl (lv_at hl 0 rfl) ?_
    refine lv_iconst (v := (nI (2))) hx hb dL_law_1231 (by decide) ?_
    refine ln_iadd hx hb dL_law_1232 ?_
    refine va_sld hx hb hX hbl hbA hS (vp_in_nI (show i + 2 < L by omega) (by omega)) dL_law_1233 ?_
    refine ln_eqi (y := xs (i + 2)) (by rw [nI_clamp (by omega)]) ?_
    refine lv_aload_n hx hb dL_law_1234 rfl (lv_at hl 3 rfl) ?_
    refine lv_iload_n hx hb dL_law_1235 rfl (lv_at hl 0 rfl) ?_
    refine lv_iconst (v := (nI (3))) hx hb dL_law_1236 (by decide) ?_
    refine ln_iadd hx hb dL_law_1237 ?_
    refine va_sld hx hb hX hbl hbA hS (vp_in_nI (show i + 3 < L by omega) (by omega)) dL_law_1238 ?_
    refine ln_eqi (y := xs (i + 3)) (by rw [nI_clamp (by omega)]) ?_
    refine mq_Vl (As := [.int (xs (i + 1)), .int (xs (i + 2)), .int (xs (i + 3))]) (rest := [.long r1]) (ci := 12) (k0 := 0) ⟨hx, hb, hml, hown, htsL⟩ (cM_put l D ad (cy 0) (cy 1) (iniA 64) (fun _ => 0) (fun _ => 0) (fun _ => 0) (fun _ => 0) (fun _ => 1) (fun _ => 0) (fun _ => 0) 0 0 0 0 0 0 0 0 0 0 0 0 0 (fun _ => 0) (fun _ => 0) (fun _ => 0) (xs (i + 1)) (xs (i + 2)) (xs (i + 3)) (fun _ _ => by decide) (fun _ _ => Or.inl rfl)) (cwV 3 htsL gL_law_X12_put rfl rfl rfl (by decide +kernel) ⟨Nat.le_of_ble_eq_true rfl, Nat.le_of_ble_eq_true rfl⟩) rfl rfl hP hKm hD hS hA rfl hl.1 rfl (Nat.le_of_ble_eq_true rfl) dL_law_1239 ⟨Nat.le_of_ble_eq_true rfl, Nat.le_of_ble_eq_true rfl⟩ (fun r2 w2 H locs hq2 hP hD hS => ?_)
    have heq : r1 = r2 := by
      rcases hq2 with ⟨-, h2, -⟩ | ⟨s', ⟨e1, h3⟩, -⟩
      · rw [hq1.1, h2]
      · exact absurd (by rw [e1]; exact ix_nI (by omega) (by decide)) hs1
    refine W.lcmp hx hb dL_law_1242 ?_
    refine lv_if_eq (tgt := 1374) hx hb dL_law_1243 (by decide) (fun c9 => ?_) (fun c9 => ?_)
    · exact hend _ _ _ _ (by decide) (by decide) hS
    · exact absurd ((lg_cmp_eq _ _).mpr heq) c9
set_option maxHeartbeats 4000000 in
set_option maxRecDepth 100000 in
theorem law_26 (l : Launch) {p : Program} {e : Env} {s : State} {m : MethodId} {below : List Frame} {meth : Method} {c : Code} {b L : Nat} {xs : Nat → Int32} (C0 : lw_At p s m meth c b L xs) {D : va_G} {cy : Nat → ClassId} (hK : va_K D vwCl (cT cy) s) (hN : nst s) {i : Nat} (hi : i + 7 ≤ L) (hL : L ≤ 3584) {d0 pA mA go0 ga0 gb0 gc0 m0 sA rA fQ t0 up lo g0 ga ho shA pq sA0 s0 z0 s1 z1 s2 z2 s3 z3 : Nat} {sa ra ad : Nat → Nat} {H : Heap} {locs : List Loc} {ls : Array Slot} (hP : va_P D vwCl (fC cy d0 pA mA go0 ga0 gb0 gc0 m0 sA rA fQ t0 up lo g0 ga ho shA pq sA0 s0 z0 s1 z1 s2 z2 s3 z3 sa ra ++ fM cy ad) H) (hD : va_D (fun q : Nat => s.heap.size ≤ q) (fC cy d0 pA mA go0 ga0 gb0 gc0 m0 sA rA fQ t0 up lo g0 ga ho shA pq sA0 s0 z0 s1 z1 s2 z2 s3 z3 sa ra ++ fM cy ad)) (hS : va_S (fun q : Nat => s.heap.size ≤ q) s.heap H locs) (hl : lv_has ls 4 [(3, .int (nI i)), (2, .ref (ad 0)), (1, .ref d0), (0, .ref b)]) (hend : ∀ (H : Heap) (locs : List Loc) (cs sl : Nat), cs ≤ 1000 → sl ≤ 20000 → va_S (fun q : Nat => s.heap.size ≤ q) s.heap H locs → W p l e room_1 s m #[Value.ref b] below meth c H locs cs sl (lw_Z below #[Value.ref b] s) (F0 m 1374 ls [])) : W p l e room_1 s m #[Value.ref b] below meth c H locs 100 15000 (lw_Z below #[Value.ref b] s) (F0 m 1248 ls []) := by
  obtain ⟨hx, hb, hr, hml, hown, hts, hX, hbl, hlocks, hgv⟩ := C0
  have htsL : ∀ w ∈ wsL_law, w.before #[Value.ref b] s = true := fun w h => hts w (wsL_law_in w h)
  have hown : s.vm.findClass RL = some m.cls := hown
  have hA : ∀ q : Nat, s.heap.size ≤ q → (fun q : Nat => s.heap.size ≤ q) q := fun _ h => h
  have hbA : ¬ (fun q : Nat => s.heap.size ≤ q) b := Nat.not_le.mpr hbl
  have hKm : va_K D vwCl (mT (cy 0) (cy 1)) s := hK.sub [0, 1] rfl
  by_cases hs1 : ix 4 (xs (i + 1))
  · by_cases hs3 : ix 4 (xs (i + 3))
    · obtain ⟨k3, hk3, e3⟩ := ix_of9 hs3 (by decide)
      obtain ⟨q3, hhq3⟩ : ∃ q, (va_up (va_up (va_up (va_up (fun _ => none) (0) (some (s0))) (1) (some (s1))) (2) (some (s2))) (3) (some (s3))) k3 = some q := by rcases (show k3 = 0 ∨ k3 = 1 ∨ k3 = 2 ∨ k3 = 3 by omega) with rfl | rfl | rfl | rfl <;> exact ⟨_, rfl⟩
      obtain ⟨k, hk, e1⟩ := ix_of9 hs1 (by decide)
      rcases (show k = 0 ∨ k = 1 ∨ k = 2 ∨ k = 3 by omega) with rfl | rfl | rfl | rfl
      · have hs0 := hs1
        refine lv_aload_n hx hb dL_law_1248 rfl (lv_at hl 2 rfl) ?_
        refine lv_aload_n hx hb dL_law_1249 rfl (lv_at hl 3 rfl) ?_
        refine lv_iload_n hx hb dL_law_1250 rfl (lv_at hl 0 rfl) ?_
        refine lv_iconst (v := (nI (1))) hx hb dL_law_1251 (by decide) ?_
        refine ln_iadd hx hb dL_law_1252 ?_
        refine va_sld hx hb hX hbl hbA hS (vp_in_nI (show i + 1 < L by omega) (by omega)) dL_law_1253 ?_
        refine ln_eqi (y := xs (i + 1)) (by rw [nI_clamp (by omega)]) ?_
        refine ln_eqi (y := (nI (0))) e1 ?_
        refine lv_aload_n hx hb dL_law_1254 rfl (lv_at hl 3 rfl) ?_
        refine lv_iload_n hx hb dL_law_1255 rfl (lv_at hl 0 rfl) ?_
        refine lv_iconst (v := (nI (2))) hx hb dL_law_1256 (by decide) ?_
        refine ln_iadd hx hb dL_law_1257 ?_
        refine va_sld hx hb hX hbl hbA hS (vp_in_nI (show i + 2 < L by omega) (by omega)) dL_law_1258 ?_
        refine ln_eqi (y := xs (i + 2)) (by rw [nI_clamp (by omega)]) ?_
        refine lv_aload_n hx hb dL_law_1259 rfl (lv_at hl 3 rfl) ?_
        refine lv_iload_n hx hb dL_law_1260 rfl (lv_at hl 0 rfl) ?_
        refine lv_iconst (v := (nI (3))) hx hb dL_law_1261 (by decide) ?_
        refine ln_iadd hx hb dL_law_1262 ?_
        refine va_sld hx hb hX hbl hbA hS (vp_in_nI (show i + 3 < L by omega) (by omega)) dL_law_1263 ?_
        refine ln_eqi (y := xs (i + 3)) (by rw [nI_clamp (by omega)]) ?_
        refine ln_eqi (y := (nI (k3))) e3 ?_
        refine lv_aload_n hx hb dL_law_1264 rfl (lv_at hl 3 rfl) ?_
        refine lv_iload_n hx hb dL_law_1265 rfl (lv_at hl 0 rfl) ?_
        refine lv_iconst (v := (nI (4))) hx hb dL_law_1266 (by decide) ?_
        refine ln_iadd hx hb dL_law_1267 ?_
        refine va_sld hx hb hX hbl hbA hS (vp_in_nI (show i + 4 < L by omega) (by omega)) dL_law_1268 ?_
        refine ln_eqi (y := xs (i + 4)) (by rw [nI_clamp (by omega)]) ?_
        refine lv_aload_n hx hb dL_law_1269 rfl (lv_at hl 3 rfl) ?_
        refine lv_iload_n hx hb dL_law_1270 rfl (lv_at hl 0 rfl) ?_
        refine lv_iconst (v := (nI (5))) hx hb dL_law_1271 (by decide) ?_
        refine ln_iadd hx hb dL_law_1272 ?_
        refine va_sld hx hb hX hbl hbA hS (vp_in_nI (show i + 5 < L by omega) (by omega)) dL_law_1273 ?_
        refine ln_eqi (y := xs (i + 5)) (by rw [nI_clamp (by omega)]) ?_
        have hP := hP.subT (w' := [(d0, .inr (11, [.ref (pA), .int (nI (0)), .ref (mA), .int (nI (0)), .ref (go0), .ref (m0), .ref (fQ), .int (nI (0)), .ref (t0), .ref (g0), .ref (shA), .ref (pq), .long (0)])), (shA, .inl (cy 6, 4, .inr (.inr (.inr (.inr (va_up (va_up (va_up (va_up (fun _ => none) (0) (some (s0))) (1) (some (s1))) (2) (some (s2))) (3) (some (s3)))))))), (s0, .inr (8, [.ref (z0), .int (nI (0)), .int (nI (0))])), (z0, .inl (cy 0, 16, .inl (fun _ => 0)))]) [0, 17, 20, 21] rfl
        have hD := hD.subT (w' := [(d0, .inr (11, [.ref (pA), .int (nI (0)), .ref (mA), .int (nI (0)), .ref (go0), .ref (m0), .ref (fQ), .int (nI (0)), .ref (t0), .ref (g0), .ref (shA), .ref (pq), .long (0)])), (shA, .inl (cy 6, 4, .inr (.inr (.inr (.inr (va_up (va_up (va_up (va_up (fun _ => none) (0) (some (s0))) (1) (some (s1))) (2) (some (s2))) (3) (some (s3)))))))), (s0, .inr (8, [.ref (z0), .int (nI (0)), .int (nI (0))])), (z0, .inl (cy 0, 16, .inl (fun _ => 0)))]) [0, 17, 20, 21] (by decide) rfl
        refine nq_Vl (As := [.int (nI (0)), .int (xs (i + 2)), .int (nI (k3)), .int (xs (i + 4)), .int (xs (i + 5))]) (rest := []) (w := [(d0, .inr (11, [.ref (pA), .int (nI (0)), .ref (mA), .int (nI (0)), .ref (go0), .ref (m0), .ref (fQ), .int (nI (0)), .ref (t0), .ref (g0), .ref (shA), .ref (pq), .long (0)])), (shA, .inl (cy 6, 4, .inr (.inr (.inr (.inr (va_up (va_up (va_up (va_up (fun _ => none) (0) (some (s0))) (1) (some (s1))) (2) (some (s2))) (3) (some (s3)))))))), (s0, .inr (8, [.ref (z0), .int (nI (0)), .int (nI (0))])), (z0, .inl (cy 0, 16, .inl (fun _ => 0)))]) (wr := fM cy ad) (ci := 11) (k0 := 0) ⟨hx, hb, hml, hown, htsL⟩ (qX11_copy_m l D cy d0 pA 0 mA 0 go0 m0 fQ 0 t0 g0 shA pq 0 (va_up (va_up (va_up (va_up (fun _ => none) (0) (some (s0))) (1) (some (s1))) (2) (some (s2))) (3) (some (s3))) s0 z0 0 0 (fun _ => 0) (0) (xs (i + 2)) (k3) (xs (i + 4)) (xs (i + 5)) (by decide) rfl rfl q3 hk3 hhq3) (cwV 5 htsL gL_law_X11_copy rfl rfl rfl (by decide +kernel) ⟨Nat.le_of_ble_eq_true rfl, Nat.le_of_ble_eq_true rfl⟩) rfl rfl hP hK hD hN hS hA rfl hl.1 rfl (Nat.le_of_ble_eq_true rfl) dL_law_1274 ⟨Nat.le_of_ble_eq_true rfl, Nat.le_of_ble_eq_true rfl⟩ (fun r1 w1 H locs hq1 hP hD hS => ?_)
        have hP := hP.right
        have hD := hD.right
        refine lv_aload_n hx hb dL_law_1277 rfl (lv_at hl 1 rfl) ?_
        refine lv_aload_n hx hb dL_law_1278 rfl (lv_at hl 3 rfl) ?_
        refine lv_iload_n hx hb dL_law_1279 rfl (lv_at hl 0 rfl) ?_
        refine lv_iconst (v := (nI (1))) hx hb dL_law_1280 (by decide) ?_
        refine ln_iadd hx hb dL_law_1281 ?_
        refine va_sld hx hb hX hbl hbA hS (vp_in_nI (show i + 1 < L by omega) (by omega)) dL_law_1282 ?_
        refine ln_eqi (y := xs (i + 1)) (by rw [nI_clamp (by omega)]) ?_
        refine lv_aload_n hx hb dL_law_1283 rfl (lv_at hl 3 rfl) ?_
        refine lv_iload_n hx hb dL_law_1284 rfl (lv_at hl 0 rfl) ?_
        refine lv_iconst (v := (nI (2))) hx hb dL_law_1285 (by decide) ?_
        refine ln_iadd hx hb dL_law_1286 ?_
        refine va_sld hx hb hX hbl hbA hS (vp_in_nI (show i + 2 < L by omega) (by omega)) dL_law_1287 ?_
        refine ln_eqi (y := xs (i + 2)) (by rw [nI_clamp (by omega)]) ?_
        refine lv_aload_n hx hb dL_law_1288 rfl (lv_at hl 3 rfl) ?_
        refine lv_iload_n hx hb dL_law_1289 rfl (lv_at hl 0 rfl) ?_
        refine lv_iconst (v := (nI (3))) hx hb dL_law_1290 (by decide) ?_
        refine ln_iadd hx hb dL_law_1291 ?_
        refine va_sld hx hb hX hbl hbA hS (vp_in_nI (show i + 3 < L by omega) (by omega)) dL_law_1292 ?_
        refine ln_eqi (y := xs (i + 3)) (by rw [nI_clamp (by omega)]) ?_
        refine lv_aload_n hx hb dL_law_1293 rfl (lv_at hl 3 rfl) ?_
        refine lv_iload_n hx hb dL_law_1294 rfl (lv_at hl 0 rfl) ?_
        refine lv_iconst (v := (nI (4))) hx hb dL_law_1295 (by decide) ?_
        refine ln_iadd hx hb dL_law_1296 ?_
        refine va_sld hx hb hX hbl hbA hS (vp_in_nI (show i + 4 < L by omega) (by omega)) dL_law_1297 ?_
        refine ln_eqi (y := xs (i + 4)) (by rw [nI_clamp (by omega)]) ?_
        refine lv_aload_n hx hb dL_law_1298 rfl (lv_at hl 3 rfl) ?_
        refine lv_iload_n hx hb dL_law_1299 rfl (lv_at hl 0 rfl) ?_
        refine lv_iconst (v := (nI (5))) hx hb dL_law_1300 (by decide) ?_
        refine ln_iadd hx hb dL_law_1301 ?_
        refine va_sld hx hb hX hbl hbA hS (vp_in_nI (show i + 5 < L by omega) (by omega)) dL_law_1302 ?_
        refine ln_eqi (y := xs (i + 5)) (by rw [nI_clamp (by omega)]) ?_
        refine mq_Vl (As := [.int (xs (i + 1)), .int (xs (i + 2)), .int (xs (i + 3)), .int (xs (i + 4)), .int (xs (i + 5))]) (rest := [.long r1]) (ci := 12) (k0 := 0) ⟨hx, hb, hml, hown, htsL⟩ (cM_copy l D ad (cy 0) (cy 1) (iniA 64) (fun _ => 0) (fun _ => 0) (fun _ => 0) (fun _ => 0) (fun _ => 1) (fun _ => 0) (fun _ => 0) 0 0 0 0 0 0 0 0 0 0 0 0 0 (fun _ => 0) (fun _ => 0) (fun _ => 0) (xs (i + 1)) (xs (i + 2)) (xs (i + 3)) (xs (i + 4)) (xs (i + 5)) (fun _ _ => by decide) (fun _ _ => Or.inl rfl)) (cwV 5 htsL gL_law_X12_copy rfl rfl rfl (by decide +kernel) ⟨Nat.le_of_ble_eq_true rfl, Nat.le_of_ble_eq_true rfl⟩) rfl rfl hP hKm hD hS hA rfl hl.1 rfl (Nat.le_of_ble_eq_true rfl) dL_law_1303 ⟨Nat.le_of_ble_eq_true rfl, Nat.le_of_ble_eq_true rfl⟩ (fun r2 w2 H locs hq2 hP hD hS => ?_)
        have heq : r1 = r2 := by
          rcases hq2 with ⟨h, -⟩ | ⟨s', t', -, h2⟩
          · exact absurd ⟨ix_rg hs1, ix_rg hs3⟩ h
          · rcases h2 with ⟨-, h2, -⟩ | ⟨h3, -⟩ | ⟨h3, -⟩ | ⟨h3, -⟩
            · rw [hq1.1, h2]
            · exact absurd h3 (Nat.lt_irrefl 0)
            · exact absurd h3 (Nat.lt_irrefl 0)
            · exact absurd h3 (Nat.lt_irrefl 0)
        refine W.lcmp hx hb dL_law_1306 ?_
        refine lv_if_eq (tgt := 1374) hx hb dL_law_1307 (by decide) (fun c9 => ?_) (fun c9 => ?_)
        · exact hend _ _ _ _ (by decide) (by decide) hS
        · exact absurd ((lg_cmp_eq _ _).mpr heq) c9
      · have hs0 := hs1
        refine lv_aload_n hx hb dL_law_1248 rfl (lv_at hl 2 rfl) ?_
        refine lv_aload_n hx hb dL_law_1249 rfl (lv_at hl 3 rfl) ?_
        refine lv_iload_n hx hb dL_law_1250 rfl (lv_at hl 0 rfl) ?_
        refine lv_iconst (v := (nI (1))) hx hb dL_law_1251 (by decide) ?_
        refine ln_iadd hx hb dL_law_1252 ?_
        refine va_sld hx hb hX hbl hbA hS (vp_in_nI (show i + 1 < L by omega) (by omega)) dL_law_1253 ?_
        refine ln_eqi (y := xs (i + 1)) (by rw [nI_clamp (by omega)]) ?_
        refine ln_eqi (y := (nI (1))) e1 ?_
        refine lv_aload_n hx hb dL_law_1254 rfl (lv_at hl 3 rfl) ?_
        refine lv_iload_n hx hb dL_law_1255 rfl (lv_at hl 0 rfl) ?_
        refine lv_iconst (v := (nI (2))) hx hb dL_law_1256 (by decide) ?_
        refine ln_iadd hx hb dL_law_1257 ?_
        refine va_sld hx hb hX hbl hbA hS (vp_in_nI (show i + 2 < L by omega) (by omega)) dL_law_1258 ?_
        refine ln_eqi (y := xs (i + 2)) (by rw [nI_clamp (by omega)]) ?_
        refine lv_aload_n hx hb dL_law_1259 rfl (lv_at hl 3 rfl) ?_
        refine lv_iload_n hx hb dL_law_1260 rfl (lv_at hl 0 rfl) ?_
        refine lv_iconst (v := (nI (3))) hx hb dL_law_1261 (by decide) ?_
        refine ln_iadd hx hb dL_law_1262 ?_
        refine va_sld hx hb hX hbl hbA hS (vp_in_nI (show i + 3 < L by omega) (by omega)) dL_law_1263 ?_
        refine ln_eqi (y := xs (i + 3)) (by rw [nI_clamp (by omega)]) ?_
        refine ln_eqi (y := (nI (k3))) e3 ?_
        refine lv_aload_n hx hb dL_law_1264 rfl (lv_at hl 3 rfl) ?_
        refine lv_iload_n hx hb dL_law_1265 rfl (lv_at hl 0 rfl) ?_
        refine lv_iconst (v := (nI (4))) hx hb dL_law_1266 (by decide) ?_
        refine ln_iadd hx hb dL_law_1267 ?_
        refine va_sld hx hb hX hbl hbA hS (vp_in_nI (show i + 4 < L by omega) (by omega)) dL_law_1268 ?_
        refine ln_eqi (y := xs (i + 4)) (by rw [nI_clamp (by omega)]) ?_
        refine lv_aload_n hx hb dL_law_1269 rfl (lv_at hl 3 rfl) ?_
        refine lv_iload_n hx hb dL_law_1270 rfl (lv_at hl 0 rfl) ?_
        refine lv_iconst (v := (nI (5))) hx hb dL_law_1271 (by decide) ?_
        refine ln_iadd hx hb dL_law_1272 ?_
        refine va_sld hx hb hX hbl hbA hS (vp_in_nI (show i + 5 < L by omega) (by omega)) dL_law_1273 ?_
        refine ln_eqi (y := xs (i + 5)) (by rw [nI_clamp (by omega)]) ?_
        have hP := hP.subT (w' := [(d0, .inr (11, [.ref (pA), .int (nI (0)), .ref (mA), .int (nI (0)), .ref (go0), .ref (m0), .ref (fQ), .int (nI (0)), .ref (t0), .ref (g0), .ref (shA), .ref (pq), .long (0)])), (shA, .inl (cy 6, 4, .inr (.inr (.inr (.inr (va_up (va_up (va_up (va_up (fun _ => none) (0) (some (s0))) (1) (some (s1))) (2) (some (s2))) (3) (some (s3)))))))), (s1, .inr (8, [.ref (z1), .int (nI (0)), .int (nI (0))])), (z1, .inl (cy 0, 16, .inl (fun _ => 0)))]) [0, 17, 22, 23] rfl
        have hD := hD.subT (w' := [(d0, .inr (11, [.ref (pA), .int (nI (0)), .ref (mA), .int (nI (0)), .ref (go0), .ref (m0), .ref (fQ), .int (nI (0)), .ref (t0), .ref (g0), .ref (shA), .ref (pq), .long (0)])), (shA, .inl (cy 6, 4, .inr (.inr (.inr (.inr (va_up (va_up (va_up (va_up (fun _ => none) (0) (some (s0))) (1) (some (s1))) (2) (some (s2))) (3) (some (s3)))))))), (s1, .inr (8, [.ref (z1), .int (nI (0)), .int (nI (0))])), (z1, .inl (cy 0, 16, .inl (fun _ => 0)))]) [0, 17, 22, 23] (by decide) rfl
        refine nq_Vl (As := [.int (nI (1)), .int (xs (i + 2)), .int (nI (k3)), .int (xs (i + 4)), .int (xs (i + 5))]) (rest := []) (w := [(d0, .inr (11, [.ref (pA), .int (nI (0)), .ref (mA), .int (nI (0)), .ref (go0), .ref (m0), .ref (fQ), .int (nI (0)), .ref (t0), .ref (g0), .ref (shA), .ref (pq), .long (0)])), (shA, .inl (cy 6, 4, .inr (.inr (.inr (.inr (va_up (va_up (va_up (va_up (fun _ => none) (0) (some (s0))) (1) (some (s1))) (2) (some (s2))) (3) (some (s3)))))))), (s1, .inr (8, [.ref (z1), .int (nI (0)), .int (nI (0))])), (z1, .inl (cy 0, 16, .inl (fun _ => 0)))]) (wr := fM cy ad) (ci := 11) (k0 := 0) ⟨hx, hb, hml, hown, htsL⟩ (qX11_copy_m l D cy d0 pA 0 mA 0 go0 m0 fQ 0 t0 g0 shA pq 0 (va_up (va_up (va_up (va_up (fun _ => none) (0) (some (s0))) (1) (some (s1))) (2) (some (s2))) (3) (some (s3))) s1 z1 0 0 (fun _ => 0) (1) (xs (i + 2)) (k3) (xs (i + 4)) (xs (i + 5)) (by decide) rfl rfl q3 hk3 hhq3) (cwV 5 htsL gL_law_X11_copy rfl rfl rfl (by decide +kernel) ⟨Nat.le_of_ble_eq_true rfl, Nat.le_of_ble_eq_true rfl⟩) rfl rfl hP hK hD hN hS hA rfl hl.1 rfl (Nat.le_of_ble_eq_true rfl) dL_law_1274 ⟨Nat.le_of_ble_eq_true rfl, Nat.le_of_ble_eq_true rfl⟩ (fun r1 w1 H locs hq1 hP hD hS => ?_)
        have hP := hP.right
        have hD := hD.right
        refine lv_aload_n hx hb dL_law_1277 rfl (lv_at hl 1 rfl) ?_
        refine lv_aload_n hx hb dL_law_1278 rfl (lv_at hl 3 rfl) ?_
        refine lv_iload_n hx hb dL_law_1279 rfl (lv_at hl 0 rfl) ?_
        refine lv_iconst (v := (nI (1))) hx hb dL_law_1280 (by decide) ?_
        refine ln_iadd hx hb dL_law_1281 ?_
        refine va_sld hx hb hX hbl hbA hS (vp_in_nI (show i + 1 < L by omega) (by omega)) dL_law_1282 ?_
        refine ln_eqi (y := xs (i + 1)) (by rw [nI_clamp (by omega)]) ?_
        refine lv_aload_n hx hb dL_law_1283 rfl (lv_at hl 3 rfl) ?_
        refine lv_iload_n hx hb dL_law_1284 rfl (lv_at hl 0 rfl) ?_
        refine lv_iconst (v := (nI (2))) hx hb dL_law_1285 (by decide) ?_
        refine ln_iadd hx hb dL_law_1286 ?_
        refine va_sld hx hb hX hbl hbA hS (vp_in_nI (show i + 2 < L by omega) (by omega)) dL_law_1287 ?_
        refine ln_eqi (y := xs (i + 2)) (by rw [nI_clamp (by omega)]) ?_
        refine lv_aload_n hx hb dL_law_1288 rfl (lv_at hl 3 rfl) ?_
        refine lv_iload_n hx hb dL_law_1289 rfl (lv_at hl 0 rfl) ?_
        refine lv_iconst (v := (nI (3))) hx hb dL_law_1290 (by decide) ?_
        refine ln_iadd hx hb dL_law_1291 ?_
        refine va_sld hx hb hX hbl hbA hS (vp_in_nI (show i + 3 < L by omega) (by omega)) dL_law_1292 ?_
        refine ln_eqi (y := xs (i + 3)) (by rw [nI_clamp (by omega)]) ?_
        refine lv_aload_n hx hb dL_law_1293 rfl (lv_at hl 3 rfl) ?_
        refine lv_iload_n hx hb dL_law_1294 rfl (lv_at hl 0 rfl) ?_
        refine lv_iconst (v := (nI (4))) hx hb dL_law_1295 (by decide) ?_
        refine ln_iadd hx hb dL_law_1296 ?_
        refine va_sld hx hb hX hbl hbA hS (vp_in_nI (show i + 4 < L by omega) (by omega)) dL_law_1297 ?_
        refine ln_eqi (y := xs (i + 4)) (by rw [nI_clamp (by omega)]) ?_
        refine lv_aload_n hx hb dL_law_1298 rfl (lv_at hl 3 rfl) ?_
        refine lv_iload_n hx hb dL_law_1299 rfl (lv_at hl 0 rfl) ?_
        refine lv_iconst (v := (nI (5))) hx hb dL_law_1300 (by decide) ?_
        refine ln_iadd hx hb dL_law_1301 ?_
        refine va_sld hx hb hX hbl hbA hS (vp_in_nI (show i + 5 < L by omega) (by omega)) dL_law_1302 ?_
        refine ln_eqi (y := xs (i + 5)) (by rw [nI_clamp (by omega)]) ?_
        refine mq_Vl (As := [.int (xs (i + 1)), .int (xs (i + 2)), .int (xs (i + 3)), .int (xs (i + 4)), .int (xs (i + 5))]) (rest := [.long r1]) (ci := 12) (k0 := 0) ⟨hx, hb, hml, hown, htsL⟩ (cM_copy l D ad (cy 0) (cy 1) (iniA 64) (fun _ => 0) (fun _ => 0) (fun _ => 0) (fun _ => 0) (fun _ => 1) (fun _ => 0) (fun _ => 0) 0 0 0 0 0 0 0 0 0 0 0 0 0 (fun _ => 0) (fun _ => 0) (fun _ => 0) (xs (i + 1)) (xs (i + 2)) (xs (i + 3)) (xs (i + 4)) (xs (i + 5)) (fun _ _ => by decide) (fun _ _ => Or.inl rfl)) (cwV 5 htsL gL_law_X12_copy rfl rfl rfl (by decide +kernel) ⟨Nat.le_of_ble_eq_true rfl, Nat.le_of_ble_eq_true rfl⟩) rfl rfl hP hKm hD hS hA rfl hl.1 rfl (Nat.le_of_ble_eq_true rfl) dL_law_1303 ⟨Nat.le_of_ble_eq_true rfl, Nat.le_of_ble_eq_true rfl⟩ (fun r2 w2 H locs hq2 hP hD hS => ?_)
        have heq : r1 = r2 := by
          rcases hq2 with ⟨h, -⟩ | ⟨s', t', -, h2⟩
          · exact absurd ⟨ix_rg hs1, ix_rg hs3⟩ h
          · rcases h2 with ⟨-, h2, -⟩ | ⟨h3, -⟩ | ⟨h3, -⟩ | ⟨h3, -⟩
            · rw [hq1.1, h2]
            · exact absurd h3 (Nat.lt_irrefl 0)
            · exact absurd h3 (Nat.lt_irrefl 0)
            · exact absurd h3 (Nat.lt_irrefl 0)
        refine W.lcmp hx hb dL_law_1306 ?_
        refine lv_if_eq (tgt := 1374) hx hb dL_law_1307 (by decide) (fun c9 => ?_) (fun c9 => ?_)
        · exact hend _ _ _ _ (by decide) (by decide) hS
        · exact absurd ((lg_cmp_eq _ _).mpr heq) c9
      · have hs0 := hs1
        refine lv_aload_n hx hb dL_law_1248 rfl (lv_at hl 2 rfl) ?_
        refine lv_aload_n hx hb dL_law_1249 rfl (lv_at hl 3 rfl) ?_
        refine lv_iload_n hx hb dL_law_1250 rfl (lv_at hl 0 rfl) ?_
        refine lv_iconst (v := (nI (1))) hx hb dL_law_1251 (by decide) ?_
        refine ln_iadd hx hb dL_law_1252 ?_
        refine va_sld hx hb hX hbl hbA hS (vp_in_nI (show i + 1 < L by omega) (by omega)) dL_law_1253 ?_
        refine ln_eqi (y := xs (i + 1)) (by rw [nI_clamp (by omega)]) ?_
        refine ln_eqi (y := (nI (2))) e1 ?_
        refine lv_aload_n hx hb dL_law_1254 rfl (lv_at hl 3 rfl) ?_
        refine lv_iload_n hx hb dL_law_1255 rfl (lv_at hl 0 rfl) ?_
        refine lv_iconst (v := (nI (2))) hx hb dL_law_1256 (by decide) ?_
        refine ln_iadd hx hb dL_law_1257 ?_
        refine va_sld hx hb hX hbl hbA hS (vp_in_nI (show i + 2 < L by omega) (by omega)) dL_law_1258 ?_
        refine ln_eqi (y := xs (i + 2)) (by rw [nI_clamp (by omega)]) ?_
        refine lv_aload_n hx hb dL_law_1259 rfl (lv_at hl 3 rfl) ?_
        refine lv_iload_n hx hb dL_law_1260 rfl (lv_at hl 0 rfl) ?_
        refine lv_iconst (v := (nI (3))) hx hb dL_law_1261 (by decide) ?_
        refine ln_iadd hx hb dL_law_1262 ?_
        refine va_sld hx hb hX hbl hbA hS (vp_in_nI (show i + 3 < L by omega) (by omega)) dL_law_1263 ?_
        refine ln_eqi (y := xs (i + 3)) (by rw [nI_clamp (by omega)]) ?_
        refine ln_eqi (y := (nI (k3))) e3 ?_
        refine lv_aload_n hx hb dL_law_1264 rfl (lv_at hl 3 rfl) ?_
        refine lv_iload_n hx hb dL_law_1265 rfl (lv_at hl 0 rfl) ?_
        refine lv_iconst (v := (nI (4))) hx hb dL_law_1266 (by decide) ?_
        refine ln_iadd hx hb dL_law_1267 ?_
        refine va_sld hx hb hX hbl hbA hS (vp_in_nI (show i + 4 < L by omega) (by omega)) dL_law_1268 ?_
        refine ln_eqi (y := xs (i + 4)) (by rw [nI_clamp (by omega)]) ?_
        refine lv_aload_n hx hb dL_law_1269 rfl (lv_at hl 3 rfl) ?_
        refine lv_iload_n hx hb dL_law_1270 rfl (lv_at hl 0 rfl) ?_
        refine lv_iconst (v := (nI (5))) hx hb dL_law_1271 (by decide) ?_
        refine ln_iadd hx hb dL_law_1272 ?_
        refine va_sld hx hb hX hbl hbA hS (vp_in_nI (show i + 5 < L by omega) (by omega)) dL_law_1273 ?_
        refine ln_eqi (y := xs (i + 5)) (by rw [nI_clamp (by omega)]) ?_
        have hP := hP.subT (w' := [(d0, .inr (11, [.ref (pA), .int (nI (0)), .ref (mA), .int (nI (0)), .ref (go0), .ref (m0), .ref (fQ), .int (nI (0)), .ref (t0), .ref (g0), .ref (shA), .ref (pq), .long (0)])), (shA, .inl (cy 6, 4, .inr (.inr (.inr (.inr (va_up (va_up (va_up (va_up (fun _ => none) (0) (some (s0))) (1) (some (s1))) (2) (some (s2))) (3) (some (s3)))))))), (s2, .inr (8, [.ref (z2), .int (nI (0)), .int (nI (0))])), (z2, .inl (cy 0, 16, .inl (fun _ => 0)))]) [0, 17, 24, 25] rfl
        have hD := hD.subT (w' := [(d0, .inr (11, [.ref (pA), .int (nI (0)), .ref (mA), .int (nI (0)), .ref (go0), .ref (m0), .ref (fQ), .int (nI (0)), .ref (t0), .ref (g0), .ref (shA), .ref (pq), .long (0)])), (shA, .inl (cy 6, 4, .inr (.inr (.inr (.inr (va_up (va_up (va_up (va_up (fun _ => none) (0) (some (s0))) (1) (some (s1))) (2) (some (s2))) (3) (some (s3)))))))), (s2, .inr (8, [.ref (z2), .int (nI (0)), .int (nI (0))])), (z2, .inl (cy 0, 16, .inl (fun _ => 0)))]) [0, 17, 24, 25] (by decide) rfl
        refine nq_Vl (As := [.int (nI (2)), .int (xs (i + 2)), .int (nI (k3)), .int (xs (i + 4)), .int (xs (i + 5))]) (rest := []) (w := [(d0, .inr (11, [.ref (pA), .int (nI (0)), .ref (mA), .int (nI (0)), .ref (go0), .ref (m0), .ref (fQ), .int (nI (0)), .ref (t0), .ref (g0), .ref (shA), .ref (pq), .long (0)])), (shA, .inl (cy 6, 4, .inr (.inr (.inr (.inr (va_up (va_up (va_up (va_up (fun _ => none) (0) (some (s0))) (1) (some (s1))) (2) (some (s2))) (3) (some (s3)))))))), (s2, .inr (8, [.ref (z2), .int (nI (0)), .int (nI (0))])), (z2, .inl (cy 0, 16, .inl (fun _ => 0)))]) (wr := fM cy ad) (ci := 11) (k0 := 0) ⟨hx, hb, hml, hown, htsL⟩ (qX11_copy_m l D cy d0 pA 0 mA 0 go0 m0 fQ 0 t0 g0 shA pq 0 (va_up (va_up (va_up (va_up (fun _ => none) (0) (some (s0))) (1) (some (s1))) (2) (some (s2))) (3) (some (s3))) s2 z2 0 0 (fun _ => 0) (2) (xs (i + 2)) (k3) (xs (i + 4)) (xs (i + 5)) (by decide) rfl rfl q3 hk3 hhq3) (cwV 5 htsL gL_law_X11_copy rfl rfl rfl (by decide +kernel) ⟨Nat.le_of_ble_eq_true rfl, Nat.le_of_ble_eq_true rfl⟩) rfl rfl hP hK hD hN hS hA rfl hl.1 rfl (Nat.le_of_ble_eq_true rfl) dL_law_1274 ⟨Nat.le_of_ble_eq_true rfl, Nat.le_of_ble_eq_true rfl⟩ (fun r1 w1 H locs hq1 hP hD hS => ?_)
        have hP := hP.right
        have hD := hD.right
        refine lv_aload_n hx hb dL_law_1277 rfl (lv_at hl 1 rfl) ?_
        refine lv_aload_n hx hb dL_law_1278 rfl (lv_at hl 3 rfl) ?_
        refine lv_iload_n hx hb dL_law_1279 rfl (lv_at hl 0 rfl) ?_
        refine lv_iconst (v := (nI (1))) hx hb dL_law_1280 (by decide) ?_
        refine ln_iadd hx hb dL_law_1281 ?_
        refine va_sld hx hb hX hbl hbA hS (vp_in_nI (show i + 1 < L by omega) (by omega)) dL_law_1282 ?_
        refine ln_eqi (y := xs (i + 1)) (by rw [nI_clamp (by omega)]) ?_
        refine lv_aload_n hx hb dL_law_1283 rfl (lv_at hl 3 rfl) ?_
        refine lv_iload_n hx hb dL_law_1284 rfl (lv_at hl 0 rfl) ?_
        refine lv_iconst (v := (nI (2))) hx hb dL_law_1285 (by decide) ?_
        refine ln_iadd hx hb dL_law_1286 ?_
        refine va_sld hx hb hX hbl hbA hS (vp_in_nI (show i + 2 < L by omega) (by omega)) dL_law_1287 ?_
        refine ln_eqi (y := xs (i + 2)) (by rw [nI_clamp (by omega)]) ?_
        refine lv_aload_n hx hb dL_law_1288 rfl (lv_at hl 3 rfl) ?_
        refine lv_iload_n hx hb dL_law_1289 rfl (lv_at hl 0 rfl) ?_
        refine lv_iconst (v := (nI (3))) hx hb dL_law_1290 (by decide) ?_
        refine ln_iadd hx hb dL_law_1291 ?_
        refine va_sld hx hb hX hbl hbA hS (vp_in_nI (show i + 3 < L by omega) (by omega)) dL_law_1292 ?_
        refine ln_eqi (y := xs (i + 3)) (by rw [nI_clamp (by omega)]) ?_
        refine lv_aload_n hx hb dL_law_1293 rfl (lv_at hl 3 rfl) ?_
        refine lv_iload_n hx hb dL_law_1294 rfl (lv_at hl 0 rfl) ?_
        refine lv_iconst (v := (nI (4))) hx hb dL_law_1295 (by decide) ?_
        refine ln_iadd hx hb dL_law_1296 ?_
        refine va_sld hx hb hX hbl hbA hS (vp_in_nI (show i + 4 < L by omega) (by omega)) dL_law_1297 ?_
        refine ln_eqi (y := xs (i + 4)) (by rw [nI_clamp (by omega)]) ?_
        refine lv_aload_n hx hb dL_law_1298 rfl (lv_at hl 3 rfl) ?_
        refine lv_iload_n hx hb dL_law_1299 rfl (lv_at hl 0 rfl) ?_
        refine lv_iconst (v := (nI (5))) hx hb dL_law_1300 (by decide) ?_
        refine ln_iadd hx hb dL_law_1301 ?_
        refine va_sld hx hb hX hbl hbA hS (vp_in_nI (show i + 5 < L by omega) (by omega)) dL_law_1302 ?_
        refine ln_eqi (y := xs (i + 5)) (by rw [nI_clamp (by omega)]) ?_
        refine mq_Vl (As := [.int (xs (i + 1)), .int (xs (i + 2)), .int (xs (i + 3)), .int (xs (i + 4)), .int (xs (i + 5))]) (rest := [.long r1]) (ci := 12) (k0 := 0) ⟨hx, hb, hml, hown, htsL⟩ (cM_copy l D ad (cy 0) (cy 1) (iniA 64) (fun _ => 0) (fun _ => 0) (fun _ => 0) (fun _ => 0) (fun _ => 1) (fun _ => 0) (fun _ => 0) 0 0 0 0 0 0 0 0 0 0 0 0 0 (fun _ => 0) (fun _ => 0) (fun _ => 0) (xs (i + 1)) (xs (i + 2)) (xs (i + 3)) (xs (i + 4)) (xs (i + 5)) (fun _ _ => by decide) (fun _ _ => Or.inl rfl)) (cwV 5 htsL gL_law_X12_copy rfl rfl rfl (by decide +kernel) ⟨Nat.le_of_ble_eq_true rfl, Nat.le_of_ble_eq_true rfl⟩) rfl rfl hP hKm hD hS hA rfl hl.1 rfl (Nat.le_of_ble_eq_true rfl) dL_law_1303 ⟨Nat.le_of_ble_eq_true rfl, Nat.le_of_ble_eq_true rfl⟩ (fun r2 w2 H locs hq2 hP hD hS => ?_)
        have heq : r1 = r2 := by
          rcases hq2 with ⟨h, -⟩ | ⟨s', t', -, h2⟩
          · exact absurd ⟨ix_rg hs1, ix_rg hs3⟩ h
          · rcases h2 with ⟨-, h2, -⟩ | ⟨h3, -⟩ | ⟨h3, -⟩ | ⟨h3, -⟩
            · rw [hq1.1, h2]
            · exact absurd h3 (Nat.lt_irrefl 0)
            · exact absurd h3 (Nat.lt_irrefl 0)
            · exact absurd h3 (Nat.lt_irrefl 0)
        refine W.lcmp hx hb dL_law_1306 ?_
        refine lv_if_eq (tgt := 1374) hx hb dL_law_1307 (by decide) (fun c9 => ?_) (fun c9 => ?_)
        · exact hend _ _ _ _ (by decide) (by decide) hS
        · exact absurd ((lg_cmp_eq _ _).mpr heq) c9
      · have hs0 := hs1
        refine lv_aload_n hx hb dL_law_1248 rfl (lv_at hl 2 rfl) ?_
        refine lv_aload_n hx hb dL_law_1249 rfl (lv_at hl 3 rfl) ?_
        refine lv_iload_n hx hb dL_law_1250 rfl (lv_at hl 0 rfl) ?_
        refine lv_iconst (v := (nI (1))) hx hb dL_law_1251 (by decide) ?_
        refine ln_iadd hx hb dL_law_1252 ?_
        refine va_sld hx hb hX hbl hbA hS (vp_in_nI (show i + 1 < L by omega) (by omega)) dL_law_1253 ?_
        refine ln_eqi (y := xs (i + 1)) (by rw [nI_clamp (by omega)]) ?_
        refine ln_eqi (y := (nI (3))) e1 ?_
        refine lv_aload_n hx hb dL_law_1254 rfl (lv_at hl 3 rfl) ?_
        refine lv_iload_n hx hb dL_law_1255 rfl (lv_at hl 0 rfl) ?_
        refine lv_iconst (v := (nI (2))) hx hb dL_law_1256 (by decide) ?_
        refine ln_iadd hx hb dL_law_1257 ?_
        refine va_sld hx hb hX hbl hbA hS (vp_in_nI (show i + 2 < L by omega) (by omega)) dL_law_1258 ?_
        refine ln_eqi (y := xs (i + 2)) (by rw [nI_clamp (by omega)]) ?_
        refine lv_aload_n hx hb dL_law_1259 rfl (lv_at hl 3 rfl) ?_
        refine lv_iload_n hx hb dL_law_1260 rfl (lv_at hl 0 rfl) ?_
        refine lv_iconst (v := (nI (3))) hx hb dL_law_1261 (by decide) ?_
        refine ln_iadd hx hb dL_law_1262 ?_
        refine va_sld hx hb hX hbl hbA hS (vp_in_nI (show i + 3 < L by omega) (by omega)) dL_law_1263 ?_
        refine ln_eqi (y := xs (i + 3)) (by rw [nI_clamp (by omega)]) ?_
        refine ln_eqi (y := (nI (k3))) e3 ?_
        refine lv_aload_n hx hb dL_law_1264 rfl (lv_at hl 3 rfl) ?_
        refine lv_iload_n hx hb dL_law_1265 rfl (lv_at hl 0 rfl) ?_
        refine lv_iconst (v := (nI (4))) hx hb dL_law_1266 (by decide) ?_
        refine ln_iadd hx hb dL_law_1267 ?_
        refine va_sld hx hb hX hbl hbA hS (vp_in_nI (show i + 4 < L by omega) (by omega)) dL_law_1268 ?_
        refine ln_eqi (y := xs (i + 4)) (by rw [nI_clamp (by omega)]) ?_
        refine lv_aload_n hx hb dL_law_1269 rfl (lv_at hl 3 rfl) ?_
        refine lv_iload_n hx hb dL_law_1270 rfl (lv_at hl 0 rfl) ?_
        refine lv_iconst (v := (nI (5))) hx hb dL_law_1271 (by decide) ?_
        refine ln_iadd hx hb dL_law_1272 ?_
        refine va_sld hx hb hX hbl hbA hS (vp_in_nI (show i + 5 < L by omega) (by omega)) dL_law_1273 ?_
        refine ln_eqi (y := xs (i + 5)) (by rw [nI_clamp (by omega)]) ?_
        have hP := hP.subT (w' := [(d0, .inr (11, [.ref (pA), .int (nI (0)), .ref (mA), .int (nI (0)), .ref (go0), .ref (m0), .ref (fQ), .int (nI (0)), .ref (t0), .ref (g0), .ref (shA), .ref (pq), .long (0)])), (shA, .inl (cy 6, 4, .inr (.inr (.inr (.inr (va_up (va_up (va_up (va_up (fun _ => none) (0) (some (s0))) (1) (some (s1))) (2) (some (s2))) (3) (some (s3)))))))), (s3, .inr (8, [.ref (z3), .int (nI (0)), .int (nI (0))])), (z3, .inl (cy 0, 16, .inl (fun _ => 0)))]) [0, 17, 26, 27] rfl
        have hD := hD.subT (w' := [(d0, .inr (11, [.ref (pA), .int (nI (0)), .ref (mA), .int (nI (0)), .ref (go0), .ref (m0), .ref (fQ), .int (nI (0)), .ref (t0), .ref (g0), .ref (shA), .ref (pq), .long (0)])), (shA, .inl (cy 6, 4, .inr (.inr (.inr (.inr (va_up (va_up (va_up (va_up (fun _ => none) (0) (some (s0))) (1) (some (s1))) (2) (some (s2))) (3) (some (s3)))))))), (s3, .inr (8, [.ref (z3), .int (nI (0)), .int (nI (0))])), (z3, .inl (cy 0, 16, .inl (fun _ => 0)))]) [0, 17, 26, 27] (by decide) rfl
        refine nq_Vl (As := [.int (nI (3)), .int (xs (i + 2)), .int (nI (k3)), .int (xs (i + 4)), .int (xs (i + 5))]) (rest := []) (w := [(d0, .inr (11, [.ref (pA), .int (nI (0)), .ref (mA), .int (nI (0)), .ref (go0), .ref (m0), .ref (fQ), .int (nI (0)), .ref (t0), .ref (g0), .ref (shA), .ref (pq), .long (0)])), (shA, .inl (cy 6, 4, .inr (.inr (.inr (.inr (va_up (va_up (va_up (va_up (fun _ => none) (0) (some (s0))) (1) (some (s1))) (2) (some (s2))) (3) (some (s3)))))))), (s3, .inr (8, [.ref (z3), .int (nI (0)), .int (nI (0))])), (z3, .inl (cy 0, 16, .inl (fun _ => 0)))]) (wr := fM cy ad) (ci := 11) (k0 := 0) ⟨hx, hb, hml, hown, htsL⟩ (qX11_copy_m l D cy d0 pA 0 mA 0 go0 m0 fQ 0 t0 g0 shA pq 0 (va_up (va_up (va_up (va_up (fun _ => none) (0) (some (s0))) (1) (some (s1))) (2) (some (s2))) (3) (some (s3))) s3 z3 0 0 (fun _ => 0) (3) (xs (i + 2)) (k3) (xs (i + 4)) (xs (i + 5)) (by decide) rfl rfl q3 hk3 hhq3) (cwV 5 htsL gL_law_X11_copy rfl rfl rfl (by decide +kernel) ⟨Nat.le_of_ble_eq_true rfl, Nat.le_of_ble_eq_true rfl⟩) rfl rfl hP hK hD hN hS hA rfl hl.1 rfl (Nat.le_of_ble_eq_true rfl) dL_law_1274 ⟨Nat.le_of_ble_eq_true rfl, Nat.le_of_ble_eq_true rfl⟩ (fun r1 w1 H locs hq1 hP hD hS => ?_)
        have hP := hP.right
        have hD := hD.right
        refine lv_aload_n hx hb dL_law_1277 rfl (lv_at hl 1 rfl) ?_
        refine lv_aload_n hx hb dL_law_1278 rfl (lv_at hl 3 rfl) ?_
        refine lv_iload_n hx hb dL_law_1279 rfl (lv_at hl 0 rfl) ?_
        refine lv_iconst (v := (nI (1))) hx hb dL_law_1280 (by decide) ?_
        refine ln_iadd hx hb dL_law_1281 ?_
        refine va_sld hx hb hX hbl hbA hS (vp_in_nI (show i + 1 < L by omega) (by omega)) dL_law_1282 ?_
        refine ln_eqi (y := xs (i + 1)) (by rw [nI_clamp (by omega)]) ?_
        refine lv_aload_n hx hb dL_law_1283 rfl (lv_at hl 3 rfl) ?_
        refine lv_iload_n hx hb dL_law_1284 rfl (lv_at hl 0 rfl) ?_
        refine lv_iconst (v := (nI (2))) hx hb dL_law_1285 (by decide) ?_
        refine ln_iadd hx hb dL_law_1286 ?_
        refine va_sld hx hb hX hbl hbA hS (vp_in_nI (show i + 2 < L by omega) (by omega)) dL_law_1287 ?_
        refine ln_eqi (y := xs (i + 2)) (by rw [nI_clamp (by omega)]) ?_
        refine lv_aload_n hx hb dL_law_1288 rfl (lv_at hl 3 rfl) ?_
        refine lv_iload_n hx hb dL_law_1289 rfl (lv_at hl 0 rfl) ?_
        refine lv_iconst (v := (nI (3))) hx hb dL_law_1290 (by decide) ?_
        refine ln_iadd hx hb dL_law_1291 ?_
        refine va_sld hx hb hX hbl hbA hS (vp_in_nI (show i + 3 < L by omega) (by omega)) dL_law_1292 ?_
        refine ln_eqi (y := xs (i + 3)) (by rw [nI_clamp (by omega)]) ?_
        refine lv_aload_n hx hb dL_law_1293 rfl (lv_at hl 3 rfl) ?_
        refine lv_iload_n hx hb dL_law_1294 rfl (lv_at hl 0 rfl) ?_
        refine lv_iconst (v := (nI (4))) hx hb dL_law_1295 (by decide) ?_
        refine ln_iadd hx hb dL_law_1296 ?_
        refine va_sld hx hb hX hbl hbA hS (vp_in_nI (show i + 4 < L by omega) (by omega)) dL_law_1297 ?_
        refine ln_eqi (y := xs (i + 4)) (by rw [nI_clamp (by omega)]) ?_
        refine lv_aload_n hx hb dL_law_1298 rfl (lv_at hl 3 rfl) ?_
        refine lv_iload_n hx hb dL_law_1299 rfl (lv_at hl 0 rfl) ?_
        refine lv_iconst (v := (nI (5))) hx hb dL_law_1300 (by decide) ?_
        refine ln_iadd hx hb dL_law_1301 ?_
        refine va_sld hx hb hX hbl hbA hS (vp_in_nI (show i + 5 < L by omega) (by omega)) dL_law_1302 ?_
        refine ln_eqi (y := xs (i + 5)) (by rw [nI_clamp (by omega)]) ?_
        refine mq_Vl (As := [.int (xs (i + 1)), .int (xs (i + 2)), .int (xs (i + 3)), .int (xs (i + 4)), .int (xs (i + 5))]) (rest := [.long r1]) (ci := 12) (k0 := 0) ⟨hx, hb, hml, hown, htsL⟩ (cM_copy l D ad (cy 0) (cy 1) (iniA 64) (fun _ => 0) (fun _ => 0) (fun _ => 0) (fun _ => 0) (fun _ => 1) (fun _ => 0) (fun _ => 0) 0 0 0 0 0 0 0 0 0 0 0 0 0 (fun _ => 0) (fun _ => 0) (fun _ => 0) (xs (i + 1)) (xs (i + 2)) (xs (i + 3)) (xs (i + 4)) (xs (i + 5)) (fun _ _ => by decide) (fun _ _ => Or.inl rfl)) (cwV 5 htsL gL_law_X12_copy rfl rfl rfl (by decide +kernel) ⟨Nat.le_of_ble_eq_true rfl, Nat.le_of_ble_eq_true rfl⟩) rfl rfl hP hKm hD hS hA rfl hl.1 rfl (Nat.le_of_ble_eq_true rfl) dL_law_1303 ⟨Nat.le_of_ble_eq_true rfl, Nat.le_of_ble_eq_true rfl⟩ (fun r2 w2 H locs hq2 hP hD hS => ?_)
        have heq : r1 = r2 := by
          rcases hq2 with ⟨h, -⟩ | ⟨s', t', -, h2⟩
          · exact absurd ⟨ix_rg hs1, ix_rg hs3⟩ h
          · rcases h2 with ⟨-, h2, -⟩ | ⟨h3, -⟩ | ⟨h3, -⟩ | ⟨h3, -⟩
            · rw [hq1.1, h2]
            · exact absurd h3 (Nat.lt_irrefl 0)
            · exact absurd h3 (Nat.lt_irrefl 0)
            · exact absurd h3 (Nat.lt_irrefl 0)
        refine W.lcmp hx hb dL_law_1306 ?_
        refine lv_if_eq (tgt := 1374) hx hb dL_law_1307 (by decide) (fun c9 => ?_) (fun c9 => ?_)
        · exact hend _ _ _ _ (by decide) (by decide) hS
        · exact absurd ((lg_cmp_eq _ _).mpr heq) c9
    · obtain ⟨k, hk, e1⟩ := ix_of9 hs1 (by decide)
      obtain ⟨q1, hhq1⟩ : ∃ q, (va_up (va_up (va_up (va_up (fun _ => none) (0) (some (s0))) (1) (some (s1))) (2) (some (s2))) (3) (some (s3))) k = some q := by rcases (show k = 0 ∨ k = 1 ∨ k = 2 ∨ k = 3 by omega) with rfl | rfl | rfl | rfl <;> exact ⟨_, rfl⟩
      refine lv_aload_n hx hb dL_law_1248 rfl (lv_at hl 2 rfl) ?_
      refine lv_aload_n hx hb dL_law_1249 rfl (lv_at hl 3 rfl) ?_
      refine lv_iload_n hx hb dL_law_1250 rfl (lv_at hl 0 rfl) ?_
      refine lv_iconst (v := (nI (1))) hx hb dL_law_1251 (by decide) ?_
      refine ln_iadd hx hb dL_law_1252 ?_
      refine va_sld hx hb hX hbl hbA hS (vp_in_nI (show i + 1 < L by omega) (by omega)) dL_law_1253 ?_
      refine ln_eqi (y := xs (i + 1)) (by rw [nI_clamp (by omega)]) ?_
      refine ln_eqi (y := (nI (k))) e1 ?_
      refine lv_aload_n hx hb dL_law_1254 rfl (lv_at hl 3 rfl) ?_
      refine lv_iload_n hx hb dL_law_1255 rfl (lv_at hl 0 rfl) ?_
      refine lv_iconst (v := (nI (2))) hx hb dL_law_1256 (by decide) ?_
      refine ln_iadd hx hb dL_law_1257 ?_
      refine va_sld hx hb hX hbl hbA hS (vp_in_nI (show i + 2 < L by omega) (by omega)) dL_law_1258 ?_
      refine ln_eqi (y := xs (i + 2)) (by rw [nI_clamp (by omega)]) ?_
      refine lv_aload_n hx hb dL_law_1259 rfl (lv_at hl 3 rfl) ?_
      refine lv_iload_n hx hb dL_law_1260 rfl (lv_at hl 0 rfl) ?_
      refine lv_iconst (v := (nI (3))) hx hb dL_law_1261 (by decide) ?_
      refine ln_iadd hx hb dL_law_1262 ?_
      refine va_sld hx hb hX hbl hbA hS (vp_in_nI (show i + 3 < L by omega) (by omega)) dL_law_1263 ?_
      refine ln_eqi (y := xs (i + 3)) (by rw [nI_clamp (by omega)]) ?_
      refine lv_aload_n hx hb dL_law_1264 rfl (lv_at hl 3 rfl) ?_
      refine lv_iload_n hx hb dL_law_1265 rfl (lv_at hl 0 rfl) ?_
      refine lv_iconst (v := (nI (4))) hx hb dL_law_1266 (by decide) ?_
      refine ln_iadd hx hb dL_law_1267 ?_
      refine va_sld hx hb hX hbl hbA hS (vp_in_nI (show i + 4 < L by omega) (by omega)) dL_law_1268 ?_
      refine ln_eqi (y := xs (i + 4)) (by rw [nI_clamp (by omega)]) ?_
      refine lv_aload_n hx hb dL_law_1269 rfl (lv_at hl 3 rfl) ?_
      refine lv_iload_n hx hb dL_law_1270 rfl (lv_at hl 0 rfl) ?_
      refine lv_iconst (v := (nI (5))) hx hb dL_law_1271 (by decide) ?_
      refine ln_iadd hx hb dL_law_1272 ?_
      refine va_sld hx hb hX hbl hbA hS (vp_in_nI (show i + 5 < L by omega) (by omega)) dL_law_1273 ?_
      refine ln_eqi (y := xs (i + 5)) (by rw [nI_clamp (by omega)]) ?_
      have hP := hP.subT (w' := [(d0, .inr (11, [.ref (pA), .int (nI (0)), .ref (mA), .int (nI (0)), .ref (go0), .ref (m0), .ref (fQ), .int (nI (0)), .ref (t0), .ref (g0), .ref (shA), .ref (pq), .long (0)])), (shA, .inl (cy 6, 4, .inr (.inr (.inr (.inr (va_up (va_up (va_up (va_up (fun _ => none) (0) (some (s0))) (1) (some (s1))) (2) (some (s2))) (3) (some (s3))))))))]) [0, 17] rfl
      have hD := hD.subT (w' := [(d0, .inr (11, [.ref (pA), .int (nI (0)), .ref (mA), .int (nI (0)), .ref (go0), .ref (m0), .ref (fQ), .int (nI (0)), .ref (t0), .ref (g0), .ref (shA), .ref (pq), .long (0)])), (shA, .inl (cy 6, 4, .inr (.inr (.inr (.inr (va_up (va_up (va_up (va_up (fun _ => none) (0) (some (s0))) (1) (some (s1))) (2) (some (s2))) (3) (some (s3))))))))]) [0, 17] (by decide) rfl
      refine nq_Vl (As := [.int (nI (k)), .int (xs (i + 2)), .int (xs (i + 3)), .int (xs (i + 4)), .int (xs (i + 5))]) (rest := []) (w := [(d0, .inr (11, [.ref (pA), .int (nI (0)), .ref (mA), .int (nI (0)), .ref (go0), .ref (m0), .ref (fQ), .int (nI (0)), .ref (t0), .ref (g0), .ref (shA), .ref (pq), .long (0)])), (shA, .inl (cy 6, 4, .inr (.inr (.inr (.inr (va_up (va_up (va_up (va_up (fun _ => none) (0) (some (s0))) (1) (some (s1))) (2) (some (s2))) (3) (some (s3))))))))]) (wr := fM cy ad) (ci := 11) (k0 := 0) ⟨hx, hb, hml, hown, htsL⟩ (qX11_copy_yn l D cy d0 pA 0 mA 0 go0 m0 fQ 0 t0 g0 shA pq 0 (va_up (va_up (va_up (va_up (fun _ => none) (0) (some (s0))) (1) (some (s1))) (2) (some (s2))) (3) (some (s3))) (k) (xs (i + 2)) (xs (i + 3)) (xs (i + 4)) (xs (i + 5)) q1 hk hhq1 hs3) (cwV 5 htsL gL_law_X11_copy rfl rfl rfl (by decide +kernel) ⟨Nat.le_of_ble_eq_true rfl, Nat.le_of_ble_eq_true rfl⟩) rfl rfl hP hK hD hN hS hA rfl hl.1 rfl (Nat.le_of_ble_eq_true rfl) dL_law_1274 ⟨Nat.le_of_ble_eq_true rfl, Nat.le_of_ble_eq_true rfl⟩ (fun r1 w1 H locs hq1 hP hD hS => ?_)
      have hP := hP.right
      have hD := hD.right
      refine lv_aload_n hx hb dL_law_1277 rfl (lv_at hl 1 rfl) ?_
      refine lv_aload_n hx hb dL_law_1278 rfl (lv_at hl 3 rfl) ?_
      refine lv_iload_n hx hb dL_law_1279 rfl (lv_at hl 0 rfl) ?_
      refine lv_iconst (v := (nI (1))) hx hb dL_law_1280 (by decide) ?_
      refine ln_iadd hx hb dL_law_1281 ?_
      refine va_sld hx hb hX hbl hbA hS (vp_in_nI (show i + 1 < L by omega) (by omega)) dL_law_1282 ?_
      refine ln_eqi (y := xs (i + 1)) (by rw [nI_clamp (by omega)]) ?_
      refine lv_aload_n hx hb dL_law_1283 rfl (lv_at hl 3 rfl) ?_
      refine lv_iload_n hx hb dL_law_1284 rfl (lv_at hl 0 rfl) ?_
      refine lv_iconst (v := (nI (2))) hx hb dL_law_1285 (by decide) ?_
      refine ln_iadd hx hb dL_law_1286 ?_
      refine va_sld hx hb hX hbl hbA hS (vp_in_nI (show i + 2 < L by omega) (by omega)) dL_law_1287 ?_
      refine ln_eqi (y := xs (i + 2)) (by rw [nI_clamp (by omega)]) ?_
      refine lv_aload_n hx hb dL_law_1288 rfl (lv_at hl 3 rfl) ?_
      refine lv_iload_n hx hb dL_law_1289 rfl (lv_at hl 0 rfl) ?_
      refine lv_iconst (v := (nI (3))) hx hb dL_law_1290 (by decide) ?_
      refine ln_iadd hx hb dL_law_1291 ?_
      refine va_sld hx hb hX hbl hbA hS (vp_in_nI (show i + 3 < L by omega) (by omega)) dL_law_1292 ?_
      refine ln_eqi (y := xs (i + 3)) (by rw [nI_clamp (by omega)]) ?_
      refine lv_aload_n hx hb dL_law_1293 rfl (lv_at hl 3 rfl) ?_
      refine lv_iload_n hx hb dL_law_1294 rfl (lv_at hl 0 rfl) ?_
      refine lv_iconst (v := (nI (4))) hx hb dL_law_1295 (by decide) ?_
      refine ln_iadd hx hb dL_law_1296 ?_
      refine va_sld hx hb hX hbl hbA hS (vp_in_nI (show i + 4 < L by omega) (by omega)) dL_law_1297 ?_
      refine ln_eqi (y := xs (i + 4)) (by rw [nI_clamp (by omega)]) ?_
      refine lv_aload_n hx hb dL_law_1298 rfl (lv_at hl 3 rfl) ?_
      refine lv_iload_n hx hb dL_law_1299 rfl (lv_at hl 0 rfl) ?_
      refine lv_iconst (v := (nI (5))) hx hb dL_law_1300 (by decide) ?_
      refine ln_iadd hx hb dL_law_1301 ?_
      refine va_sld hx hb hX hbl hbA hS (vp_in_nI (show i + 5 < L by omega) (by omega)) dL_law_1302 ?_
      refine ln_eqi (y := xs (i + 5)) (by rw [nI_clamp (by omega)]) ?_
      refine mq_Vl (As := [.int (xs (i + 1)), .int (xs (i + 2)), .int (xs (i + 3)), .int (xs (i + 4)), .int (xs (i + 5))]) (rest := [.long r1]) (ci := 12) (k0 := 0) ⟨hx, hb, hml, hown, htsL⟩ (cM_copy l D ad (cy 0) (cy 1) (iniA 64) (fun _ => 0) (fun _ => 0) (fun _ => 0) (fun _ => 0) (fun _ => 1) (fun _ => 0) (fun _ => 0) 0 0 0 0 0 0 0 0 0 0 0 0 0 (fun _ => 0) (fun _ => 0) (fun _ => 0) (xs (i + 1)) (xs (i + 2)) (xs (i + 3)) (xs (i + 4)) (xs (i + 5)) (fun _ _ => by decide) (fun _ _ => Or.inl rfl)) (cwV 5 htsL gL_law_X12_copy rfl rfl rfl (by decide +kernel) ⟨Nat.le_of_ble_eq_true rfl, Nat.le_of_ble_eq_true rfl⟩) rfl rfl hP hKm hD hS hA rfl hl.1 rfl (Nat.le_of_ble_eq_true rfl) dL_law_1303 ⟨Nat.le_of_ble_eq_true rfl, Nat.le_of_ble_eq_true rfl⟩ (fun r2 w2 H locs hq2 hP hD hS => ?_)
      have heq : r1 = r2 := by
        rcases hq2 with ⟨-, h2, -⟩ | ⟨s', t', ⟨e1', e2', h3, h4⟩, -⟩
        · rw [hq1.1, h2]
        · exact absurd (by rw [e2']; exact ix_nI (by omega) (by decide)) hs3
      refine W.lcmp hx hb dL_law_1306 ?_
      refine lv_if_eq (tgt := 1374) hx hb dL_law_1307 (by decide) (fun c9 => ?_) (fun c9 => ?_)
      · exact hend _ _ _ _ (by decide) (by decide) hS
      · exact absurd ((lg_cmp_eq _ _).mpr heq) c9
  · by_cases hs3 : ix 4 (xs (i + 3))
    · obtain ⟨k3, hk3, e3⟩ := ix_of9 hs3 (by decide)
      obtain ⟨q3, hhq3⟩ : ∃ q, (va_up (va_up (va_up (va_up (fun _ => none) (0) (some (s0))) (1) (some (s1))) (2) (some (s2))) (3) (some (s3))) k3 = some q := by rcases (show k3 = 0 ∨ k3 = 1 ∨ k3 = 2 ∨ k3 = 3 by omega) with rfl | rfl | rfl | rfl <;> exact ⟨_, rfl⟩
      refine lv_aload_n hx hb dL_law_1248 rfl (lv_at hl 2 rfl) ?_
      refine lv_aload_n hx hb dL_law_1249 rfl (lv_at hl 3 rfl) ?_
      refine lv_iload_n hx hb dL_law_1250 rfl (lv_at hl 0 rfl) ?_
      refine lv_iconst (v := (nI (1))) hx hb dL_law_1251 (by decide) ?_
      refine ln_iadd hx hb dL_law_1252 ?_
      refine va_sld hx hb hX hbl hbA hS (vp_in_nI (show i + 1 < L by omega) (by omega)) dL_law_1253 ?_
      refine ln_eqi (y := xs (i + 1)) (by rw [nI_clamp (by omega)]) ?_
      refine lv_aload_n hx hb dL_law_1254 rfl (lv_at hl 3 rfl) ?_
      refine lv_iload_n hx hb dL_law_1255 rfl (lv_at hl 0 rfl) ?_
      refine lv_iconst (v := (nI (2))) hx hb dL_law_1256 (by decide) ?_
      refine ln_iadd hx hb dL_law_1257 ?_
      refine va_sld hx hb hX hbl hbA hS (vp_in_nI (show i + 2 < L by omega) (by omega)) dL_law_1258 ?_
      refine ln_eqi (y := xs (i + 2)) (by rw [nI_clamp (by omega)]) ?_
      refine lv_aload_n hx hb dL_law_1259 rfl (lv_at hl 3 rfl) ?_
      refine lv_iload_n hx hb dL_law_1260 rfl (lv_at hl 0 rfl) ?_
      refine lv_iconst (v := (nI (3))) hx hb dL_law_1261 (by decide) ?_
      refine ln_iadd hx hb dL_law_1262 ?_
      refine va_sld hx hb hX hbl hbA hS (vp_in_nI (show i + 3 < L by omega) (by omega)) dL_law_1263 ?_
      refine ln_eqi (y := xs (i + 3)) (by rw [nI_clamp (by omega)]) ?_
      refine ln_eqi (y := (nI (k3))) e3 ?_
      refine lv_aload_n hx hb dL_law_1264 rfl (lv_at hl 3 rfl) ?_
      refine lv_iload_n hx hb dL_law_1265 rfl (lv_at hl 0 rfl) ?_
      refine lv_iconst (v := (nI (4))) hx hb dL_law_1266 (by decide) ?_
      refine ln_iadd hx hb dL_law_1267 ?_
      refine va_sld hx hb hX hbl hbA hS (vp_in_nI (show i + 4 < L by omega) (by omega)) dL_law_1268 ?_
      refine ln_eqi (y := xs (i + 4)) (by rw [nI_clamp (by omega)]) ?_
      refine lv_aload_n hx hb dL_law_1269 rfl (lv_at hl 3 rfl) ?_
      refine lv_iload_n hx hb dL_law_1270 rfl (lv_at hl 0 rfl) ?_
      refine lv_iconst (v := (nI (5))) hx hb dL_law_1271 (by decide) ?_
      refine ln_iadd hx hb dL_law_1272 ?_
      refine va_sld hx hb hX hbl hbA hS (vp_in_nI (show i + 5 < L by omega) (by omega)) dL_law_1273 ?_
      refine ln_eqi (y := xs (i + 5)) (by rw [nI_clamp (by omega)]) ?_
      have hP := hP.subT (w' := [(d0, .inr (11, [.ref (pA), .int (nI (0)), .ref (mA), .int (nI (0)), .ref (go0), .ref (m0), .ref (fQ), .int (nI (0)), .ref (t0), .ref (g0), .ref (shA), .ref (pq), .long (0)])), (shA, .inl (cy 6, 4, .inr (.inr (.inr (.inr (va_up (va_up (va_up (va_up (fun _ => none) (0) (some (s0))) (1) (some (s1))) (2) (some (s2))) (3) (some (s3))))))))]) [0, 17] rfl
      have hD := hD.subT (w' := [(d0, .inr (11, [.ref (pA), .int (nI (0)), .ref (mA), .int (nI (0)), .ref (go0), .ref (m0), .ref (fQ), .int (nI (0)), .ref (t0), .ref (g0), .ref (shA), .ref (pq), .long (0)])), (shA, .inl (cy 6, 4, .inr (.inr (.inr (.inr (va_up (va_up (va_up (va_up (fun _ => none) (0) (some (s0))) (1) (some (s1))) (2) (some (s2))) (3) (some (s3))))))))]) [0, 17] (by decide) rfl
      refine nq_Vl (As := [.int (xs (i + 1)), .int (xs (i + 2)), .int (nI (k3)), .int (xs (i + 4)), .int (xs (i + 5))]) (rest := []) (w := [(d0, .inr (11, [.ref (pA), .int (nI (0)), .ref (mA), .int (nI (0)), .ref (go0), .ref (m0), .ref (fQ), .int (nI (0)), .ref (t0), .ref (g0), .ref (shA), .ref (pq), .long (0)])), (shA, .inl (cy 6, 4, .inr (.inr (.inr (.inr (va_up (va_up (va_up (va_up (fun _ => none) (0) (some (s0))) (1) (some (s1))) (2) (some (s2))) (3) (some (s3))))))))]) (wr := fM cy ad) (ci := 11) (k0 := 0) ⟨hx, hb, hml, hown, htsL⟩ (qX11_copy_ny l D cy d0 pA 0 mA 0 go0 m0 fQ 0 t0 g0 shA pq 0 (va_up (va_up (va_up (va_up (fun _ => none) (0) (some (s0))) (1) (some (s1))) (2) (some (s2))) (3) (some (s3))) (xs (i + 1)) (xs (i + 2)) (k3) (xs (i + 4)) (xs (i + 5)) hs1 q3 hk3 hhq3) (cwV 5 htsL gL_law_X11_copy rfl rfl rfl (by decide +kernel) ⟨Nat.le_of_ble_eq_true rfl, Nat.le_of_ble_eq_true rfl⟩) rfl rfl hP hK hD hN hS hA rfl hl.1 rfl (Nat.le_of_ble_eq_true rfl) dL_law_1274 ⟨Nat.le_of_ble_eq_true rfl, Nat.le_of_ble_eq_true rfl⟩ (fun r1 w1 H locs hq1 hP hD hS => ?_)
      have hP := hP.right
      have hD := hD.right
      refine lv_aload_n hx hb dL_law_1277 rfl (lv_at hl 1 rfl) ?_
      refine lv_aload_n hx hb dL_law_1278 rfl (lv_at hl 3 rfl) ?_
      refine lv_iload_n hx hb dL_law_1279 rfl (lv_at hl 0 rfl) ?_
      refine lv_iconst (v := (nI (1))) hx hb dL_law_1280 (by decide) ?_
      refine ln_iadd hx hb dL_law_1281 ?_
      refine va_sld hx hb hX hbl hbA hS (vp_in_nI (show i + 1 < L by omega) (by omega)) dL_law_1282 ?_
      refine ln_eqi (y := xs (i + 1)) (by rw [nI_clamp (by omega)]) ?_
      refine lv_aload_n hx hb dL_law_1283 rfl (lv_at hl 3 rfl) ?_
      refine lv_iload_n hx hb dL_law_1284 rfl (lv_at hl 0 rfl) ?_
      refine lv_iconst (v := (nI (2))) hx hb dL_law_1285 (by decide) ?_
      refine ln_iadd hx hb dL_law_1286 ?_
      refine va_sld hx hb hX hbl hbA hS (vp_in_nI (show i + 2 < L by omega) (by omega)) dL_law_1287 ?_
      refine ln_eqi (y := xs (i + 2)) (by rw [nI_clamp (by omega)]) ?_
      refine lv_aload_n hx hb dL_law_1288 rfl (lv_at hl 3 rfl) ?_
      refine lv_iload_n hx hb dL_law_1289 rfl (lv_at hl 0 rfl) ?_
      refine lv_iconst (v := (nI (3))) hx hb dL_law_1290 (by decide) ?_
      refine ln_iadd hx hb dL_law_1291 ?_
      refine va_sld hx hb hX hbl hbA hS (vp_in_nI (show i + 3 < L by omega) (by omega)) dL_law_1292 ?_
      refine ln_eqi (y := xs (i + 3)) (by rw [nI_clamp (by omega)]) ?_
      refine lv_aload_n hx hb dL_law_1293 rfl (lv_at hl 3 rfl) ?_
      refine lv_iload_n hx hb dL_law_1294 rfl (lv_at hl 0 rfl) ?_
      refine lv_iconst (v := (nI (4))) hx hb dL_law_1295 (by decide) ?_
      refine ln_iadd hx hb dL_law_1296 ?_
      refine va_sld hx hb hX hbl hbA hS (vp_in_nI (show i + 4 < L by omega) (by omega)) dL_law_1297 ?_
      refine ln_eqi (y := xs (i + 4)) (by rw [nI_clamp (by omega)]) ?_
      refine lv_aload_n hx hb dL_law_1298 rfl (lv_at hl 3 rfl) ?_
      refine lv_iload_n hx hb dL_law_1299 rfl (lv_at hl 0 rfl) ?_
      refine lv_iconst (v := (nI (5))) hx hb dL_law_1300 (by decide) ?_
      refine ln_iadd hx hb dL_law_1301 ?_
      refine va_sld hx hb hX hbl hbA hS (vp_in_nI (show i + 5 < L by omega) (by omega)) dL_law_1302 ?_
      refine ln_eqi (y := xs (i + 5)) (by rw [nI_clamp (by omega)]) ?_
      refine mq_Vl (As := [.int (xs (i + 1)), .int (xs (i + 2)), .int (xs (i + 3)), .int (xs (i + 4)), .int (xs (i + 5))]) (rest := [.long r1]) (ci := 12) (k0 := 0) ⟨hx, hb, hml, hown, htsL⟩ (cM_copy l D ad (cy 0) (cy 1) (iniA 64) (fun _ => 0) (fun _ => 0) (fun _ => 0) (fun _ => 0) (fun _ => 1) (fun _ => 0) (fun _ => 0) 0 0 0 0 0 0 0 0 0 0 0 0 0 (fun _ => 0) (fun _ => 0) (fun _ => 0) (xs (i + 1)) (xs (i + 2)) (xs (i + 3)) (xs (i + 4)) (xs (i + 5)) (fun _ _ => by decide) (fun _ _ => Or.inl rfl)) (cwV 5 htsL gL_law_X12_copy rfl rfl rfl (by decide +kernel) ⟨Nat.le_of_ble_eq_true rfl, Nat.le_of_ble_eq_true rfl⟩) rfl rfl hP hKm hD hS hA rfl hl.1 rfl (Nat.le_of_ble_eq_true rfl) dL_law_1303 ⟨Nat.le_of_ble_eq_true rfl, Nat.le_of_ble_eq_true rfl⟩ (fun r2 w2 H locs hq2 hP hD hS => ?_)
      have heq : r1 = r2 := by
        rcases hq2 with ⟨-, h2, -⟩ | ⟨s', t', ⟨e1', e2', h3, h4⟩, -⟩
        · rw [hq1.1, h2]
        · exact absurd (by rw [e1']; exact ix_nI (by omega) (by decide)) hs1
      refine W.lcmp hx hb dL_law_1306 ?_
      refine lv_if_eq (tgt := 1374) hx hb dL_law_1307 (by decide) (fun c9 => ?_) (fun c9 => ?_)
      · exact hend _ _ _ _ (by decide) (by decide) hS
      · exact absurd ((lg_cmp_eq _ _).mpr heq) c9
    · have hs0 := hs1
      refine lv_aload_n hx hb dL_law_1248 rfl (lv_at hl 2 rfl) ?_
      refine lv_aload_n hx hb dL_law_1249 rfl (lv_at hl 3 rfl) ?_
      refine lv_iload_n hx hb dL_law_1250 rfl (lv_at hl 0 rfl) ?_
      refine lv_iconst (v := (nI (1))) hx hb dL_law_1251 (by decide) ?_
      refine ln_iadd hx hb dL_law_1252 ?_
      refine va_sld hx hb hX hbl hbA hS (vp_in_nI (show i + 1 < L by omega) (by omega)) dL_law_1253 ?_
      refine ln_eqi (y := xs (i + 1)) (by rw [nI_clamp (by omega)]) ?_
      refine lv_aload_n hx hb dL_law_1254 rfl (lv_at hl 3 rfl) ?_
      refine lv_iload_n hx hb dL_law_1255 rfl (lv_at hl 0 rfl) ?_
      refine lv_iconst (v := (nI (2))) hx hb dL_law_1256 (by decide) ?_
      refine ln_iadd hx hb dL_law_1257 ?_
      refine va_sld hx hb hX hbl hbA hS (vp_in_nI (show i + 2 < L by omega) (by omega)) dL_law_1258 ?_
      refine ln_eqi (y := xs (i + 2)) (by rw [nI_clamp (by omega)]) ?_
      refine lv_aload_n hx hb dL_law_1259 rfl (lv_at hl 3 rfl) ?_
      refine lv_iload_n hx hb dL_law_1260 rfl (lv_at hl 0 rfl) ?_
      refine lv_iconst (v := (nI (3))) hx hb dL_law_1261 (by decide) ?_
      refine ln_iadd hx hb dL_law_1262 ?_
      refine va_sld hx hb hX hbl hbA hS (vp_in_nI (show i + 3 < L by omega) (by omega)) dL_law_1263 ?_
      refine ln_eqi (y := xs (i + 3)) (by rw [nI_clamp (by omega)]) ?_
      refine lv_aload_n hx hb dL_law_1264 rfl (lv_at hl 3 rfl) ?_
      refine lv_iload_n hx hb dL_law_1265 rfl (lv_at hl 0 rfl) ?_
      refine lv_iconst (v := (nI (4))) hx hb dL_law_1266 (by decide) ?_
      refine ln_iadd hx hb dL_law_1267 ?_
      refine va_sld hx hb hX hbl hbA hS (vp_in_nI (show i + 4 < L by omega) (by omega)) dL_law_1268 ?_
      refine ln_eqi (y := xs (i + 4)) (by rw [nI_clamp (by omega)]) ?_
      refine lv_aload_n hx hb dL_law_1269 rfl (lv_at hl 3 rfl) ?_
      refine lv_iload_n hx hb dL_law_1270 rfl (lv_at hl 0 rfl) ?_
      refine lv_iconst (v := (nI (5))) hx hb dL_law_1271 (by decide) ?_
      refine ln_iadd hx hb dL_law_1272 ?_
      refine va_sld hx hb hX hbl hbA hS (vp_in_nI (show i + 5 < L by omega) (by omega)) dL_law_1273 ?_
      refine ln_eqi (y := xs (i + 5)) (by rw [nI_clamp (by omega)]) ?_
      have hP := hP.subT (w' := [(d0, .inr (11, [.ref (pA), .int (nI (0)), .ref (mA), .int (nI (0)), .ref (go0), .ref (m0), .ref (fQ), .int (nI (0)), .ref (t0), .ref (g0), .ref (shA), .ref (pq), .long (0)])), (shA, .inl (cy 6, 4, .inr (.inr (.inr (.inr (va_up (va_up (va_up (va_up (fun _ => none) (0) (some (s0))) (1) (some (s1))) (2) (some (s2))) (3) (some (s3))))))))]) [0, 17] rfl
      have hD := hD.subT (w' := [(d0, .inr (11, [.ref (pA), .int (nI (0)), .ref (mA), .int (nI (0)), .ref (go0), .ref (m0), .ref (fQ), .int (nI (0)), .ref (t0), .ref (g0), .ref (shA), .ref (pq), .long (0)])), (shA, .inl (cy 6, 4, .inr (.inr (.inr (.inr (va_up (va_up (va_up (va_up (fun _ => none) (0) (some (s0))) (1) (some (s1))) (2) (some (s2))) (3) (some (s3))))))))]) [0, 17] (by decide) rfl
      refine nq_Vl (As := [.int (xs (i + 1)), .int (xs (i + 2)), .int (xs (i + 3)), .int (xs (i + 4)), .int (xs (i + 5))]) (rest := []) (w := [(d0, .inr (11, [.ref (pA), .int (nI (0)), .ref (mA), .int (nI (0)), .ref (go0), .ref (m0), .ref (fQ), .int (nI (0)), .ref (t0), .ref (g0), .ref (shA), .ref (pq), .long (0)])), (shA, .inl (cy 6, 4, .inr (.inr (.inr (.inr (va_up (va_up (va_up (va_up (fun _ => none) (0) (some (s0))) (1) (some (s1))) (2) (some (s2))) (3) (some (s3))))))))]) (wr := fM cy ad) (ci := 11) (k0 := 0) ⟨hx, hb, hml, hown, htsL⟩ (qX11_copy_nn l D cy d0 pA 0 mA 0 go0 m0 fQ 0 t0 g0 shA pq 0 (va_up (va_up (va_up (va_up (fun _ => none) (0) (some (s0))) (1) (some (s1))) (2) (some (s2))) (3) (some (s3))) (xs (i + 1)) (xs (i + 2)) (xs (i + 3)) (xs (i + 4)) (xs (i + 5)) hs1 hs3) (cwV 5 htsL gL_law_X11_copy rfl rfl rfl (by decide +kernel) ⟨Nat.le_of_ble_eq_true rfl, Nat.le_of_ble_eq_true rfl⟩) rfl rfl hP hK hD hN hS hA rfl hl.1 rfl (Nat.le_of_ble_eq_true rfl) dL_law_1274 ⟨Nat.le_of_ble_eq_true rfl, Nat.le_of_ble_eq_true rfl⟩ (fun r1 w1 H locs hq1 hP hD hS => ?_)
      have hP := hP.right
      have hD := hD.right
      refine lv_aload_n hx hb dL_law_1277 rfl (lv_at hl 1 rfl) ?_
      refine lv_aload_n hx hb dL_law_1278 rfl (lv_at hl 3 rfl) ?_
      refine lv_iload_n hx hb dL_law_1279 rfl (lv_at hl 0 rfl) ?_
      refine lv_iconst (v := (nI (1))) hx hb dL_law_1280 (by decide) ?_
      refine ln_iadd hx hb dL_law_1281 ?_
      refine va_sld hx hb hX hbl hbA hS (vp_in_nI (show i + 1 < L by omega) (by omega)) dL_law_1282 ?_
      refine ln_eqi (y := xs (i + 1)) (by rw [nI_clamp (by omega)]) ?_
      refine lv_aload_n hx hb dL_law_1283 rfl (lv_at hl 3 rfl) ?_
      refine lv_iload_n hx hb dL_law_1284 rfl (lv_at hl 0 rfl) ?_
      refine lv_iconst (v := (nI (2))) hx hb dL_law_1285 (by decide) ?_
      refine ln_iadd hx hb dL_law_1286 ?_
      refine va_sld hx hb hX hbl hbA hS (vp_in_nI (show i + 2 < L by omega) (by omega)) dL_law_1287 ?_
      refine ln_eqi (y := xs (i + 2)) (by rw [nI_clamp (by omega)]) ?_
      refine lv_aload_n hx hb dL_law_1288 rfl (lv_at hl 3 rfl) ?_
      refine lv_iload_n hx hb dL_law_1289 rfl (lv_at hl 0 rfl) ?_
      refine lv_iconst (v := (nI (3))) hx hb dL_law_1290 (by decide) ?_
      refine ln_iadd hx hb dL_law_1291 ?_
      refine va_sld hx hb hX hbl hbA hS (vp_in_nI (show i + 3 < L by omega) (by omega)) dL_law_1292 ?_
      refine ln_eqi (y := xs (i + 3)) (by rw [nI_clamp (by omega)]) ?_
      refine lv_aload_n hx hb dL_law_1293 rfl (lv_at hl 3 rfl) ?_
      refine lv_iload_n hx hb dL_law_1294 rfl (lv_at hl 0 rfl) ?_
      refine lv_iconst (v := (nI (4))) hx hb dL_law_1295 (by decide) ?_
      refine ln_iadd hx hb dL_law_1296 ?_
      refine va_sld hx hb hX hbl hbA hS (vp_in_nI (show i + 4 < L by omega) (by omega)) dL_law_1297 ?_
      refine ln_eqi (y := xs (i + 4)) (by rw [nI_clamp (by omega)]) ?_
      refine lv_aload_n hx hb dL_law_1298 rfl (lv_at hl 3 rfl) ?_
      refine lv_iload_n hx hb dL_law_1299 rfl (lv_at hl 0 rfl) ?_
      refine lv_iconst (v := (nI (5))) hx hb dL_law_1300 (by decide) ?_
      refine ln_iadd hx hb dL_law_1301 ?_
      refine va_sld hx hb hX hbl hbA hS (vp_in_nI (show i + 5 < L by omega) (by omega)) dL_law_1302 ?_
      refine ln_eqi (y := xs (i + 5)) (by rw [nI_clamp (by omega)]) ?_
      refine mq_Vl (As := [.int (xs (i + 1)), .int (xs (i + 2)), .int (xs (i + 3)), .int (xs (i + 4)), .int (xs (i + 5))]) (rest := [.long r1]) (ci := 12) (k0 := 0) ⟨hx, hb, hml, hown, htsL⟩ (cM_copy l D ad (cy 0) (cy 1) (iniA 64) (fun _ => 0) (fun _ => 0) (fun _ => 0) (fun _ => 0) (fun _ => 1) (fun _ => 0) (fun _ => 0) 0 0 0 0 0 0 0 0 0 0 0 0 0 (fun _ => 0) (fun _ => 0) (fun _ => 0) (xs (i + 1)) (xs (i + 2)) (xs (i + 3)) (xs (i + 4)) (xs (i + 5)) (fun _ _ => by decide) (fun _ _ => Or.inl rfl)) (cwV 5 htsL gL_law_X12_copy rfl rfl rfl (by decide +kernel) ⟨Nat.le_of_ble_eq_true rfl, Nat.le_of_ble_eq_true rfl⟩) rfl rfl hP hKm hD hS hA rfl hl.1 rfl (Nat.le_of_ble_eq_true rfl) dL_law_1303 ⟨Nat.le_of_ble_eq_true rfl, Nat.le_of_ble_eq_true rfl⟩ (fun r2 w2 H locs hq2 hP hD hS => ?_)
      have heq : r1 = r2 := by
        rcases hq2 with ⟨-, h2, -⟩ | ⟨s', t', ⟨e1', e2', h3, h4⟩, -⟩
        · rw [hq1.1, h2]
        · exact absurd (by rw [e1']; exact ix_nI (by omega) (by decide)) hs1
      refine W.lcmp hx hb dL_law_1306 ?_
      refine lv_if_eq (tgt := 1374) hx hb dL_law_1307 (by decide) (fun c9 => ?_) (fun c9 => ?_)
      · exact hend _ _ _ _ (by decide) (by decide) hS
      · exact absurd ((lg_cmp_eq _ _).mpr heq) c9
set_option maxHeartbeats 4000000 in
set_option maxRecDepth 100000 in
theorem law_27 (l : Launch) {p : Program} {e : Env} {s : State} {m : MethodId} {below : List Frame} {meth : Method} {c : Code} {b L : Nat} {xs : Nat → Int32} (C0 : lw_At p s m meth c b L xs) {D : va_G} {cy : Nat → ClassId} (hK : va_K D vwCl (cT cy) s) (hN : nst s) {i : Nat} (hi : i + 7 ≤ L) (hL : L ≤ 3584) {d0 pA mA go0 ga0 gb0 gc0 m0 sA rA fQ t0 up lo g0 ga ho shA pq sA0 s0 z0 s1 z1 s2 z2 s3 z3 : Nat} {sa ra ad : Nat → Nat} {H : Heap} {locs : List Loc} {ls : Array Slot} (hP : va_P D vwCl (fC cy d0 pA mA go0 ga0 gb0 gc0 m0 sA rA fQ t0 up lo g0 ga ho shA pq sA0 s0 z0 s1 z1 s2 z2 s3 z3 sa ra ++ fM cy ad) H) (hD : va_D (fun q : Nat => s.heap.size ≤ q) (fC cy d0 pA mA go0 ga0 gb0 gc0 m0 sA rA fQ t0 up lo g0 ga ho shA pq sA0 s0 z0 s1 z1 s2 z2 s3 z3 sa ra ++ fM cy ad)) (hS : va_S (fun q : Nat => s.heap.size ≤ q) s.heap H locs) (hl : lv_has ls 4 [(3, .int (nI i)), (2, .ref (ad 0)), (1, .ref d0), (0, .ref b)]) (hend : ∀ (H : Heap) (locs : List Loc) (cs sl : Nat), cs ≤ 1000 → sl ≤ 20000 → va_S (fun q : Nat => s.heap.size ≤ q) s.heap H locs → W p l e room_1 s m #[Value.ref b] below meth c H locs cs sl (lw_Z below #[Value.ref b] s) (F0 m 1374 ls [])) : W p l e room_1 s m #[Value.ref b] below meth c H locs 100 15000 (lw_Z below #[Value.ref b] s) (F0 m 1312 ls []) := by
  obtain ⟨hx, hb, hr, hml, hown, hts, hX, hbl, hlocks, hgv⟩ := C0
  have htsL : ∀ w ∈ wsL_law, w.before #[Value.ref b] s = true := fun w h => hts w (wsL_law_in w h)
  have hown : s.vm.findClass RL = some m.cls := hown
  have hA : ∀ q : Nat, s.heap.size ≤ q → (fun q : Nat => s.heap.size ≤ q) q := fun _ h => h
  have hbA : ¬ (fun q : Nat => s.heap.size ≤ q) b := Nat.not_le.mpr hbl
  have hKm : va_K D vwCl (mT (cy 0) (cy 1)) s := hK.sub [0, 1] rfl
  by_cases hs1 : ix 4 (xs (i + 1))
  · obtain ⟨k, hk, e1⟩ := ix_of9 hs1 (by decide)
    rcases (show k = 0 ∨ k = 1 ∨ k = 2 ∨ k = 3 by omega) with rfl | rfl | rfl | rfl
    · have hs0 := hs1
      refine lv_aload_n hx hb dL_law_1312 rfl (lv_at hl 2 rfl) ?_
      refine lv_aload_n hx hb dL_law_1313 rfl (lv_at hl 3 rfl) ?_
      refine lv_iload_n hx hb dL_law_1314 rfl (lv_at hl 0 rfl) ?_
      refine lv_iconst (v := (nI (1))) hx hb dL_law_1315 (by decide) ?_
      refine ln_iadd hx hb dL_law_1316 ?_
      refine va_sld hx hb hX hbl hbA hS (vp_in_nI (show i + 1 < L by omega) (by omega)) dL_law_1317 ?_
      refine ln_eqi (y := xs (i + 1)) (by rw [nI_clamp (by omega)]) ?_
      refine ln_eqi (y := (nI (0))) e1 ?_
      have hP := hP.subT (w' := [(d0, .inr (11, [.ref (pA), .int (nI (0)), .ref (mA), .int (nI (0)), .ref (go0), .ref (m0), .ref (fQ), .int (nI (0)), .ref (t0), .ref (g0), .ref (shA), .ref (pq), .long (0)])), (shA, .inl (cy 6, 4, .inr (.inr (.inr (.inr (va_up (va_up (va_up (va_up (fun _ => none) (0) (some (s0))) (1) (some (s1))) (2) (some (s2))) (3) (some (s3)))))))), (s0, .inr (8, [.ref (z0), .int (nI (0)), .int (nI (0))])), (z0, .inl (cy 0, 16, .inl (fun _ => 0)))]) [0, 17, 20, 21] rfl
      have hD := hD.subT (w' := [(d0, .inr (11, [.ref (pA), .int (nI (0)), .ref (mA), .int (nI (0)), .ref (go0), .ref (m0), .ref (fQ), .int (nI (0)), .ref (t0), .ref (g0), .ref (shA), .ref (pq), .long (0)])), (shA, .inl (cy 6, 4, .inr (.inr (.inr (.inr (va_up (va_up (va_up (va_up (fun _ => none) (0) (some (s0))) (1) (some (s1))) (2) (some (s2))) (3) (some (s3)))))))), (s0, .inr (8, [.ref (z0), .int (nI (0)), .int (nI (0))])), (z0, .inl (cy 0, 16, .inl (fun _ => 0)))]) [0, 17, 20, 21] (by decide) rfl
      refine nq_Vl (As := [.int (nI (0))]) (rest := []) (w := [(d0, .inr (11, [.ref (pA), .int (nI (0)), .ref (mA), .int (nI (0)), .ref (go0), .ref (m0), .ref (fQ), .int (nI (0)), .ref (t0), .ref (g0), .ref (shA), .ref (pq), .long (0)])), (shA, .inl (cy 6, 4, .inr (.inr (.inr (.inr (va_up (va_up (va_up (va_up (fun _ => none) (0) (some (s0))) (1) (some (s1))) (2) (some (s2))) (3) (some (s3)))))))), (s0, .inr (8, [.ref (z0), .int (nI (0)), .int (nI (0))])), (z0, .inl (cy 0, 16, .inl (fun _ => 0)))]) (wr := fM cy ad) (ci := 11) (k0 := 0) ⟨hx, hb, hml, hown, htsL⟩ (qX11_text_m l D cy d0 pA 0 mA 0 go0 m0 fQ 0 t0 g0 shA pq 0 (va_up (va_up (va_up (va_up (fun _ => none) (0) (some (s0))) (1) (some (s1))) (2) (some (s2))) (3) (some (s3))) s0 z0 0 0 (fun _ => 0) (0) (by decide) rfl rfl) (cwV 1 htsL gL_law_X11_text rfl rfl rfl (by decide +kernel) ⟨Nat.le_of_ble_eq_true rfl, Nat.le_of_ble_eq_true rfl⟩) rfl rfl hP hK hD hN hS hA rfl hl.1 rfl (Nat.le_of_ble_eq_true rfl) dL_law_1318 ⟨Nat.le_of_ble_eq_true rfl, Nat.le_of_ble_eq_true rfl⟩ (fun r1 w1 H locs hq1 hP hD hS => ?_)
      have hP := hP.right
      have hD := hD.right
      refine lv_aload_n hx hb dL_law_1321 rfl (lv_at hl 1 rfl) ?_
      refine lv_aload_n hx hb dL_law_1322 rfl (lv_at hl 3 rfl) ?_
      refine lv_iload_n hx hb dL_law_1323 rfl (lv_at hl 0 rfl) ?_
      refine lv_iconst (v := (nI (1))) hx hb dL_law_1324 (by decide) ?_
      refine ln_iadd hx hb dL_law_1325 ?_
      refine va_sld hx hb hX hbl hbA hS (vp_in_nI (show i + 1 < L by omega) (by omega)) dL_law_1326 ?_
      refine ln_eqi (y := xs (i + 1)) (by rw [nI_clamp (by omega)]) ?_
      refine mq_Vl (As := [.int (xs (i + 1))]) (rest := [.long r1]) (ci := 12) (k0 := 0) ⟨hx, hb, hml, hown, htsL⟩ (cM_text l D ad (cy 0) (cy 1) (iniA 64) (fun _ => 0) (fun _ => 0) (fun _ => 0) (fun _ => 0) (fun _ => 1) (fun _ => 0) (fun _ => 0) 0 0 0 0 0 0 0 0 0 0 0 0 0 (fun _ => 0) (fun _ => 0) (fun _ => 0) (xs (i + 1)) (fun _ _ => by decide) (fun _ _ => Or.inl rfl) (by decide) (by decide)) (cwV 1 htsL gL_law_X12_text rfl rfl rfl (by decide +kernel) ⟨Nat.le_of_ble_eq_true rfl, Nat.le_of_ble_eq_true rfl⟩) rfl rfl hP hKm hD hS hA rfl hl.1 rfl (Nat.le_of_ble_eq_true rfl) dL_law_1327 ⟨Nat.le_of_ble_eq_true rfl, Nat.le_of_ble_eq_true rfl⟩ (fun r2 w2 H locs hq2 hP hD hS => ?_)
      have heq : r1 = r2 := by
        rcases hq2 with ⟨h, -⟩ | ⟨s', -, h2⟩
        · exact absurd (ix_rg hs1) h
        · rcases h2 with ⟨-, h2, -⟩ | ⟨h3, -⟩ | ⟨h3, -⟩ | ⟨h3, -⟩
          · rw [hq1.1, h2]
          · exact absurd h3 (Nat.lt_irrefl 0)
          · exact absurd h3 (Nat.lt_irrefl 0)
          · exact absurd h3 (Nat.lt_irrefl 0)
      refine W.lcmp hx hb dL_law_1330 ?_
      refine lv_if_eq (tgt := 1374) hx hb dL_law_1331 (by decide) (fun c9 => ?_) (fun c9 => ?_)
      · exact hend _ _ _ _ (by decide) (by decide) hS
      · exact absurd ((lg_cmp_eq _ _).mpr heq) c9
    · have hs0 := hs1
      refine lv_aload_n hx hb dL_law_1312 rfl (lv_at hl 2 rfl) ?_
      refine lv_aload_n hx hb dL_law_1313 rfl (lv_at hl 3 rfl) ?_
      refine lv_iload_n hx hb dL_law_1314 rfl (lv_at hl 0 rfl) ?_
      refine lv_iconst (v := (nI (1))) hx hb dL_law_1315 (by decide) ?_
      refine ln_iadd hx hb dL_law_1316 ?_
      refine va_sld hx hb hX hbl hbA hS (vp_in_nI (show i + 1 < L by omega) (by omega)) dL_law_1317 ?_
      refine ln_eqi (y := xs (i + 1)) (by rw [nI_clamp (by omega)]) ?_
      refine ln_eqi (y := (nI (1))) e1 ?_
      have hP := hP.subT (w' := [(d0, .inr (11, [.ref (pA), .int (nI (0)), .ref (mA), .int (nI (0)), .ref (go0), .ref (m0), .ref (fQ), .int (nI (0)), .ref (t0), .ref (g0), .ref (shA), .ref (pq), .long (0)])), (shA, .inl (cy 6, 4, .inr (.inr (.inr (.inr (va_up (va_up (va_up (va_up (fun _ => none) (0) (some (s0))) (1) (some (s1))) (2) (some (s2))) (3) (some (s3)))))))), (s1, .inr (8, [.ref (z1), .int (nI (0)), .int (nI (0))])), (z1, .inl (cy 0, 16, .inl (fun _ => 0)))]) [0, 17, 22, 23] rfl
      have hD := hD.subT (w' := [(d0, .inr (11, [.ref (pA), .int (nI (0)), .ref (mA), .int (nI (0)), .ref (go0), .ref (m0), .ref (fQ), .int (nI (0)), .ref (t0), .ref (g0), .ref (shA), .ref (pq), .long (0)])), (shA, .inl (cy 6, 4, .inr (.inr (.inr (.inr (va_up (va_up (va_up (va_up (fun _ => none) (0) (some (s0))) (1) (some (s1))) (2) (some (s2))) (3) (some (s3)))))))), (s1, .inr (8, [.ref (z1), .int (nI (0)), .int (nI (0))])), (z1, .inl (cy 0, 16, .inl (fun _ => 0)))]) [0, 17, 22, 23] (by decide) rfl
      refine nq_Vl (As := [.int (nI (1))]) (rest := []) (w := [(d0, .inr (11, [.ref (pA), .int (nI (0)), .ref (mA), .int (nI (0)), .ref (go0), .ref (m0), .ref (fQ), .int (nI (0)), .ref (t0), .ref (g0), .ref (shA), .ref (pq), .long (0)])), (shA, .inl (cy 6, 4, .inr (.inr (.inr (.inr (va_up (va_up (va_up (va_up (fun _ => none) (0) (some (s0))) (1) (some (s1))) (2) (some (s2))) (3) (some (s3)))))))), (s1, .inr (8, [.ref (z1), .int (nI (0)), .int (nI (0))])), (z1, .inl (cy 0, 16, .inl (fun _ => 0)))]) (wr := fM cy ad) (ci := 11) (k0 := 0) ⟨hx, hb, hml, hown, htsL⟩ (qX11_text_m l D cy d0 pA 0 mA 0 go0 m0 fQ 0 t0 g0 shA pq 0 (va_up (va_up (va_up (va_up (fun _ => none) (0) (some (s0))) (1) (some (s1))) (2) (some (s2))) (3) (some (s3))) s1 z1 0 0 (fun _ => 0) (1) (by decide) rfl rfl) (cwV 1 htsL gL_law_X11_text rfl rfl rfl (by decide +kernel) ⟨Nat.le_of_ble_eq_true rfl, Nat.le_of_ble_eq_true rfl⟩) rfl rfl hP hK hD hN hS hA rfl hl.1 rfl (Nat.le_of_ble_eq_true rfl) dL_law_1318 ⟨Nat.le_of_ble_eq_true rfl, Nat.le_of_ble_eq_true rfl⟩ (fun r1 w1 H locs hq1 hP hD hS => ?_)
      have hP := hP.right
      have hD := hD.right
      refine lv_aload_n hx hb dL_law_1321 rfl (lv_at hl 1 rfl) ?_
      refine lv_aload_n hx hb dL_law_1322 rfl (lv_at hl 3 rfl) ?_
      refine lv_iload_n hx hb dL_law_1323 rfl (lv_at hl 0 rfl) ?_
      refine lv_iconst (v := (nI (1))) hx hb dL_law_1324 (by decide) ?_
      refine ln_iadd hx hb dL_law_1325 ?_
      refine va_sld hx hb hX hbl hbA hS (vp_in_nI (show i + 1 < L by omega) (by omega)) dL_law_1326 ?_
      refine ln_eqi (y := xs (i + 1)) (by rw [nI_clamp (by omega)]) ?_
      refine mq_Vl (As := [.int (xs (i + 1))]) (rest := [.long r1]) (ci := 12) (k0 := 0) ⟨hx, hb, hml, hown, htsL⟩ (cM_text l D ad (cy 0) (cy 1) (iniA 64) (fun _ => 0) (fun _ => 0) (fun _ => 0) (fun _ => 0) (fun _ => 1) (fun _ => 0) (fun _ => 0) 0 0 0 0 0 0 0 0 0 0 0 0 0 (fun _ => 0) (fun _ => 0) (fun _ => 0) (xs (i + 1)) (fun _ _ => by decide) (fun _ _ => Or.inl rfl) (by decide) (by decide)) (cwV 1 htsL gL_law_X12_text rfl rfl rfl (by decide +kernel) ⟨Nat.le_of_ble_eq_true rfl, Nat.le_of_ble_eq_true rfl⟩) rfl rfl hP hKm hD hS hA rfl hl.1 rfl (Nat.le_of_ble_eq_true rfl) dL_law_1327 ⟨Nat.le_of_ble_eq_true rfl, Nat.le_of_ble_eq_true rfl⟩ (fun r2 w2 H locs hq2 hP hD hS => ?_)
      have heq : r1 = r2 := by
        rcases hq2 with ⟨h, -⟩ | ⟨s', -, h2⟩
        · exact absurd (ix_rg hs1) h
        · rcases h2 with ⟨-, h2, -⟩ | ⟨h3, -⟩ | ⟨h3, -⟩ | ⟨h3, -⟩
          · rw [hq1.1, h2]
          · exact absurd h3 (Nat.lt_irrefl 0)
          · exact absurd h3 (Nat.lt_irrefl 0)
          · exact absurd h3 (Nat.lt_irrefl 0)
      refine W.lcmp hx hb dL_law_1330 ?_
      refine lv_if_eq (tgt := 1374) hx hb dL_law_1331 (by decide) (fun c9 => ?_) (fun c9 => ?_)
      · exact hend _ _ _ _ (by decide) (by decide) hS
      · exact absurd ((lg_cmp_eq _ _).mpr heq) c9
    · have hs0 := hs1
      refine lv_aload_n hx hb dL_law_1312 rfl (lv_at hl 2 rfl) ?_
      refine lv_aload_n hx hb dL_law_1313 rfl (lv_at hl 3 rfl) ?_
      refine lv_iload_n hx hb dL_law_1314 rfl (lv_at hl 0 rfl) ?_
      refine lv_iconst (v := (nI (1))) hx hb dL_law_1315 (by decide) ?_
      refine ln_iadd hx hb dL_law_1316 ?_
      refine va_sld hx hb hX hbl hbA hS (vp_in_nI (show i + 1 < L by omega) (by omega)) dL_law_1317 ?_
      refine ln_eqi (y := xs (i + 1)) (by rw [nI_clamp (by omega)]) ?_
      refine ln_eqi (y := (nI (2))) e1 ?_
      have hP := hP.subT (w' := [(d0, .inr (11, [.ref (pA), .int (nI (0)), .ref (mA), .int (nI (0)), .ref (go0), .ref (m0), .ref (fQ), .int (nI (0)), .ref (t0), .ref (g0), .ref (shA), .ref (pq), .long (0)])), (shA, .inl (cy 6, 4, .inr (.inr (.inr (.inr (va_up (va_up (va_up (va_up (fun _ => none) (0) (some (s0))) (1) (some (s1))) (2) (some (s2))) (3) (some (s3)))))))), (s2, .inr (8, [.ref (z2), .int (nI (0)), .int (nI (0))])), (z2, .inl (cy 0, 16, .inl (fun _ => 0)))]) [0, 17, 24, 25] rfl
      have hD := hD.subT (w' := [(d0, .inr (11, [.ref (pA), .int (nI (0)), .ref (mA), .int (nI (0)), .ref (go0), .ref (m0), .ref (fQ), .int (nI (0)), .ref (t0), .ref (g0), .ref (shA), .ref (pq), .long (0)])), (shA, .inl (cy 6, 4, .inr (.inr (.inr (.inr (va_up (va_up (va_up (va_up (fun _ => none) (0) (some (s0))) (1) (some (s1))) (2) (some (s2))) (3) (some (s3)))))))), (s2, .inr (8, [.ref (z2), .int (nI (0)), .int (nI (0))])), (z2, .inl (cy 0, 16, .inl (fun _ => 0)))]) [0, 17, 24, 25] (by decide) rfl
      refine nq_Vl (As := [.int (nI (2))]) (rest := []) (w := [(d0, .inr (11, [.ref (pA), .int (nI (0)), .ref (mA), .int (nI (0)), .ref (go0), .ref (m0), .ref (fQ), .int (nI (0)), .ref (t0), .ref (g0), .ref (shA), .ref (pq), .long (0)])), (shA, .inl (cy 6, 4, .inr (.inr (.inr (.inr (va_up (va_up (va_up (va_up (fun _ => none) (0) (some (s0))) (1) (some (s1))) (2) (some (s2))) (3) (some (s3)))))))), (s2, .inr (8, [.ref (z2), .int (nI (0)), .int (nI (0))])), (z2, .inl (cy 0, 16, .inl (fun _ => 0)))]) (wr := fM cy ad) (ci := 11) (k0 := 0) ⟨hx, hb, hml, hown, htsL⟩ (qX11_text_m l D cy d0 pA 0 mA 0 go0 m0 fQ 0 t0 g0 shA pq 0 (va_up (va_up (va_up (va_up (fun _ => none) (0) (some (s0))) (1) (some (s1))) (2) (some (s2))) (3) (some (s3))) s2 z2 0 0 (fun _ => 0) (2) (by decide) rfl rfl) (cwV 1 htsL gL_law_X11_text rfl rfl rfl (by decide +kernel) ⟨Nat.le_of_ble_eq_true rfl, Nat.le_of_ble_eq_true rfl⟩) rfl rfl hP hK hD hN hS hA rfl hl.1 rfl (Nat.le_of_ble_eq_true rfl) dL_law_1318 ⟨Nat.le_of_ble_eq_true rfl, Nat.le_of_ble_eq_true rfl⟩ (fun r1 w1 H locs hq1 hP hD hS => ?_)
      have hP := hP.right
      have hD := hD.right
      refine lv_aload_n hx hb dL_law_1321 rfl (lv_at hl 1 rfl) ?_
      refine lv_aload_n hx hb dL_law_1322 rfl (lv_at hl 3 rfl) ?_
      refine lv_iload_n hx hb dL_law_1323 rfl (lv_at hl 0 rfl) ?_
      refine lv_iconst (v := (nI (1))) hx hb dL_law_1324 (by decide) ?_
      refine ln_iadd hx hb dL_law_1325 ?_
      refine va_sld hx hb hX hbl hbA hS (vp_in_nI (show i + 1 < L by omega) (by omega)) dL_law_1326 ?_
      refine ln_eqi (y := xs (i + 1)) (by rw [nI_clamp (by omega)]) ?_
      refine mq_Vl (As := [.int (xs (i + 1))]) (rest := [.long r1]) (ci := 12) (k0 := 0) ⟨hx, hb, hml, hown, htsL⟩ (cM_text l D ad (cy 0) (cy 1) (iniA 64) (fun _ => 0) (fun _ => 0) (fun _ => 0) (fun _ => 0) (fun _ => 1) (fun _ => 0) (fun _ => 0) 0 0 0 0 0 0 0 0 0 0 0 0 0 (fun _ => 0) (fun _ => 0) (fun _ => 0) (xs (i + 1)) (fun _ _ => by decide) (fun _ _ => Or.inl rfl) (by decide) (by decide)) (cwV 1 htsL gL_law_X12_text rfl rfl rfl (by decide +kernel) ⟨Nat.le_of_ble_eq_true rfl, Nat.le_of_ble_eq_true rfl⟩) rfl rfl hP hKm hD hS hA rfl hl.1 rfl (Nat.le_of_ble_eq_true rfl) dL_law_1327 ⟨Nat.le_of_ble_eq_true rfl, Nat.le_of_ble_eq_true rfl⟩ (fun r2 w2 H locs hq2 hP hD hS => ?_)
      have heq : r1 = r2 := by
        rcases hq2 with ⟨h, -⟩ | ⟨s', -, h2⟩
        · exact absurd (ix_rg hs1) h
        · rcases h2 with ⟨-, h2, -⟩ | ⟨h3, -⟩ | ⟨h3, -⟩ | ⟨h3, -⟩
          · rw [hq1.1, h2]
          · exact absurd h3 (Nat.lt_irrefl 0)
          · exact absurd h3 (Nat.lt_irrefl 0)
          · exact absurd h3 (Nat.lt_irrefl 0)
      refine W.lcmp hx hb dL_law_1330 ?_
      refine lv_if_eq (tgt := 1374) hx hb dL_law_1331 (by decide) (fun c9 => ?_) (fun c9 => ?_)
      · exact hend _ _ _ _ (by decide) (by decide) hS
      · exact absurd ((lg_cmp_eq _ _).mpr heq) c9
    · have hs0 := hs1
      refine lv_aload_n hx hb dL_law_1312 rfl (lv_at hl 2 rfl) ?_
      refine lv_aload_n hx hb dL_law_1313 rfl (lv_at hl 3 rfl) ?_
      refine lv_iload_n hx hb dL_law_1314 rfl (lv_at hl 0 rfl) ?_
      refine lv_iconst (v := (nI (1))) hx hb dL_law_1315 (by decide) ?_
      refine ln_iadd hx hb dL_law_1316 ?_
      refine va_sld hx hb hX hbl hbA hS (vp_in_nI (show i + 1 < L by omega) (by omega)) dL_law_1317 ?_
      refine ln_eqi (y := xs (i + 1)) (by rw [nI_clamp (by omega)]) ?_
      refine ln_eqi (y := (nI (3))) e1 ?_
      have hP := hP.subT (w' := [(d0, .inr (11, [.ref (pA), .int (nI (0)), .ref (mA), .int (nI (0)), .ref (go0), .ref (m0), .ref (fQ), .int (nI (0)), .ref (t0), .ref (g0), .ref (shA), .ref (pq), .long (0)])), (shA, .inl (cy 6, 4, .inr (.inr (.inr (.inr (va_up (va_up (va_up (va_up (fun _ => none) (0) (some (s0))) (1) (some (s1))) (2) (some (s2))) (3) (some (s3)))))))), (s3, .inr (8, [.ref (z3), .int (nI (0)), .int (nI (0))])), (z3, .inl (cy 0, 16, .inl (fun _ => 0)))]) [0, 17, 26, 27] rfl
      have hD := hD.subT (w' := [(d0, .inr (11, [.ref (pA), .int (nI (0)), .ref (mA), .int (nI (0)), .ref (go0), .ref (m0), .ref (fQ), .int (nI (0)), .ref (t0), .ref (g0), .ref (shA), .ref (pq), .long (0)])), (shA, .inl (cy 6, 4, .inr (.inr (.inr (.inr (va_up (va_up (va_up (va_up (fun _ => none) (0) (some (s0))) (1) (some (s1))) (2) (some (s2))) (3) (some (s3)))))))), (s3, .inr (8, [.ref (z3), .int (nI (0)), .int (nI (0))])), (z3, .inl (cy 0, 16, .inl (fun _ => 0)))]) [0, 17, 26, 27] (by decide) rfl
      refine nq_Vl (As := [.int (nI (3))]) (rest := []) (w := [(d0, .inr (11, [.ref (pA), .int (nI (0)), .ref (mA), .int (nI (0)), .ref (go0), .ref (m0), .ref (fQ), .int (nI (0)), .ref (t0), .ref (g0), .ref (shA), .ref (pq), .long (0)])), (shA, .inl (cy 6, 4, .inr (.inr (.inr (.inr (va_up (va_up (va_up (va_up (fun _ => none) (0) (some (s0))) (1) (some (s1))) (2) (some (s2))) (3) (some (s3)))))))), (s3, .inr (8, [.ref (z3), .int (nI (0)), .int (nI (0))])), (z3, .inl (cy 0, 16, .inl (fun _ => 0)))]) (wr := fM cy ad) (ci := 11) (k0 := 0) ⟨hx, hb, hml, hown, htsL⟩ (qX11_text_m l D cy d0 pA 0 mA 0 go0 m0 fQ 0 t0 g0 shA pq 0 (va_up (va_up (va_up (va_up (fun _ => none) (0) (some (s0))) (1) (some (s1))) (2) (some (s2))) (3) (some (s3))) s3 z3 0 0 (fun _ => 0) (3) (by decide) rfl rfl) (cwV 1 htsL gL_law_X11_text rfl rfl rfl (by decide +kernel) ⟨Nat.le_of_ble_eq_true rfl, Nat.le_of_ble_eq_true rfl⟩) rfl rfl hP hK hD hN hS hA rfl hl.1 rfl (Nat.le_of_ble_eq_true rfl) dL_law_1318 ⟨Nat.le_of_ble_eq_true rfl, Nat.le_of_ble_eq_true rfl⟩ (fun r1 w1 H locs hq1 hP hD hS => ?_)
      have hP := hP.right
      have hD := hD.right
      refine lv_aload_n hx hb dL_law_1321 rfl (lv_at hl 1 rfl) ?_
      refine lv_aload_n hx hb dL_law_1322 rfl (lv_at hl 3 rfl) ?_
      refine lv_iload_n hx hb dL_law_1323 rfl (lv_at hl 0 rfl) ?_
      refine lv_iconst (v := (nI (1))) hx hb dL_law_1324 (by decide) ?_
      refine ln_iadd hx hb dL_law_1325 ?_
      refine va_sld hx hb hX hbl hbA hS (vp_in_nI (show i + 1 < L by omega) (by omega)) dL_law_1326 ?_
      refine ln_eqi (y := xs (i + 1)) (by rw [nI_clamp (by omega)]) ?_
      refine mq_Vl (As := [.int (xs (i + 1))]) (rest := [.long r1]) (ci := 12) (k0 := 0) ⟨hx, hb, hml, hown, htsL⟩ (cM_text l D ad (cy 0) (cy 1) (iniA 64) (fun _ => 0) (fun _ => 0) (fun _ => 0) (fun _ => 0) (fun _ => 1) (fun _ => 0) (fun _ => 0) 0 0 0 0 0 0 0 0 0 0 0 0 0 (fun _ => 0) (fun _ => 0) (fun _ => 0) (xs (i + 1)) (fun _ _ => by decide) (fun _ _ => Or.inl rfl) (by decide) (by decide)) (cwV 1 htsL gL_law_X12_text rfl rfl rfl (by decide +kernel) ⟨Nat.le_of_ble_eq_true rfl, Nat.le_of_ble_eq_true rfl⟩) rfl rfl hP hKm hD hS hA rfl hl.1 rfl (Nat.le_of_ble_eq_true rfl) dL_law_1327 ⟨Nat.le_of_ble_eq_true rfl, Nat.le_of_ble_eq_true rfl⟩ (fun r2 w2 H locs hq2 hP hD hS => ?_)
      have heq : r1 = r2 := by
        rcases hq2 with ⟨h, -⟩ | ⟨s', -, h2⟩
        · exact absurd (ix_rg hs1) h
        · rcases h2 with ⟨-, h2, -⟩ | ⟨h3, -⟩ | ⟨h3, -⟩ | ⟨h3, -⟩
          · rw [hq1.1, h2]
          · exact absurd h3 (Nat.lt_irrefl 0)
          · exact absurd h3 (Nat.lt_irrefl 0)
          · exact absurd h3 (Nat.lt_irrefl 0)
      refine W.lcmp hx hb dL_law_1330 ?_
      refine lv_if_eq (tgt := 1374) hx hb dL_law_1331 (by decide) (fun c9 => ?_) (fun c9 => ?_)
      · exact hend _ _ _ _ (by decide) (by decide) hS
      · exact absurd ((lg_cmp_eq _ _).mpr heq) c9
  · have hs0 := hs1
    refine lv_aload_n hx hb dL_law_1312 rfl (lv_at hl 2 rfl) ?_
    refine lv_aload_n hx hb dL_law_1313 rfl (lv_at hl 3 rfl) ?_
    refine lv_iload_n hx hb dL_law_1314 rfl (lv_at hl 0 rfl) ?_
    refine lv_iconst (v := (nI (1))) hx hb dL_law_1315 (by decide) ?_
    refine ln_iadd hx hb dL_law_1316 ?_
    refine va_sld hx hb hX hbl hbA hS (vp_in_nI (show i + 1 < L by omega) (by omega)) dL_law_1317 ?_
    refine ln_eqi (y := xs (i + 1)) (by rw [nI_clamp (by omega)]) ?_
    have hP := hP.subT (w' := [(d0, .inr (11, [.ref (pA), .int (nI (0)), .ref (mA), .int (nI (0)), .ref (go0), .ref (m0), .ref (fQ), .int (nI (0)), .ref (t0), .ref (g0), .ref (shA), .ref (pq), .long (0)])), (shA, .inl (cy 6, 4, .inr (.inr (.inr (.inr (va_up (va_up (va_up (va_up (fun _ => none) (0) (some (s0))) (1) (some (s1))) (2) (some (s2))) (3) (some (s3))))))))]) [0, 17] rfl
    have hD := hD.subT (w' := [(d0, .inr (11, [.ref (pA), .int (nI (0)), .ref (mA), .int (nI (0)), .ref (go0), .ref (m0), .ref (fQ), .int (nI (0)), .ref (t0), .ref (g0), .ref (shA), .ref (pq), .long (0)])), (shA, .inl (cy 6, 4, .inr (.inr (.inr (.inr (va_up (va_up (va_up (va_up (fun _ => none) (0) (some (s0))) (1) (some (s1))) (2) (some (s2))) (3) (some (s3))))))))]) [0, 17] (by decide) rfl
    refine nq_Vl (As := [.int (xs (i + 1))]) (rest := []) (w := [(d0, .inr (11, [.ref (pA), .int (nI (0)), .ref (mA), .int (nI (0)), .ref (go0), .ref (m0), .ref (fQ), .int (nI (0)), .ref (t0), .ref (g0), .ref (shA), .ref (pq), .long (0)])), (shA, .inl (cy 6, 4, .inr (.inr (.inr (.inr (va_up (va_up (va_up (va_up (fun _ => none) (0) (some (s0))) (1) (some (s1))) (2) (some (s2))) (3) (some (s3))))))))]) (wr := fM cy ad) (ci := 11) (k0 := 0) ⟨hx, hb, hml, hown, htsL⟩ (qX11_text_n l D cy d0 pA 0 mA 0 go0 m0 fQ 0 t0 g0 shA pq 0 (va_up (va_up (va_up (va_up (fun _ => none) (0) (some (s0))) (1) (some (s1))) (2) (some (s2))) (3) (some (s3))) (xs (i + 1)) hs1) (cwV 1 htsL gL_law_X11_text rfl rfl rfl (by decide +kernel) ⟨Nat.le_of_ble_eq_true rfl, Nat.le_of_ble_eq_true rfl⟩) rfl rfl hP hK hD hN hS hA rfl hl.1 rfl (Nat.le_of_ble_eq_true rfl) dL_law_1318 ⟨Nat.le_of_ble_eq_true rfl, Nat.le_of_ble_eq_true rfl⟩ (fun r1 w1 H locs hq1 hP hD hS => ?_)
    have hP := hP.right
    have hD := hD.right
    refine lv_aload_n hx hb dL_law_1321 rfl (lv_at hl 1 rfl) ?_
    refine lv_aload_n hx hb dL_law_1322 rfl (lv_at hl 3 rfl) ?_
    refine lv_iload_n hx hb dL_law_1323 rfl (lv_at hl 0 rfl) ?_
    refine lv_iconst (v := (nI (1))) hx hb dL_law_1324 (by decide) ?_
    refine ln_iadd hx hb dL_law_1325 ?_
    refine va_sld hx hb hX hbl hbA hS (vp_in_nI (show i + 1 < L by omega) (by omega)) dL_law_1326 ?_
    refine ln_eqi (y := xs (i + 1)) (by rw [nI_clamp (by omega)]) ?_
    refine mq_Vl (As := [.int (xs (i + 1))]) (rest := [.long r1]) (ci := 12) (k0 := 0) ⟨hx, hb, hml, hown, htsL⟩ (cM_text l D ad (cy 0) (cy 1) (iniA 64) (fun _ => 0) (fun _ => 0) (fun _ => 0) (fun _ => 0) (fun _ => 1) (fun _ => 0) (fun _ => 0) 0 0 0 0 0 0 0 0 0 0 0 0 0 (fun _ => 0) (fun _ => 0) (fun _ => 0) (xs (i + 1)) (fun _ _ => by decide) (fun _ _ => Or.inl rfl) (by decide) (by decide)) (cwV 1 htsL gL_law_X12_text rfl rfl rfl (by decide +kernel) ⟨Nat.le_of_ble_eq_true rfl, Nat.le_of_ble_eq_true rfl⟩) rfl rfl hP hKm hD hS hA rfl hl.1 rfl (Nat.le_of_ble_eq_true rfl) dL_law_1327 ⟨Nat.le_of_ble_eq_true rfl, Nat.le_of_ble_eq_true rfl⟩ (fun r2 w2 H locs hq2 hP hD hS => ?_)
    have heq : r1 = r2 := by
      rcases hq2 with ⟨-, h2, -⟩ | ⟨s', ⟨e1, h3⟩, -⟩
      · rw [hq1.1, h2]
      · exact absurd (by rw [e1]; exact ix_nI (by omega) (by decide)) hs1
    refine W.lcmp hx hb dL_law_1330 ?_
    refine lv_if_eq (tgt := 1374) hx hb dL_law_1331 (by decide) (fun c9 => ?_) (fun c9 => ?_)
    · exact hend _ _ _ _ (by decide) (by decide) hS
    · exact absurd ((lg_cmp_eq _ _).mpr heq) c9
set_option maxHeartbeats 4000000 in
set_option maxRecDepth 100000 in
theorem law_28 (l : Launch) {p : Program} {e : Env} {s : State} {m : MethodId} {below : List Frame} {meth : Method} {c : Code} {b L : Nat} {xs : Nat → Int32} (C0 : lw_At p s m meth c b L xs) {D : va_G} {cy : Nat → ClassId} (hK : va_K D vwCl (cT cy) s) (hN : nst s) {i : Nat} (hi : i + 7 ≤ L) (hL : L ≤ 3584) {d0 pA mA go0 ga0 gb0 gc0 m0 sA rA fQ t0 up lo g0 ga ho shA pq sA0 s0 z0 s1 z1 s2 z2 s3 z3 : Nat} {sa ra ad : Nat → Nat} {H : Heap} {locs : List Loc} {ls : Array Slot} (hP : va_P D vwCl (fC cy d0 pA mA go0 ga0 gb0 gc0 m0 sA rA fQ t0 up lo g0 ga ho shA pq sA0 s0 z0 s1 z1 s2 z2 s3 z3 sa ra ++ fM cy ad) H) (hD : va_D (fun q : Nat => s.heap.size ≤ q) (fC cy d0 pA mA go0 ga0 gb0 gc0 m0 sA rA fQ t0 up lo g0 ga ho shA pq sA0 s0 z0 s1 z1 s2 z2 s3 z3 sa ra ++ fM cy ad)) (hS : va_S (fun q : Nat => s.heap.size ≤ q) s.heap H locs) (hl : lv_has ls 4 [(3, .int (nI i)), (2, .ref (ad 0)), (1, .ref d0), (0, .ref b)]) (hend : ∀ (H : Heap) (locs : List Loc) (cs sl : Nat), cs ≤ 1000 → sl ≤ 20000 → va_S (fun q : Nat => s.heap.size ≤ q) s.heap H locs → W p l e room_1 s m #[Value.ref b] below meth c H locs cs sl (lw_Z below #[Value.ref b] s) (F0 m 1374 ls [])) : W p l e room_1 s m #[Value.ref b] below meth c H locs 100 15000 (lw_Z below #[Value.ref b] s) (F0 m 1336 ls []) := by
  obtain ⟨hx, hb, hr, hml, hown, hts, hX, hbl, hlocks, hgv⟩ := C0
  have htsL : ∀ w ∈ wsL_law, w.before #[Value.ref b] s = true := fun w h => hts w (wsL_law_in w h)
  have hown : s.vm.findClass RL = some m.cls := hown
  have hA : ∀ q : Nat, s.heap.size ≤ q → (fun q : Nat => s.heap.size ≤ q) q := fun _ h => h
  have hbA : ¬ (fun q : Nat => s.heap.size ≤ q) b := Nat.not_le.mpr hbl
  have hKm : va_K D vwCl (mT (cy 0) (cy 1)) s := hK.sub [0, 1] rfl
  refine lv_aload_n hx hb dL_law_1336 rfl (lv_at hl 2 rfl) ?_
  have hP := hP.subT (w' := [(d0, .inr (11, [.ref (pA), .int (nI (0)), .ref (mA), .int (nI (0)), .ref (go0), .ref (m0), .ref (fQ), .int (nI (0)), .ref (t0), .ref (g0), .ref (shA), .ref (pq), .long (0)])), (pq, .inr (6, [.ref (sA0), .int (nI (0)), .int (nI (0))])), (sA0, .inl (cy 7, 20, .inr (.inr (.inr (.inr (stF sa 20))))))]) [0, 18, 19] rfl
  have hD := hD.subT (w' := [(d0, .inr (11, [.ref (pA), .int (nI (0)), .ref (mA), .int (nI (0)), .ref (go0), .ref (m0), .ref (fQ), .int (nI (0)), .ref (t0), .ref (g0), .ref (shA), .ref (pq), .long (0)])), (pq, .inr (6, [.ref (sA0), .int (nI (0)), .int (nI (0))])), (sA0, .inl (cy 7, 20, .inr (.inr (.inr (.inr (stF sa 20))))))]) [0, 18, 19] (by decide) rfl
  refine nq_Vl (As := []) (rest := []) (w := [(d0, .inr (11, [.ref (pA), .int (nI (0)), .ref (mA), .int (nI (0)), .ref (go0), .ref (m0), .ref (fQ), .int (nI (0)), .ref (t0), .ref (g0), .ref (shA), .ref (pq), .long (0)])), (pq, .inr (6, [.ref (sA0), .int (nI (0)), .int (nI (0))])), (sA0, .inl (cy 7, 20, .inr (.inr (.inr (.inr (stF sa 20))))))]) (wr := fM cy ad) (ci := 11) (k0 := 0) ⟨hx, hb, hml, hown, htsL⟩ (qX11_undo0 l D cy d0 pA 0 mA 0 go0 m0 fQ 0 t0 g0 shA pq 0 sA0 0 0 (stF sa 20)  rfl) (cwV 0 htsL gL_law_X11_undo rfl rfl rfl (by decide +kernel) ⟨Nat.le_of_ble_eq_true rfl, Nat.le_of_ble_eq_true rfl⟩) rfl rfl hP hK hD hN hS hA rfl hl.1 rfl (Nat.le_of_ble_eq_true rfl) dL_law_1337 ⟨Nat.le_of_ble_eq_true rfl, Nat.le_of_ble_eq_true rfl⟩ (fun r1 w1 H locs hq1 hP hD hS => ?_)
  have hP := hP.right
  have hD := hD.right
  refine lv_aload_n hx hb dL_law_1340 rfl (lv_at hl 1 rfl) ?_
  refine mq_Vl (As := []) (rest := [.long r1]) (ci := 12) (k0 := 0) ⟨hx, hb, hml, hown, htsL⟩ (cM_undo l D ad (cy 0) (cy 1) (iniA 64) (fun _ => 0) (fun _ => 0) (fun _ => 0) (fun _ => 0) (fun _ => 1) (fun _ => 0) (fun _ => 0) 0 0 0 0 0 0 0 0 0 0 0 0 0 (fun _ => 0) (fun _ => 0) (fun _ => 0)  (by decide) (by decide)) (cwV 0 htsL gL_law_X12_undo rfl rfl rfl (by decide +kernel) ⟨Nat.le_of_ble_eq_true rfl, Nat.le_of_ble_eq_true rfl⟩) rfl rfl hP hKm hD hS hA rfl hl.1 rfl (Nat.le_of_ble_eq_true rfl) dL_law_1341 ⟨Nat.le_of_ble_eq_true rfl, Nat.le_of_ble_eq_true rfl⟩ (fun r2 w2 H locs hq2 hP hD hS => ?_)
  have heq : r1 = r2 := by
    rcases hq2 with ⟨-, h2, -⟩ | ⟨h, -⟩
    · rw [hq1.1, h2]
    · exact absurd h (Nat.lt_irrefl 0)
  refine W.lcmp hx hb dL_law_1344 ?_
  refine lv_if_eq (tgt := 1374) hx hb dL_law_1345 (by decide) (fun c9 => ?_) (fun c9 => ?_)
  · exact hend _ _ _ _ (by decide) (by decide) hS
  · exact absurd ((lg_cmp_eq _ _).mpr heq) c9
set_option maxHeartbeats 4000000 in
set_option maxRecDepth 100000 in
theorem law_29 (l : Launch) {p : Program} {e : Env} {s : State} {m : MethodId} {below : List Frame} {meth : Method} {c : Code} {b L : Nat} {xs : Nat → Int32} (C0 : lw_At p s m meth c b L xs) {D : va_G} {cy : Nat → ClassId} (hK : va_K D vwCl (cT cy) s) (hN : nst s) {i : Nat} (hi : i + 7 ≤ L) (hL : L ≤ 3584) {d0 pA mA go0 ga0 gb0 gc0 m0 sA rA fQ t0 up lo g0 ga ho shA pq sA0 s0 z0 s1 z1 s2 z2 s3 z3 : Nat} {sa ra ad : Nat → Nat} {H : Heap} {locs : List Loc} {ls : Array Slot} (hP : va_P D vwCl (fC cy d0 pA mA go0 ga0 gb0 gc0 m0 sA rA fQ t0 up lo g0 ga ho shA pq sA0 s0 z0 s1 z1 s2 z2 s3 z3 sa ra ++ fM cy ad) H) (hD : va_D (fun q : Nat => s.heap.size ≤ q) (fC cy d0 pA mA go0 ga0 gb0 gc0 m0 sA rA fQ t0 up lo g0 ga ho shA pq sA0 s0 z0 s1 z1 s2 z2 s3 z3 sa ra ++ fM cy ad)) (hS : va_S (fun q : Nat => s.heap.size ≤ q) s.heap H locs) (hl : lv_has ls 4 [(3, .int (nI i)), (2, .ref (ad 0)), (1, .ref d0), (0, .ref b)]) (hend : ∀ (H : Heap) (locs : List Loc) (cs sl : Nat), cs ≤ 1000 → sl ≤ 20000 → va_S (fun q : Nat => s.heap.size ≤ q) s.heap H locs → W p l e room_1 s m #[Value.ref b] below meth c H locs cs sl (lw_Z below #[Value.ref b] s) (F0 m 1374 ls [])) : W p l e room_1 s m #[Value.ref b] below meth c H locs 100 15000 (lw_Z below #[Value.ref b] s) (F0 m 1350 ls []) := by
  obtain ⟨hx, hb, hr, hml, hown, hts, hX, hbl, hlocks, hgv⟩ := C0
  have htsL : ∀ w ∈ wsL_law, w.before #[Value.ref b] s = true := fun w h => hts w (wsL_law_in w h)
  have hown : s.vm.findClass RL = some m.cls := hown
  have hA : ∀ q : Nat, s.heap.size ≤ q → (fun q : Nat => s.heap.size ≤ q) q := fun _ h => h
  have hbA : ¬ (fun q : Nat => s.heap.size ≤ q) b := Nat.not_le.mpr hbl
  have hKm : va_K D vwCl (mT (cy 0) (cy 1)) s := hK.sub [0, 1] rfl
  refine lv_aload_n hx hb dL_law_1350 rfl (lv_at hl 2 rfl) ?_
  refine lv_aload_n hx hb dL_law_1351 rfl (lv_at hl 3 rfl) ?_
  refine lv_iload_n hx hb dL_law_1352 rfl (lv_at hl 0 rfl) ?_
  refine lv_iconst (v := (nI (1))) hx hb dL_law_1353 (by decide) ?_
  refine ln_iadd hx hb dL_law_1354 ?_
  refine va_sld hx hb hX hbl hbA hS (vp_in_nI (show i + 1 < L by omega) (by omega)) dL_law_1355 ?_
  refine ln_eqi (y := xs (i + 1)) (by rw [nI_clamp (by omega)]) ?_
  have hP := hP.subT (w' := [(d0, .inr (11, [.ref (pA), .int (nI (0)), .ref (mA), .int (nI (0)), .ref (go0), .ref (m0), .ref (fQ), .int (nI (0)), .ref (t0), .ref (g0), .ref (shA), .ref (pq), .long (0)])), (m0, .inr (2, [.ref (sA), .int (nI (0)), .ref (rA)])), (sA, .inl (cy 0, 12, .inl (nA (fun _ => 0)))), (rA, .inl (cy 0, 7, .inl (nA (fun _ => 0))))]) [0, 7, 8, 9] rfl
  have hD := hD.subT (w' := [(d0, .inr (11, [.ref (pA), .int (nI (0)), .ref (mA), .int (nI (0)), .ref (go0), .ref (m0), .ref (fQ), .int (nI (0)), .ref (t0), .ref (g0), .ref (shA), .ref (pq), .long (0)])), (m0, .inr (2, [.ref (sA), .int (nI (0)), .ref (rA)])), (sA, .inl (cy 0, 12, .inl (nA (fun _ => 0)))), (rA, .inl (cy 0, 7, .inl (nA (fun _ => 0))))]) [0, 7, 8, 9] (by decide) rfl
  refine nq_Vl (As := [.int (xs (i + 1))]) (rest := []) (w := [(d0, .inr (11, [.ref (pA), .int (nI (0)), .ref (mA), .int (nI (0)), .ref (go0), .ref (m0), .ref (fQ), .int (nI (0)), .ref (t0), .ref (g0), .ref (shA), .ref (pq), .long (0)])), (m0, .inr (2, [.ref (sA), .int (nI (0)), .ref (rA)])), (sA, .inl (cy 0, 12, .inl (nA (fun _ => 0)))), (rA, .inl (cy 0, 7, .inl (nA (fun _ => 0))))]) (wr := fM cy ad) (ci := 11) (k0 := 0) ⟨hx, hb, hml, hown, htsL⟩ (qX11_all l D cy d0 pA 0 mA 0 go0 m0 fQ 0 t0 g0 shA pq 0 sA 0 rA (fun _ => 0) (fun _ => 0) (xs (i + 1)) ) (cwV 1 htsL gL_law_X11_all rfl rfl rfl (by decide +kernel) ⟨Nat.le_of_ble_eq_true rfl, Nat.le_of_ble_eq_true rfl⟩) rfl rfl hP hK hD hN hS hA rfl hl.1 rfl (Nat.le_of_ble_eq_true rfl) dL_law_1356 ⟨Nat.le_of_ble_eq_true rfl, Nat.le_of_ble_eq_true rfl⟩ (fun r1 w1 H locs hq1 hP hD hS => ?_)
  have hP := hP.right
  have hD := hD.right
  refine lv_aload_n hx hb dL_law_1359 rfl (lv_at hl 1 rfl) ?_
  refine lv_aload_n hx hb dL_law_1360 rfl (lv_at hl 3 rfl) ?_
  refine lv_iload_n hx hb dL_law_1361 rfl (lv_at hl 0 rfl) ?_
  refine lv_iconst (v := (nI (1))) hx hb dL_law_1362 (by decide) ?_
  refine ln_iadd hx hb dL_law_1363 ?_
  refine va_sld hx hb hX hbl hbA hS (vp_in_nI (show i + 1 < L by omega) (by omega)) dL_law_1364 ?_
  refine ln_eqi (y := xs (i + 1)) (by rw [nI_clamp (by omega)]) ?_
  refine mq_Vl (As := [.int (xs (i + 1))]) (rest := [.long r1]) (ci := 12) (k0 := 0) ⟨hx, hb, hml, hown, htsL⟩ (cM_all l D ad (cy 0) (cy 1) (iniA 64) (fun _ => 0) (fun _ => 0) (fun _ => 0) (fun _ => 0) (fun _ => 1) (fun _ => 0) (fun _ => 0) 0 0 0 0 0 0 0 0 0 0 0 0 0 (fun _ => 0) (fun _ => 0) (fun _ => 0) (xs (i + 1)) ) (cwV 1 htsL gL_law_X12_all rfl rfl rfl (by decide +kernel) ⟨Nat.le_of_ble_eq_true rfl, Nat.le_of_ble_eq_true rfl⟩) rfl rfl hP hKm hD hS hA rfl hl.1 rfl (Nat.le_of_ble_eq_true rfl) dL_law_1365 ⟨Nat.le_of_ble_eq_true rfl, Nat.le_of_ble_eq_true rfl⟩ (fun r2 w2 H locs hq2 hP hD hS => ?_)
  have heq : r1 = r2 := by
    rcases hq1 with ⟨h, h1, -⟩ | ⟨k, hk, hv, h1, -⟩
    · rw [h1, (hq2.2 h).1]
    · have hg := hq2.1 (by rw [hv]; exact rg_nI (Nat.zero_le _) hk (by decide))
      rcases (show k = 0 ∨ k = 1 ∨ k = 2 ∨ k = 3 ∨ k = 4 by omega) with rfl | rfl | rfl | rfl | rfl
      · rw [h1, (hg.1 hv).1, ini_0]; rfl
      · rw [h1, (hg.2.1 hv).1, ini_1]; rfl
      · rw [h1, (hg.2.2.1 hv).1, ini_3]; rfl
      · rw [h1, (hg.2.2.2.1 hv).1, ini_2]; rfl
      · rw [h1, (hg.2.2.2.2 hv).1]; decide
  refine W.lcmp hx hb dL_law_1368 ?_
  refine lv_if_eq (tgt := 1374) hx hb dL_law_1369 (by decide) (fun c9 => ?_) (fun c9 => ?_)
  · exact hend _ _ _ _ (by decide) (by decide) hS
  · exact absurd ((lg_cmp_eq _ _).mpr heq) c9
