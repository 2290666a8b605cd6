set_option maxHeartbeats 4000000 in
set_option maxRecDepth 100000 in
theorem law_5 (l : Launch) {p : Program} {e : Env} {s : State} {m : MethodId} {below : List Frame} {meth : Method} {c : Code} {b L : Nat} {xs : Nat → Int32} (C0 : lw_At p s m meth c b L xs) {D : va_G} {cy : Nat → ClassId} (hK : va_K D vwCl (cT cy) s) (hN : nst s) {i : Nat} (hi : i + 7 ≤ L) (hL : L ≤ 3584) {d0 pA mA go0 ga0 gb0 gc0 m0 sA rA fQ t0 up lo g0 ga ho shA pq sA0 s0 z0 s1 z1 s2 z2 s3 z3 : Nat} {sa ra ad : Nat → Nat} {H : Heap} {locs : List Loc} {ls : Array Slot} (hP : va_P D vwCl (fC cy d0 pA mA go0 ga0 gb0 gc0 m0 sA rA fQ t0 up lo g0 ga ho shA pq sA0 s0 z0 s1 z1 s2 z2 s3 z3 sa ra ++ fM cy ad) H) (hD : va_D (fun q : Nat => s.heap.size ≤ q) (fC cy d0 pA mA go0 ga0 gb0 gc0 m0 sA rA fQ t0 up lo g0 ga ho shA pq sA0 s0 z0 s1 z1 s2 z2 s3 z3 sa ra ++ fM cy ad)) (hS : va_S (fun q : Nat => s.heap.size ≤ q) s.heap H locs) (hl : lv_has ls 4 [(3, .int (nI i)), (2, .ref (ad 0)), (1, .ref d0), (0, .ref b)]) (hend : ∀ (H : Heap) (locs : List Loc) (cs sl : Nat), cs ≤ 1000 → sl ≤ 20000 → va_S (fun q : Nat => s.heap.size ≤ q) s.heap H locs → W p l e room_1 s m #[Value.ref b] below meth c H locs cs sl (lw_Z below #[Value.ref b] s) (F0 m 1374 ls [])) : W p l e room_1 s m #[Value.ref b] below meth c H locs 100 15000 (lw_Z below #[Value.ref b] s) (F0 m 432 ls []) := by
  obtain ⟨hx, hb, hr, hml, hown, hts, hX, hbl, hlocks, hgv⟩ := C0
  have htsL : ∀ w ∈ wsL_law, w.before #[Value.ref b] s = true := fun w h => hts w (wsL_law_in w h)
  have hown : s.vm.findClass RL = some m.cls := hown
  have hA : ∀ q : Nat, s.heap.size ≤ q → (fun q : Nat => s.heap.size ≤ q) q := fun _ h => h
  have hbA : ¬ (fun q : Nat => s.heap.size ≤ q) b := Nat.not_le.mpr hbl
  have hKm : va_K D vwCl (mT (cy 0) (cy 1)) s := hK.sub [0, 1] rfl
  refine lv_aload_n hx hb dL_law_432 rfl (lv_at hl 2 rfl) ?_
  refine lv_aload_n hx hb dL_law_433 rfl (lv_at hl 3 rfl) ?_
  refine lv_iload_n hx hb dL_law_434 rfl (lv_at hl 0 rfl) ?_
  refine lv_iconst (v := (nI (1))) hx hb dL_law_435 (by decide) ?_
  refine ln_iadd hx hb dL_law_436 ?_
  refine va_sld hx hb hX hbl hbA hS (vp_in_nI (show i + 1 < L by omega) (by omega)) dL_law_437 ?_
  refine ln_eqi (y := xs (i + 1)) (by rw [nI_clamp (by omega)]) ?_
  have hP := hP.subT (w' := [(d0, .inr (11, [.ref (pA), .int (nI (0)), .ref (mA), .int (nI (0)), .ref (go0), .ref (m0), .ref (fQ), .int (nI (0)), .ref (t0), .ref (g0), .ref (shA), .ref (pq), .long (0)])), (pA, .inl (cy 3, 6, .inr (.inr (.inr (.inr (fun _ => none))))))]) [0, 1] rfl
  have hD := hD.subT (w' := [(d0, .inr (11, [.ref (pA), .int (nI (0)), .ref (mA), .int (nI (0)), .ref (go0), .ref (m0), .ref (fQ), .int (nI (0)), .ref (t0), .ref (g0), .ref (shA), .ref (pq), .long (0)])), (pA, .inl (cy 3, 6, .inr (.inr (.inr (.inr (fun _ => none))))))]) [0, 1] (by decide) rfl
  refine nq_Vl (As := [.int (xs (i + 1))]) (rest := []) (w := [(d0, .inr (11, [.ref (pA), .int (nI (0)), .ref (mA), .int (nI (0)), .ref (go0), .ref (m0), .ref (fQ), .int (nI (0)), .ref (t0), .ref (g0), .ref (shA), .ref (pq), .long (0)])), (pA, .inl (cy 3, 6, .inr (.inr (.inr (.inr (fun _ => none))))))]) (wr := fM cy ad) (ci := 11) (k0 := 0) ⟨hx, hb, hml, hown, htsL⟩ (qX11_doubt_n l D cy d0 pA 0 mA 0 go0 m0 fQ 0 t0 g0 shA pq 0 (fun _ => none) (xs (i + 1)) ix0) (cwV 1 htsL gL_law_X11_doubt rfl rfl rfl (by decide +kernel) ⟨Nat.le_of_ble_eq_true rfl, Nat.le_of_ble_eq_true rfl⟩) rfl rfl hP hK hD hN hS hA rfl hl.1 rfl (Nat.le_of_ble_eq_true rfl) dL_law_438 ⟨Nat.le_of_ble_eq_true rfl, Nat.le_of_ble_eq_true rfl⟩ (fun r1 w1 H locs hq1 hP hD hS => ?_)
  have hP := hP.right
  have hD := hD.right
  refine lv_aload_n hx hb dL_law_441 rfl (lv_at hl 1 rfl) ?_
  refine lv_aload_n hx hb dL_law_442 rfl (lv_at hl 3 rfl) ?_
  refine lv_iload_n hx hb dL_law_443 rfl (lv_at hl 0 rfl) ?_
  refine lv_iconst (v := (nI (1))) hx hb dL_law_444 (by decide) ?_
  refine ln_iadd hx hb dL_law_445 ?_
  refine va_sld hx hb hX hbl hbA hS (vp_in_nI (show i + 1 < L by omega) (by omega)) dL_law_446 ?_
  refine ln_eqi (y := xs (i + 1)) (by rw [nI_clamp (by omega)]) ?_
  refine mq_Vl (As := [.int (xs (i + 1))]) (rest := [.long r1]) (ci := 12) (k0 := 0) ⟨hx, hb, hml, hown, htsL⟩ (cM_doubt l D ad (cy 0) (cy 1) (iniA 64) (fun _ => 0) (fun _ => 0) (fun _ => 0) (fun _ => 0) (fun _ => 1) (fun _ => 0) (fun _ => 0) 0 0 0 0 0 0 0 0 0 0 0 0 0 (fun _ => 0) (fun _ => 0) (fun _ => 0) (xs (i + 1)) (by rw [ini_0]; decide) (fun i h => absurd h (by rw [ini_0]; exact Nat.not_lt_zero i))) (cwV 1 htsL gL_law_X12_doubt rfl rfl rfl (by decide +kernel) ⟨Nat.le_of_ble_eq_true rfl, Nat.le_of_ble_eq_true rfl⟩) rfl rfl hP hKm hD hS hA rfl hl.1 rfl (Nat.le_of_ble_eq_true rfl) dL_law_447 ⟨Nat.le_of_ble_eq_true rfl, Nat.le_of_ble_eq_true rfl⟩ (fun r2 w2 H locs hq2 hP hD hS => ?_)
  have heq : r1 = r2 := by
    rcases hq2 with ⟨-, h2, -⟩ | h2
    · rw [hq1.1, h2]
    · obtain ⟨_, ⟨_, h9⟩, _⟩ := h2
      rw [ini_0] at h9
      exact absurd h9 (Nat.not_lt_zero _)
  refine W.lcmp hx hb dL_law_450 ?_
  refine lv_if_eq (tgt := 1374) hx hb dL_law_451 (by decide) (fun c9 => ?_) (fun c9 => ?_)
  · exact hend _ _ _ _ (by decide) (by decide) hS
  · exact absurd ((lg_cmp_eq _ _).mpr heq) c9
set_option maxHeartbeats 4000000 in
set_option maxRecDepth 100000 in
theorem law_6 (l : Launch) {p : Program} {e : Env} {s : State} {m : MethodId} {below : List Frame} {meth : Method} {c : Code} {b L : Nat} {xs : Nat → Int32} (C0 : lw_At p s m meth c b L xs) {D : va_G} {cy : Nat → ClassId} (hK : va_K D vwCl (cT cy) s) (hN : nst s) {i : Nat} (hi : i + 7 ≤ L) (hL : L ≤ 3584) {d0 pA mA go0 ga0 gb0 gc0 m0 sA rA fQ t0 up lo g0 ga ho shA pq sA0 s0 z0 s1 z1 s2 z2 s3 z3 : Nat} {sa ra ad : Nat → Nat} {H : Heap} {locs : List Loc} {ls : Array Slot} (hP : va_P D vwCl (fC cy d0 pA mA go0 ga0 gb0 gc0 m0 sA rA fQ t0 up lo g0 ga ho shA pq sA0 s0 z0 s1 z1 s2 z2 s3 z3 sa ra ++ fM cy ad) H) (hD : va_D (fun q : Nat => s.heap.size ≤ q) (fC cy d0 pA mA go0 ga0 gb0 gc0 m0 sA rA fQ t0 up lo g0 ga ho shA pq sA0 s0 z0 s1 z1 s2 z2 s3 z3 sa ra ++ fM cy ad)) (hS : va_S (fun q : Nat => s.heap.size ≤ q) s.heap H locs) (hl : lv_has ls 4 [(3, .int (nI i)), (2, .ref (ad 0)), (1, .ref d0), (0, .ref b)]) (hend : ∀ (H : Heap) (locs : List Loc) (cs sl : Nat), cs ≤ 1000 → sl ≤ 20000 → va_S (fun q : Nat => s.heap.size ≤ q) s.heap H locs → W p l e room_1 s m #[Value.ref b] below meth c H locs cs sl (lw_Z below #[Value.ref b] s) (F0 m 1374 ls [])) : W p l e room_1 s m #[Value.ref b] below meth c H locs 100 15000 (lw_Z below #[Value.ref b] s) (F0 m 456 ls []) := by
  obtain ⟨hx, hb, hr, hml, hown, hts, hX, hbl, hlocks, hgv⟩ := C0
  have htsL : ∀ w ∈ wsL_law, w.before #[Value.ref b] s = true := fun w h => hts w (wsL_law_in w h)
  have hown : s.vm.findClass RL = some m.cls := hown
  have hA : ∀ q : Nat, s.heap.size ≤ q → (fun q : Nat => s.heap.size ≤ q) q := fun _ h => h
  have hbA : ¬ (fun q : Nat => s.heap.size ≤ q) b := Nat.not_le.mpr hbl
  have hKm : va_K D vwCl (mT (cy 0) (cy 1)) s := hK.sub [0, 1] rfl
  refine lv_aload_n hx hb dL_law_456 rfl (lv_at hl 2 rfl) ?_
  refine lv_aload_n hx hb dL_law_457 rfl (lv_at hl 3 rfl) ?_
  refine lv_iload_n hx hb dL_law_458 rfl (lv_at hl 0 rfl) ?_
  refine lv_iconst (v := (nI (1))) hx hb dL_law_459 (by decide) ?_
  refine ln_iadd hx hb dL_law_460 ?_
  refine va_sld hx hb hX hbl hbA hS (vp_in_nI (show i + 1 < L by omega) (by omega)) dL_law_461 ?_
  refine ln_eqi (y := xs (i + 1)) (by rw [nI_clamp (by omega)]) ?_
  refine lv_aload_n hx hb dL_law_462 rfl (lv_at hl 3 rfl) ?_
  refine lv_iload_n hx hb dL_law_463 rfl (lv_at hl 0 rfl) ?_
  refine lv_iconst (v := (nI (2))) hx hb dL_law_464 (by decide) ?_
  refine ln_iadd hx hb dL_law_465 ?_
  refine va_sld hx hb hX hbl hbA hS (vp_in_nI (show i + 2 < L by omega) (by omega)) dL_law_466 ?_
  refine ln_eqi (y := xs (i + 2)) (by rw [nI_clamp (by omega)]) ?_
  refine lv_aload_n hx hb dL_law_467 rfl (lv_at hl 3 rfl) ?_
  refine lv_iload_n hx hb dL_law_468 rfl (lv_at hl 0 rfl) ?_
  refine lv_iconst (v := (nI (3))) hx hb dL_law_469 (by decide) ?_
  refine ln_iadd hx hb dL_law_470 ?_
  refine va_sld hx hb hX hbl hbA hS (vp_in_nI (show i + 3 < L by omega) (by omega)) dL_law_471 ?_
  refine ln_eqi (y := xs (i + 3)) (by rw [nI_clamp (by omega)]) ?_
  refine lv_aload_n hx hb dL_law_472 rfl (lv_at hl 3 rfl) ?_
  refine lv_iload_n hx hb dL_law_473 rfl (lv_at hl 0 rfl) ?_
  refine lv_iconst (v := (nI (4))) hx hb dL_law_474 (by decide) ?_
  refine ln_iadd hx hb dL_law_475 ?_
  refine va_sld hx hb hX hbl hbA hS (vp_in_nI (show i + 4 < L by omega) (by omega)) dL_law_476 ?_
  refine ln_eqi (y := xs (i + 4)) (by rw [nI_clamp (by omega)]) ?_
  refine lv_aload_n hx hb dL_law_477 rfl (lv_at hl 3 rfl) ?_
  refine lv_iload_n hx hb dL_law_478 rfl (lv_at hl 0 rfl) ?_
  refine lv_iconst (v := (nI (5))) hx hb dL_law_479 (by decide) ?_
  refine ln_iadd hx hb dL_law_480 ?_
  refine va_sld hx hb hX hbl hbA hS (vp_in_nI (show i + 5 < L by omega) (by omega)) dL_law_481 ?_
  refine ln_eqi (y := xs (i + 5)) (by rw [nI_clamp (by omega)]) ?_
  refine lv_aload_n hx hb dL_law_482 rfl (lv_at hl 3 rfl) ?_
  refine lv_iload_n hx hb dL_law_483 rfl (lv_at hl 0 rfl) ?_
  refine lv_bipush (v := (nI (6))) hx hb dL_law_484 (by decide) ?_
  refine ln_iadd hx hb dL_law_486 ?_
  refine va_sld hx hb hX hbl hbA hS (vp_in_nI (show i + 6 < L by omega) (by omega)) dL_law_487 ?_
  refine ln_eqi (y := xs (i + 6)) (by rw [nI_clamp (by omega)]) ?_
  have hP := hP.subT (w' := [(d0, .inr (11, [.ref (pA), .int (nI (0)), .ref (mA), .int (nI (0)), .ref (go0), .ref (m0), .ref (fQ), .int (nI (0)), .ref (t0), .ref (g0), .ref (shA), .ref (pq), .long (0)])), (pA, .inl (cy 3, 6, .inr (.inr (.inr (.inr (fun _ => none))))))]) [0, 1] rfl
  have hD := hD.subT (w' := [(d0, .inr (11, [.ref (pA), .int (nI (0)), .ref (mA), .int (nI (0)), .ref (go0), .ref (m0), .ref (fQ), .int (nI (0)), .ref (t0), .ref (g0), .ref (shA), .ref (pq), .long (0)])), (pA, .inl (cy 3, 6, .inr (.inr (.inr (.inr (fun _ => none))))))]) [0, 1] (by decide) rfl
  refine nq_Vl (As := [.int (xs (i + 1)), .int (xs (i + 2)), .int (xs (i + 3)), .int (xs (i + 4)), .int (xs (i + 5)), .int (xs (i + 6))]) (rest := []) (w := [(d0, .inr (11, [.ref (pA), .int (nI (0)), .ref (mA), .int (nI (0)), .ref (go0), .ref (m0), .ref (fQ), .int (nI (0)), .ref (t0), .ref (g0), .ref (shA), .ref (pq), .long (0)])), (pA, .inl (cy 3, 6, .inr (.inr (.inr (.inr (fun _ => none))))))]) (wr := fM cy ad) (ci := 11) (k0 := 0) ⟨hx, hb, hml, hown, htsL⟩ (qX11_mark_n l D cy d0 pA 0 mA 0 go0 m0 fQ 0 t0 g0 shA pq 0 (fun _ => none) (xs (i + 1)) (xs (i + 2)) (xs (i + 3)) (xs (i + 4)) (xs (i + 5)) (xs (i + 6)) ix0) (cwV 6 htsL gL_law_X11_mark rfl rfl rfl (by decide +kernel) ⟨Nat.le_of_ble_eq_true rfl, Nat.le_of_ble_eq_true rfl⟩) rfl rfl hP hK hD hN hS hA rfl hl.1 rfl (Nat.le_of_ble_eq_true rfl) dL_law_488 ⟨Nat.le_of_ble_eq_true rfl, Nat.le_of_ble_eq_true rfl⟩ (fun r1 w1 H locs hq1 hP hD hS => ?_)
  have hP := hP.right
  have hD := hD.right
  refine lv_aload_n hx hb dL_law_491 rfl (lv_at hl 1 rfl) ?_
  refine lv_aload_n hx hb dL_law_492 rfl (lv_at hl 3 rfl) ?_
  refine lv_iload_n hx hb dL_law_493 rfl (lv_at hl 0 rfl) ?_
  refine lv_iconst (v := (nI (1))) hx hb dL_law_494 (by decide) ?_
  refine ln_iadd hx hb dL_law_495 ?_
  refine va_sld hx hb hX hbl hbA hS (vp_in_nI (show i + 1 < L by omega) (by omega)) dL_law_496 ?_
  refine ln_eqi (y := xs (i + 1)) (by rw [nI_clamp (by omega)]) ?_
  refine lv_aload_n hx hb dL_law_497 rfl (lv_at hl 3 rfl) ?_
  refine lv_iload_n hx hb dL_law_498 rfl (lv_at hl 0 rfl) ?_
  refine lv_iconst (v := (nI (2))) hx hb dL_law_499 (by decide) ?_
  refine ln_iadd hx hb dL_law_500 ?_
  refine va_sld hx hb hX hbl hbA hS (vp_in_nI (show i + 2 < L by omega) (by omega)) dL_law_501 ?_
  refine ln_eqi (y := xs (i + 2)) (by rw [nI_clamp (by omega)]) ?_
  refine lv_aload_n hx hb dL_law_502 rfl (lv_at hl 3 rfl) ?_
  refine lv_iload_n hx hb dL_law_503 rfl (lv_at hl 0 rfl) ?_
  refine lv_iconst (v := (nI (3))) hx hb dL_law_504 (by decide) ?_
  refine ln_iadd hx hb dL_law_505 ?_
  refine va_sld hx hb hX hbl hbA hS (vp_in_nI (show i + 3 < L by omega) (by omega)) dL_law_506 ?_
  refine ln_eqi (y := xs (i + 3)) (by rw [nI_clamp (by omega)]) ?_
  refine lv_aload_n hx hb dL_law_507 rfl (lv_at hl 3 rfl) ?_
  refine lv_iload_n hx hb dL_law_508 rfl (lv_at hl 0 rfl) ?_
  refine lv_iconst (v := (nI (4))) hx hb dL_law_509 (by decide) ?_
  refine ln_iadd hx hb dL_law_510 ?_
  refine va_sld hx hb hX hbl hbA hS (vp_in_nI (show i + 4 < L by omega) (by omega)) dL_law_511 ?_
  refine ln_eqi (y := xs (i + 4)) (by rw [nI_clamp (by omega)]) ?_
  refine lv_aload_n hx hb dL_law_512 rfl (lv_at hl 3 rfl) ?_
  refine lv_iload_n hx hb dL_law_513 rfl (lv_at hl 0 rfl) ?_
  refine lv_iconst (v := (nI (5))) hx hb dL_law_514 (by decide) ?_
  refine ln_iadd hx hb dL_law_515 ?_
  refine va_sld hx hb hX hbl hbA hS (vp_in_nI (show i + 5 < L by omega) (by omega)) dL_law_516 ?_
  refine ln_eqi (y := xs (i + 5)) (by rw [nI_clamp (by omega)]) ?_
  refine lv_aload_n hx hb dL_law_517 rfl (lv_at hl 3 rfl) ?_
  refine lv_iload_n hx hb dL_law_518 rfl (lv_at hl 0 rfl) ?_
  refine lv_bipush (v := (nI (6))) hx hb dL_law_519 (by decide) ?_
  refine ln_iadd hx hb dL_law_521 ?_
  refine va_sld hx hb hX hbl hbA hS (vp_in_nI (show i + 6 < L by omega) (by omega)) dL_law_522 ?_
  refine ln_eqi (y := xs (i + 6)) (by rw [nI_clamp (by omega)]) ?_
  refine mq_Vl (As := [.int (xs (i + 1)), .int (xs (i + 2)), .int (xs (i + 3)), .int (xs (i + 4)), .int (xs (i + 5)), .int (xs (i + 6))]) (rest := [.long r1]) (ci := 12) (k0 := 0) ⟨hx, hb, hml, hown, htsL⟩ (cM_mark l D ad (cy 0) (cy 1) (iniA 64) (fun _ => 0) (fun _ => 0) (fun _ => 0) (fun _ => 0) (fun _ => 1) (fun _ => 0) (fun _ => 0) 0 0 0 0 0 0 0 0 0 0 0 0 0 (fun _ => 0) (fun _ => 0) (fun _ => 0) (xs (i + 1)) (xs (i + 2)) (xs (i + 3)) (xs (i + 4)) (xs (i + 5)) (xs (i + 6)) (by rw [ini_0]; decide) (by rw [ini_1]; decide) (by decide) (by decide)) (cwV 6 htsL gL_law_X12_mark rfl rfl rfl (by decide +kernel) ⟨Nat.le_of_ble_eq_true rfl, Nat.le_of_ble_eq_true rfl⟩) rfl rfl hP hKm hD hS hA rfl hl.1 rfl (Nat.le_of_ble_eq_true rfl) dL_law_523 ⟨Nat.le_of_ble_eq_true rfl, Nat.le_of_ble_eq_true rfl⟩ (fun r2 w2 H locs hq2 hP hD hS => ?_)
  have heq : r1 = r2 := by
    rcases hq2 with ⟨-, h2, -⟩ | h2
    · rw [hq1.1, h2]
    · obtain ⟨_, _, _, _, _, _, _, ⟨h9, _⟩, _⟩ := h2
      rw [ini_0] at h9
      exact absurd h9 (Nat.not_lt_zero _)
  refine W.lcmp hx hb dL_law_526 ?_
  refine lv_if_eq (tgt := 1374) hx hb dL_law_527 (by decide) (fun c9 => ?_) (fun c9 => ?_)
  · exact hend _ _ _ _ (by decide) (by decide) hS
  · exact absurd ((lg_cmp_eq _ _).mpr heq) c9
set_option maxHeartbeats 4000000 in
set_option maxRecDepth 100000 in
theorem law_7 (l : Launch) {p : Program} {e : Env} {s : State} {m : MethodId} {below : List Frame} {meth : Method} {c : Code} {b L : Nat} {xs : Nat → Int32} (C0 : lw_At p s m meth c b L xs) {D : va_G} {cy : Nat → ClassId} (hK : va_K D vwCl (cT cy) s) (hN : nst s) {i : Nat} (hi : i + 7 ≤ L) (hL : L ≤ 3584) {d0 pA mA go0 ga0 gb0 gc0 m0 sA rA fQ t0 up lo g0 ga ho shA pq sA0 s0 z0 s1 z1 s2 z2 s3 z3 : Nat} {sa ra ad : Nat → Nat} {H : Heap} {locs : List Loc} {ls : Array Slot} (hP : va_P D vwCl (fC cy d0 pA mA go0 ga0 gb0 gc0 m0 sA rA fQ t0 up lo g0 ga ho shA pq sA0 s0 z0 s1 z1 s2 z2 s3 z3 sa ra ++ fM cy ad) H) (hD : va_D (fun q : Nat => s.heap.size ≤ q) (fC cy d0 pA mA go0 ga0 gb0 gc0 m0 sA rA fQ t0 up lo g0 ga ho shA pq sA0 s0 z0 s1 z1 s2 z2 s3 z3 sa ra ++ fM cy ad)) (hS : va_S (fun q : Nat => s.heap.size ≤ q) s.heap H locs) (hl : lv_has ls 4 [(3, .int (nI i)), (2, .ref (ad 0)), (1, .ref d0), (0, .ref b)]) (hend : ∀ (H : Heap) (locs : List Loc) (cs sl : Nat), cs ≤ 1000 → sl ≤ 20000 → va_S (fun q : Nat => s.heap.size ≤ q) s.heap H locs → W p l e room_1 s m #[Value.ref b] below meth c H locs cs sl (lw_Z below #[Value.ref b] s) (F0 m 1374 ls [])) : W p l e room_1 s m #[Value.ref b] below meth c H locs 100 15000 (lw_Z below #[Value.ref b] s) (F0 m 532 ls []) := by
  obtain ⟨hx, hb, hr, hml, hown, hts, hX, hbl, hlocks, hgv⟩ := C0
  have htsL : ∀ w ∈ wsL_law, w.before #[Value.ref b] s = true := fun w h => hts w (wsL_law_in w h)
  have hown : s.vm.findClass RL = some m.cls := hown
  have hA : ∀ q : Nat, s.heap.size ≤ q → (fun q : Nat => s.heap.size ≤ q) q := fun _ h => h
  have hbA : ¬ (fun q : Nat => s.heap.size ≤ q) b := Nat.not_le.mpr hbl
  have hKm : va_K D vwCl (mT (cy 0) (cy 1)) s := hK.sub [0, 1] rfl
  refine lv_aload_n hx hb dL_law_532 rfl (lv_at hl 2 rfl) ?_
  refine lv_aload_n hx hb dL_law_533 rfl (lv_at hl 3 rfl) ?_
  refine lv_iload_n hx hb dL_law_534 rfl (lv_at hl 0 rfl) ?_
  refine lv_iconst (v := (nI (1))) hx hb dL_law_535 (by decide) ?_
  refine ln_iadd hx hb dL_law_536 ?_
  refine va_sld hx hb hX hbl hbA hS (vp_in_nI (show i + 1 < L by omega) (by omega)) dL_law_537 ?_
  refine ln_eqi (y := xs (i + 1)) (by rw [nI_clamp (by omega)]) ?_
  refine lv_aload_n hx hb dL_law_538 rfl (lv_at hl 3 rfl) ?_
  refine lv_iload_n hx hb dL_law_539 rfl (lv_at hl 0 rfl) ?_
  refine lv_iconst (v := (nI (2))) hx hb dL_law_540 (by decide) ?_
  refine ln_iadd hx hb dL_law_541 ?_
  refine va_sld hx hb hX hbl hbA hS (vp_in_nI (show i + 2 < L by omega) (by omega)) dL_law_542 ?_
  refine ln_eqi (y := xs (i + 2)) (by rw [nI_clamp (by omega)]) ?_
  have hP := hP.subT (w' := [(d0, .inr (11, [.ref (pA), .int (nI (0)), .ref (mA), .int (nI (0)), .ref (go0), .ref (m0), .ref (fQ), .int (nI (0)), .ref (t0), .ref (g0), .ref (shA), .ref (pq), .long (0)])), (mA, .inl (cy 4, 20, .inr (.inr (.inr (.inr (fun _ => none))))))]) [0, 2] rfl
  have hD := hD.subT (w' := [(d0, .inr (11, [.ref (pA), .int (nI (0)), .ref (mA), .int (nI (0)), .ref (go0), .ref (m0), .ref (fQ), .int (nI (0)), .ref (t0), .ref (g0), .ref (shA), .ref (pq), .long (0)])), (mA, .inl (cy 4, 20, .inr (.inr (.inr (.inr (fun _ => none))))))]) [0, 2] (by decide) rfl
  refine nq_Vl (As := [.int (xs (i + 1)), .int (xs (i + 2))]) (rest := []) (w := [(d0, .inr (11, [.ref (pA), .int (nI (0)), .ref (mA), .int (nI (0)), .ref (go0), .ref (m0), .ref (fQ), .int (nI (0)), .ref (t0), .ref (g0), .ref (shA), .ref (pq), .long (0)])), (mA, .inl (cy 4, 20, .inr (.inr (.inr (.inr (fun _ => none))))))]) (wr := fM cy ad) (ci := 11) (k0 := 0) ⟨hx, hb, hml, hown, htsL⟩ (qX11_as_n l D cy d0 pA 0 mA 0 go0 m0 fQ 0 t0 g0 shA pq 0 (fun _ => none) (xs (i + 1)) (xs (i + 2)) ix0) (cwV 2 htsL gL_law_X11_as rfl rfl rfl (by decide +kernel) ⟨Nat.le_of_ble_eq_true rfl, Nat.le_of_ble_eq_true rfl⟩) rfl rfl hP hK hD hN hS hA rfl hl.1 rfl (Nat.le_of_ble_eq_true rfl) dL_law_543 ⟨Nat.le_of_ble_eq_true rfl, Nat.le_of_ble_eq_true rfl⟩ (fun r1 w1 H locs hq1 hP hD hS => ?_)
  have hP := hP.right
  have hD := hD.right
  refine lv_aload_n hx hb dL_law_546 rfl (lv_at hl 1 rfl) ?_
  refine lv_aload_n hx hb dL_law_547 rfl (lv_at hl 3 rfl) ?_
  refine lv_iload_n hx hb dL_law_548 rfl (lv_at hl 0 rfl) ?_
  refine lv_iconst (v := (nI (1))) hx hb dL_law_549 (by decide) ?_
  refine ln_iadd hx hb dL_law_550 ?_
  refine va_sld hx hb hX hbl hbA hS (vp_in_nI (show i + 1 < L by omega) (by omega)) dL_law_551 ?_
  refine ln_eqi (y := xs (i + 1)) (by rw [nI_clamp (by omega)]) ?_
  refine lv_aload_n hx hb dL_law_552 rfl (lv_at hl 3 rfl) ?_
  refine lv_iload_n hx hb dL_law_553 rfl (lv_at hl 0 rfl) ?_
  refine lv_iconst (v := (nI (2))) hx hb dL_law_554 (by decide) ?_
  refine ln_iadd hx hb dL_law_555 ?_
  refine va_sld hx hb hX hbl hbA hS (vp_in_nI (show i + 2 < L by omega) (by omega)) dL_law_556 ?_
  refine ln_eqi (y := xs (i + 2)) (by rw [nI_clamp (by omega)]) ?_
  refine mq_Vl (As := [.int (xs (i + 1)), .int (xs (i + 2))]) (rest := [.long r1]) (ci := 12) (k0 := 0) ⟨hx, hb, hml, hown, htsL⟩ (cM_as l D ad (cy 0) (cy 1) (iniA 64) (fun _ => 0) (fun _ => 0) (fun _ => 0) (fun _ => 0) (fun _ => 1) (fun _ => 0) (fun _ => 0) 0 0 0 0 0 0 0 0 0 0 0 0 0 (fun _ => 0) (fun _ => 0) (fun _ => 0) (xs (i + 1)) (xs (i + 2)) (by rw [ini_1]; decide) (fun i h => absurd h (by rw [ini_1]; exact Nat.not_lt_zero i))) (cwV 2 htsL gL_law_X12_as rfl rfl rfl (by decide +kernel) ⟨Nat.le_of_ble_eq_true rfl, Nat.le_of_ble_eq_true rfl⟩) rfl rfl hP hKm hD hS hA rfl hl.1 rfl (Nat.le_of_ble_eq_true rfl) dL_law_557 ⟨Nat.le_of_ble_eq_true rfl, Nat.le_of_ble_eq_true rfl⟩ (fun r2 w2 H locs hq2 hP hD hS => ?_)
  have heq : r1 = r2 := by
    rcases hq2 with ⟨-, h2, -⟩ | h2
    · rw [hq1.1, h2]
    · obtain ⟨_, _, ⟨_, _, h9, _⟩, _⟩ := h2
      rw [ini_1] at h9
      exact absurd h9 (Nat.not_lt_zero _)
  refine W.lcmp hx hb dL_law_560 ?_
  refine lv_if_eq (tgt := 1374) hx hb dL_law_561 (by decide) (fun c9 => ?_) (fun c9 => ?_)
  · exact hend _ _ _ _ (by decide) (by decide) hS
  · exact absurd ((lg_cmp_eq _ _).mpr heq) c9
set_option maxHeartbeats 4000000 in
set_option maxRecDepth 100000 in
theorem law_8 (l : Launch) {p : Program} {e : Env} {s : State} {m : MethodId} {below : List Frame} {meth : Method} {c : Code} {b L : Nat} {xs : Nat → Int32} (C0 : lw_At p s m meth c b L xs) {D : va_G} {cy : Nat → ClassId} (hK : va_K D vwCl (cT cy) s) (hN : nst s) {i : Nat} (hi : i + 7 ≤ L) (hL : L ≤ 3584) {d0 pA mA go0 ga0 gb0 gc0 m0 sA rA fQ t0 up lo g0 ga ho shA pq sA0 s0 z0 s1 z1 s2 z2 s3 z3 : Nat} {sa ra ad : Nat → Nat} {H : Heap} {locs : List Loc} {ls : Array Slot} (hP : va_P D vwCl (fC cy d0 pA mA go0 ga0 gb0 gc0 m0 sA rA fQ t0 up lo g0 ga ho shA pq sA0 s0 z0 s1 z1 s2 z2 s3 z3 sa ra ++ fM cy ad) H) (hD : va_D (fun q : Nat => s.heap.size ≤ q) (fC cy d0 pA mA go0 ga0 gb0 gc0 m0 sA rA fQ t0 up lo g0 ga ho shA pq sA0 s0 z0 s1 z1 s2 z2 s3 z3 sa ra ++ fM cy ad)) (hS : va_S (fun q : Nat => s.heap.size ≤ q) s.heap H locs) (hl : lv_has ls 4 [(3, .int (nI i)), (2, .ref (ad 0)), (1, .ref d0), (0, .ref b)]) (hend : ∀ (H : Heap) (locs : List Loc) (cs sl : Nat), cs ≤ 1000 → sl ≤ 20000 → va_S (fun q : Nat => s.heap.size ≤ q) s.heap H locs → W p l e room_1 s m #[Value.ref b] below meth c H locs cs sl (lw_Z below #[Value.ref b] s) (F0 m 1374 ls [])) : W p l e room_1 s m #[Value.ref b] below meth c H locs 100 15000 (lw_Z below #[Value.ref b] s) (F0 m 566 ls []) := by
  obtain ⟨hx, hb, hr, hml, hown, hts, hX, hbl, hlocks, hgv⟩ := C0
  have htsL : ∀ w ∈ wsL_law, w.before #[Value.ref b] s = true := fun w h => hts w (wsL_law_in w h)
  have hown : s.vm.findClass RL = some m.cls := hown
  have hA : ∀ q : Nat, s.heap.size ≤ q → (fun q : Nat => s.heap.size ≤ q) q := fun _ h => h
  have hbA : ¬ (fun q : Nat => s.heap.size ≤ q) b := Nat.not_le.mpr hbl
  have hKm : va_K D vwCl (mT (cy 0) (cy 1)) s := hK.sub [0, 1] rfl
  refine lv_aload_n hx hb dL_law_566 rfl (lv_at hl 2 rfl) ?_
  refine lv_aload_n hx hb dL_law_567 rfl (lv_at hl 3 rfl) ?_
  refine lv_iload_n hx hb dL_law_568 rfl (lv_at hl 0 rfl) ?_
  refine lv_iconst (v := (nI (1))) hx hb dL_law_569 (by decide) ?_
  refine ln_iadd hx hb dL_law_570 ?_
  refine va_sld hx hb hX hbl hbA hS (vp_in_nI (show i + 1 < L by omega) (by omega)) dL_law_571 ?_
  refine ln_eqi (y := xs (i + 1)) (by rw [nI_clamp (by omega)]) ?_
  refine lv_aload_n hx hb dL_law_572 rfl (lv_at hl 3 rfl) ?_
  refine lv_iload_n hx hb dL_law_573 rfl (lv_at hl 0 rfl) ?_
  refine lv_iconst (v := (nI (2))) hx hb dL_law_574 (by decide) ?_
  refine ln_iadd hx hb dL_law_575 ?_
  refine va_sld hx hb hX hbl hbA hS (vp_in_nI (show i + 2 < L by omega) (by omega)) dL_law_576 ?_
  refine ln_eqi (y := xs (i + 2)) (by rw [nI_clamp (by omega)]) ?_
  refine lz_dia hx hb dL_law_577 dL_law_580 dL_law_581 dL_law_584 ?_
  have hP := hP.subT (w' := [(d0, .inr (11, [.ref (pA), .int (nI (0)), .ref (mA), .int (nI (0)), .ref (go0), .ref (m0), .ref (fQ), .int (nI (0)), .ref (t0), .ref (g0), .ref (shA), .ref (pq), .long (0)])), (mA, .inl (cy 4, 20, .inr (.inr (.inr (.inr (fun _ => none))))))]) [0, 2] rfl
  have hD := hD.subT (w' := [(d0, .inr (11, [.ref (pA), .int (nI (0)), .ref (mA), .int (nI (0)), .ref (go0), .ref (m0), .ref (fQ), .int (nI (0)), .ref (t0), .ref (g0), .ref (shA), .ref (pq), .long (0)])), (mA, .inl (cy 4, 20, .inr (.inr (.inr (.inr (fun _ => none))))))]) [0, 2] (by decide) rfl
  refine nq_Vl (As := [.int (xs (i + 1)), .int (zI (xs (i + 2)))]) (rest := []) (w := [(d0, .inr (11, [.ref (pA), .int (nI (0)), .ref (mA), .int (nI (0)), .ref (go0), .ref (m0), .ref (fQ), .int (nI (0)), .ref (t0), .ref (g0), .ref (shA), .ref (pq), .long (0)])), (mA, .inl (cy 4, 20, .inr (.inr (.inr (.inr (fun _ => none))))))]) (wr := fM cy ad) (ci := 11) (k0 := 0) ⟨hx, hb, hml, hown, htsL⟩ (qX11_at_n l D cy d0 pA 0 mA 0 go0 m0 fQ 0 t0 g0 shA pq 0 (fun _ => none) (xs (i + 1)) (zI (xs (i + 2))) ix0) (cwV 2 htsL gL_law_X11_at rfl rfl rfl (by decide +kernel) ⟨Nat.le_of_ble_eq_true rfl, Nat.le_of_ble_eq_true rfl⟩) rfl rfl hP hK hD hN hS hA rfl hl.1 rfl (Nat.le_of_ble_eq_true rfl) dL_law_585 ⟨Nat.le_of_ble_eq_true rfl, Nat.le_of_ble_eq_true rfl⟩ (fun r1 w1 H locs hq1 hP hD hS => ?_)
  have hP := hP.right
  have hD := hD.right
  refine lv_aload_n hx hb dL_law_588 rfl (lv_at hl 1 rfl) ?_
  refine lv_aload_n hx hb dL_law_589 rfl (lv_at hl 3 rfl) ?_
  refine lv_iload_n hx hb dL_law_590 rfl (lv_at hl 0 rfl) ?_
  refine lv_iconst (v := (nI (1))) hx hb dL_law_591 (by decide) ?_
  refine ln_iadd hx hb dL_law_592 ?_
  refine va_sld hx hb hX hbl hbA hS (vp_in_nI (show i + 1 < L by omega) (by omega)) dL_law_593 ?_
  refine ln_eqi (y := xs (i + 1)) (by rw [nI_clamp (by omega)]) ?_
  refine lv_aload_n hx hb dL_law_594 rfl (lv_at hl 3 rfl) ?_
  refine lv_iload_n hx hb dL_law_595 rfl (lv_at hl 0 rfl) ?_
  refine lv_iconst (v := (nI (2))) hx hb dL_law_596 (by decide) ?_
  refine ln_iadd hx hb dL_law_597 ?_
  refine va_sld hx hb hX hbl hbA hS (vp_in_nI (show i + 2 < L by omega) (by omega)) dL_law_598 ?_
  refine ln_eqi (y := xs (i + 2)) (by rw [nI_clamp (by omega)]) ?_
  refine lz_dia hx hb dL_law_599 dL_law_602 dL_law_603 dL_law_606 ?_
  refine mq_Vl (As := [.int (xs (i + 1)), .int (zI (xs (i + 2)))]) (rest := [.long r1]) (ci := 12) (k0 := 0) ⟨hx, hb, hml, hown, htsL⟩ (cM_at l D ad (cy 0) (cy 1) (iniA 64) (fun _ => 0) (fun _ => 0) (fun _ => 0) (fun _ => 0) (fun _ => 1) (fun _ => 0) (fun _ => 0) 0 0 0 0 0 0 0 0 0 0 0 0 0 (fun _ => 0) (fun _ => 0) (fun _ => 0) (xs (i + 1)) (zI (xs (i + 2))) (by rw [ini_0]; decide) (fun i h => absurd h (by rw [ini_0]; exact Nat.not_lt_zero i)) (by rw [ini_1]; decide) (fun i h => absurd h (by rw [ini_1]; exact Nat.not_lt_zero i))) (cwV 2 htsL gL_law_X12_at rfl rfl rfl (by decide +kernel) ⟨Nat.le_of_ble_eq_true rfl, Nat.le_of_ble_eq_true rfl⟩) rfl rfl hP hKm hD hS hA rfl hl.1 rfl (Nat.le_of_ble_eq_true rfl) dL_law_607 ⟨Nat.le_of_ble_eq_true rfl, Nat.le_of_ble_eq_true rfl⟩ (fun r2 w2 H locs hq2 hP hD hS => ?_)
  have heq : r1 = r2 := by
    rcases hq2 with ⟨-, h2, -⟩ | h2
    · rw [hq1.1, h2]
    · obtain ⟨_, ⟨_, h9⟩, _⟩ := h2
      rw [ini_1] at h9
      exact absurd h9 (Nat.not_lt_zero _)
  refine W.lcmp hx hb dL_law_610 ?_
  refine lv_if_eq (tgt := 1374) hx hb dL_law_611 (by decide) (fun c9 => ?_) (fun c9 => ?_)
  · exact hend _ _ _ _ (by decide) (by decide) hS
  · exact absurd ((lg_cmp_eq _ _).mpr heq) c9
set_option maxHeartbeats 4000000 in
set_option maxRecDepth 100000 in
theorem law_9 (l : Launch) {p : Program} {e : Env} {s : State} {m : MethodId} {below : List Frame} {meth : Method} {c : Code} {b L : Nat} {xs : Nat → Int32} (C0 : lw_At p s m meth c b L xs) {D : va_G} {cy : Nat → ClassId} (hK : va_K D vwCl (cT cy) s) (hN : nst s) {i : Nat} (hi : i + 7 ≤ L) (hL : L ≤ 3584) {d0 pA mA go0 ga0 gb0 gc0 m0 sA rA fQ t0 up lo g0 ga ho shA pq sA0 s0 z0 s1 z1 s2 z2 s3 z3 : Nat} {sa ra ad : Nat → Nat} {H : Heap} {locs : List Loc} {ls : Array Slot} (hP : va_P D vwCl (fC cy d0 pA mA go0 ga0 gb0 gc0 m0 sA rA fQ t0 up lo g0 ga ho shA pq sA0 s0 z0 s1 z1 s2 z2 s3 z3 sa ra ++ fM cy ad) H) (hD : va_D (fun q : Nat => s.heap.size ≤ q) (fC cy d0 pA mA go0 ga0 gb0 gc0 m0 sA rA fQ t0 up lo g0 ga ho shA pq sA0 s0 z0 s1 z1 s2 z2 s3 z3 sa ra ++ fM cy ad)) (hS : va_S (fun q : Nat => s.heap.size ≤ q) s.heap H locs) (hl : lv_has ls 4 [(3, .int (nI i)), (2, .ref (ad 0)), (1, .ref d0), (0, .ref b)]) (hend : ∀ (H : Heap) (locs : List Loc) (cs sl : Nat), cs ≤ 1000 → sl ≤ 20000 → va_S (fun q : Nat => s.heap.size ≤ q) s.heap H locs → W p l e room_1 s m #[Value.ref b] below meth c H locs cs sl (lw_Z below #[Value.ref b] s) (F0 m 1374 ls [])) : W p l e room_1 s m #[Value.ref b] below meth c H locs 100 15000 (lw_Z below #[Value.ref b] s) (F0 m 616 ls []) := by
  obtain ⟨hx, hb, hr, hml, hown, hts, hX, hbl, hlocks, hgv⟩ := C0
  have htsL : ∀ w ∈ wsL_law, w.before #[Value.ref b] s = true := fun w h => hts w (wsL_law_in w h)
  have hown : s.vm.findClass RL = some m.cls := hown
  have hA : ∀ q : Nat, s.heap.size ≤ q → (fun q : Nat => s.heap.size ≤ q) q := fun _ h => h
  have hbA : ¬ (fun q : Nat => s.heap.size ≤ q) b := Nat.not_le.mpr hbl
  have hKm : va_K D vwCl (mT (cy 0) (cy 1)) s := hK.sub [0, 1] rfl
  refine lv_aload_n hx hb dL_law_616 rfl (lv_at hl 2 rfl) ?_
  refine lv_aload_n hx hb dL_law_617 rfl (lv_at hl 3 rfl) ?_
  refine lv_iload_n hx hb dL_law_618 rfl (lv_at hl 0 rfl) ?_
  refine lv_iconst (v := (nI (1))) hx hb dL_law_619 (by decide) ?_
  refine ln_iadd hx hb dL_law_620 ?_
  refine va_sld hx hb hX hbl hbA hS (vp_in_nI (show i + 1 < L by omega) (by omega)) dL_law_621 ?_
  refine ln_eqi (y := xs (i + 1)) (by rw [nI_clamp (by omega)]) ?_
  refine lv_aload_n hx hb dL_law_622 rfl (lv_at hl 3 rfl) ?_
  refine lv_iload_n hx hb dL_law_623 rfl (lv_at hl 0 rfl) ?_
  refine lv_iconst (v := (nI (2))) hx hb dL_law_624 (by decide) ?_
  refine ln_iadd hx hb dL_law_625 ?_
  refine va_sld hx hb hX hbl hbA hS (vp_in_nI (show i + 2 < L by omega) (by omega)) dL_law_626 ?_
  refine ln_eqi (y := xs (i + 2)) (by rw [nI_clamp (by omega)]) ?_
  have hP := hP.subT (w' := [(d0, .inr (11, [.ref (pA), .int (nI (0)), .ref (mA), .int (nI (0)), .ref (go0), .ref (m0), .ref (fQ), .int (nI (0)), .ref (t0), .ref (g0), .ref (shA), .ref (pq), .long (0)])), (mA, .inl (cy 4, 20, .inr (.inr (.inr (.inr (fun _ => none))))))]) [0, 2] rfl
  have hD := hD.subT (w' := [(d0, .inr (11, [.ref (pA), .int (nI (0)), .ref (mA), .int (nI (0)), .ref (go0), .ref (m0), .ref (fQ), .int (nI (0)), .ref (t0), .ref (g0), .ref (shA), .ref (pq), .long (0)])), (mA, .inl (cy 4, 20, .inr (.inr (.inr (.inr (fun _ => none))))))]) [0, 2] (by decide) rfl
  refine nq_Vl (As := [.int (xs (i + 1)), .int (xs (i + 2))]) (rest := []) (w := [(d0, .inr (11, [.ref (pA), .int (nI (0)), .ref (mA), .int (nI (0)), .ref (go0), .ref (m0), .ref (fQ), .int (nI (0)), .ref (t0), .ref (g0), .ref (shA), .ref (pq), .long (0)])), (mA, .inl (cy 4, 20, .inr (.inr (.inr (.inr (fun _ => none))))))]) (wr := fM cy ad) (ci := 11) (k0 := 0) ⟨hx, hb, hml, hown, htsL⟩ (qX11_agree_n l D cy d0 pA 0 mA 0 go0 m0 fQ 0 t0 g0 shA pq 0 (fun _ => none) (xs (i + 1)) (xs (i + 2)) ix0 ix0) (cwV 2 htsL gL_law_X11_agree rfl rfl rfl (by decide +kernel) ⟨Nat.le_of_ble_eq_true rfl, Nat.le_of_ble_eq_true rfl⟩) rfl rfl hP hK hD hN hS hA rfl hl.1 rfl (Nat.le_of_ble_eq_true rfl) dL_law_627 ⟨Nat.le_of_ble_eq_true rfl, Nat.le_of_ble_eq_true rfl⟩ (fun r1 w1 H locs hq1 hP hD hS => ?_)
  have hP := hP.right
  have hD := hD.right
  refine lv_aload_n hx hb dL_law_630 rfl (lv_at hl 1 rfl) ?_
  refine lv_aload_n hx hb dL_law_631 rfl (lv_at hl 3 rfl) ?_
  refine lv_iload_n hx hb dL_law_632 rfl (lv_at hl 0 rfl) ?_
  refine lv_iconst (v := (nI (1))) hx hb dL_law_633 (by decide) ?_
  refine ln_iadd hx hb dL_law_634 ?_
  refine va_sld hx hb hX hbl hbA hS (vp_in_nI (show i + 1 < L by omega) (by omega)) dL_law_635 ?_
  refine ln_eqi (y := xs (i + 1)) (by rw [nI_clamp (by omega)]) ?_
  refine lv_aload_n hx hb dL_law_636 rfl (lv_at hl 3 rfl) ?_
  refine lv_iload_n hx hb dL_law_637 rfl (lv_at hl 0 rfl) ?_
  refine lv_iconst (v := (nI (2))) hx hb dL_law_638 (by decide) ?_
  refine ln_iadd hx hb dL_law_639 ?_
  refine va_sld hx hb hX hbl hbA hS (vp_in_nI (show i + 2 < L by omega) (by omega)) dL_law_640 ?_
  refine ln_eqi (y := xs (i + 2)) (by rw [nI_clamp (by omega)]) ?_
  refine mq_Vl (As := [.int (xs (i + 1)), .int (xs (i + 2))]) (rest := [.long r1]) (ci := 12) (k0 := 0) ⟨hx, hb, hml, hown, htsL⟩ (cM_agree l D ad (cy 0) (cy 1) (iniA 64) (fun _ => 0) (fun _ => 0) (fun _ => 0) (fun _ => 0) (fun _ => 1) (fun _ => 0) (fun _ => 0) 0 0 0 0 0 0 0 0 0 0 0 0 0 (fun _ => 0) (fun _ => 0) (fun _ => 0) (xs (i + 1)) (xs (i + 2)) (by rw [ini_0]; decide) (fun i h => absurd h (by rw [ini_0]; exact Nat.not_lt_zero i)) (by rw [ini_1]; decide) (fun i h => absurd h (by rw [ini_1]; exact Nat.not_lt_zero i))) (cwV 2 htsL gL_law_X12_agree rfl rfl rfl (by decide +kernel) ⟨Nat.le_of_ble_eq_true rfl, Nat.le_of_ble_eq_true rfl⟩) rfl rfl hP hKm hD hS hA rfl hl.1 rfl (Nat.le_of_ble_eq_true rfl) dL_law_641 ⟨Nat.le_of_ble_eq_true rfl, Nat.le_of_ble_eq_true rfl⟩ (fun r2 w2 H locs hq2 hP hD hS => ?_)
  have heq : r1 = r2 := by
    rcases hq2 with ⟨-, h2, -⟩ | h2
    · rw [hq1.1, h2]
    · obtain ⟨_, _, ⟨_, _, h9, _⟩, _⟩ := h2
      rw [ini_1] at h9
      exact absurd h9 (Nat.not_lt_zero _)
  refine W.lcmp hx hb dL_law_644 ?_
  refine lv_if_eq (tgt := 1374) hx hb dL_law_645 (by decide) (fun c9 => ?_) (fun c9 => ?_)
  · exact hend _ _ _ _ (by decide) (by decide) hS
  · exact absurd ((lg_cmp_eq _ _).mpr heq) c9
