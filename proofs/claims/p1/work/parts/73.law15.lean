set_option maxHeartbeats 4000000 in
set_option maxRecDepth 100000 in
theorem law_15 (l : Launch) {p : Program} {e : Env} {s : State} {m : MethodId} {below : List Frame} {meth : Method} {c : Code} {b L : Nat} {xs : Nat → Int32} (C0 : lw_At p s m meth c b L xs) {D : va_G} {cy : Nat → ClassId} (hK : va_K D vwCl (cT cy) s) (hN : nst s) {i : Nat} (hi : i + 7 ≤ L) (hL : L ≤ 3584) {d0 pA mA go0 ga0 gb0 gc0 m0 sA rA fQ t0 up lo g0 ga ho shA pq sA0 s0 z0 s1 z1 s2 z2 s3 z3 : Nat} {sa ra ad : Nat → Nat} {H : Heap} {locs : List Loc} {ls : Array Slot} (hP : va_P D vwCl (fC cy d0 pA mA go0 ga0 gb0 gc0 m0 sA rA fQ t0 up lo g0 ga ho shA pq sA0 s0 z0 s1 z1 s2 z2 s3 z3 sa ra ++ fM cy ad) H) (hD : va_D (fun q : Nat => s.heap.size ≤ q) (fC cy d0 pA mA go0 ga0 gb0 gc0 m0 sA rA fQ t0 up lo g0 ga ho shA pq sA0 s0 z0 s1 z1 s2 z2 s3 z3 sa ra ++ fM cy ad)) (hS : va_S (fun q : Nat => s.heap.size ≤ q) s.heap H locs) (hl : lv_has ls 4 [(3, .int (nI i)), (2, .ref (ad 0)), (1, .ref d0), (0, .ref b)]) (hend : ∀ (H : Heap) (locs : List Loc) (cs sl : Nat), cs ≤ 1000 → sl ≤ 20000 → va_S (fun q : Nat => s.heap.size ≤ q) s.heap H locs → W p l e room_1 s m #[Value.ref b] below meth c H locs cs sl (lw_Z below #[Value.ref b] s) (F0 m 1374 ls [])) : W p l e room_1 s m #[Value.ref b] below meth c H locs 100 15000 (lw_Z below #[Value.ref b] s) (F0 m 750 ls []) := by
  obtain ⟨hx, hb, hr, hml, hown, hts, hX, hbl, hlocks, hgv⟩ := C0
  have htsL : ∀ w ∈ wsL_law, w.before #[Value.ref b] s = true := fun w h => hts w (wsL_law_in w h)
  have hown : s.vm.findClass RL = some m.cls := hown
  have hA : ∀ q : Nat, s.heap.size ≤ q → (fun q : Nat => s.heap.size ≤ q) q := fun _ h => h
  have hbA : ¬ (fun q : Nat => s.heap.size ≤ q) b := Nat.not_le.mpr hbl
  have hKm : va_K D vwCl (mT (cy 0) (cy 1)) s := hK.sub [0, 1] rfl
  refine lv_aload_n hx hb dL_law_750 rfl (lv_at hl 2 rfl) ?_
  have hP := hP.subT (w' := [(d0, .inr (11, [.ref (pA), .int (nI (0)), .ref (mA), .int (nI (0)), .ref (go0), .ref (m0), .ref (fQ), .int (nI (0)), .ref (t0), .ref (g0), .ref (shA), .ref (pq), .long (0)])), (m0, .inr (2, [.ref (sA), .int (nI (0)), .ref (rA)])), (sA, .inl (cy 0, 12, .inl (nA (fun _ => 0)))), (rA, .inl (cy 0, 7, .inl (nA (fun _ => 0))))]) [0, 7, 8, 9] rfl
  have hD := hD.subT (w' := [(d0, .inr (11, [.ref (pA), .int (nI (0)), .ref (mA), .int (nI (0)), .ref (go0), .ref (m0), .ref (fQ), .int (nI (0)), .ref (t0), .ref (g0), .ref (shA), .ref (pq), .long (0)])), (m0, .inr (2, [.ref (sA), .int (nI (0)), .ref (rA)])), (sA, .inl (cy 0, 12, .inl (nA (fun _ => 0)))), (rA, .inl (cy 0, 7, .inl (nA (fun _ => 0))))]) [0, 7, 8, 9] (by decide) rfl
  refine nq_Vl (As := []) (rest := []) (w := [(d0, .inr (11, [.ref (pA), .int (nI (0)), .ref (mA), .int (nI (0)), .ref (go0), .ref (m0), .ref (fQ), .int (nI (0)), .ref (t0), .ref (g0), .ref (shA), .ref (pq), .long (0)])), (m0, .inr (2, [.ref (sA), .int (nI (0)), .ref (rA)])), (sA, .inl (cy 0, 12, .inl (nA (fun _ => 0)))), (rA, .inl (cy 0, 7, .inl (nA (fun _ => 0))))]) (wr := fM cy ad) (ci := 11) (k0 := 0) ⟨hx, hb, hml, hown, htsL⟩ (qX11_wrong l D cy d0 pA 0 mA 0 go0 m0 fQ 0 t0 g0 shA pq 0 sA 0 rA (fun _ => 0) (fun _ => 0)  (by decide) (fun k h => absurd h (Nat.not_lt_zero k))) (cwV 0 htsL gL_law_X11_wrong rfl rfl rfl (by decide +kernel) ⟨Nat.le_of_ble_eq_true rfl, Nat.le_of_ble_eq_true rfl⟩) rfl rfl hP hK hD hN hS hA rfl hl.1 rfl (Nat.le_of_ble_eq_true rfl) dL_law_751 ⟨Nat.le_of_ble_eq_true rfl, Nat.le_of_ble_eq_true rfl⟩ (fun r1 w1 H locs hq1 hP hD hS => ?_)
  have hP := hP.right
  have hD := hD.right
  refine lv_aload_n hx hb dL_law_754 rfl (lv_at hl 1 rfl) ?_
  refine mq_Vl (As := []) (rest := [.long r1]) (ci := 12) (k0 := 0) ⟨hx, hb, hml, hown, htsL⟩ (cM_wrong l D ad (cy 0) (cy 1) (iniA 64) (fun _ => 0) (fun _ => 0) (fun _ => 0) (fun _ => 0) (fun _ => 1) (fun _ => 0) (fun _ => 0) 0 0 0 0 0 0 0 0 0 0 0 0 0 (fun _ => 0) (fun _ => 0) (fun _ => 0)  (by rw [ini_2]; decide) (fun k h => absurd h (by rw [ini_2]; exact Nat.not_lt_zero k))) (cwV 0 htsL gL_law_X12_wrong rfl rfl rfl (by decide +kernel) ⟨Nat.le_of_ble_eq_true rfl, Nat.le_of_ble_eq_true rfl⟩) rfl rfl hP hKm hD hS hA rfl hl.1 rfl (Nat.le_of_ble_eq_true rfl) dL_law_755 ⟨Nat.le_of_ble_eq_true rfl, Nat.le_of_ble_eq_true rfl⟩ (fun r2 w2 H locs hq2 hP hD hS => ?_)
  have heq : r1 = r2 := by
    rw [hq1.1, hq2.1, ini_2]
    rfl
  refine W.lcmp hx hb dL_law_758 ?_
  refine lv_if_eq (tgt := 1374) hx hb dL_law_759 (by decide) (fun c9 => ?_) (fun c9 => ?_)
  · exact hend _ _ _ _ (by decide) (by decide) hS
  · exact absurd ((lg_cmp_eq _ _).mpr heq) c9
set_option maxHeartbeats 4000000 in
set_option maxRecDepth 100000 in
theorem law_16 (l : Launch) {p : Program} {e : Env} {s : State} {m : MethodId} {below : List Frame} {meth : Method} {c : Code} {b L : Nat} {xs : Nat → Int32} (C0 : lw_At p s m meth c b L xs) {D : va_G} {cy : Nat → ClassId} (hK : va_K D vwCl (cT cy) s) (hN : nst s) {i : Nat} (hi : i + 7 ≤ L) (hL : L ≤ 3584) {d0 pA mA go0 ga0 gb0 gc0 m0 sA rA fQ t0 up lo g0 ga ho shA pq sA0 s0 z0 s1 z1 s2 z2 s3 z3 : Nat} {sa ra ad : Nat → Nat} {H : Heap} {locs : List Loc} {ls : Array Slot} (hP : va_P D vwCl (fC cy d0 pA mA go0 ga0 gb0 gc0 m0 sA rA fQ t0 up lo g0 ga ho shA pq sA0 s0 z0 s1 z1 s2 z2 s3 z3 sa ra ++ fM cy ad) H) (hD : va_D (fun q : Nat => s.heap.size ≤ q) (fC cy d0 pA mA go0 ga0 gb0 gc0 m0 sA rA fQ t0 up lo g0 ga ho shA pq sA0 s0 z0 s1 z1 s2 z2 s3 z3 sa ra ++ fM cy ad)) (hS : va_S (fun q : Nat => s.heap.size ≤ q) s.heap H locs) (hl : lv_has ls 4 [(3, .int (nI i)), (2, .ref (ad 0)), (1, .ref d0), (0, .ref b)]) (hend : ∀ (H : Heap) (locs : List Loc) (cs sl : Nat), cs ≤ 1000 → sl ≤ 20000 → va_S (fun q : Nat => s.heap.size ≤ q) s.heap H locs → W p l e room_1 s m #[Value.ref b] below meth c H locs cs sl (lw_Z below #[Value.ref b] s) (F0 m 1374 ls [])) : W p l e room_1 s m #[Value.ref b] below meth c H locs 100 15000 (lw_Z below #[Value.ref b] s) (F0 m 764 ls []) := by
  obtain ⟨hx, hb, hr, hml, hown, hts, hX, hbl, hlocks, hgv⟩ := C0
  have htsL : ∀ w ∈ wsL_law, w.before #[Value.ref b] s = true := fun w h => hts w (wsL_law_in w h)
  have hown : s.vm.findClass RL = some m.cls := hown
  have hA : ∀ q : Nat, s.heap.size ≤ q → (fun q : Nat => s.heap.size ≤ q) q := fun _ h => h
  have hbA : ¬ (fun q : Nat => s.heap.size ≤ q) b := Nat.not_le.mpr hbl
  have hKm : va_K D vwCl (mT (cy 0) (cy 1)) s := hK.sub [0, 1] rfl
  refine lv_aload_n hx hb dL_law_764 rfl (lv_at hl 2 rfl) ?_
  refine lv_aload_n hx hb dL_law_765 rfl (lv_at hl 3 rfl) ?_
  refine lv_iload_n hx hb dL_law_766 rfl (lv_at hl 0 rfl) ?_
  refine lv_iconst (v := (nI (1))) hx hb dL_law_767 (by decide) ?_
  refine ln_iadd hx hb dL_law_768 ?_
  refine va_sld hx hb hX hbl hbA hS (vp_in_nI (show i + 1 < L by omega) (by omega)) dL_law_769 ?_
  refine ln_eqi (y := xs (i + 1)) (by rw [nI_clamp (by omega)]) ?_
  have hP := hP.subT (w' := [(d0, .inr (11, [.ref (pA), .int (nI (0)), .ref (mA), .int (nI (0)), .ref (go0), .ref (m0), .ref (fQ), .int (nI (0)), .ref (t0), .ref (g0), .ref (shA), .ref (pq), .long (0)])), (go0, .inr (3, [.ref (ga0), .ref (gb0), .ref (gc0), .int (nI (0)), .int (nI (0))])), (ga0, .inl (cy 0, 20, .inl (fun _ => 0))), (gb0, .inl (cy 0, 20, .inl (nA (fun _ => 0)))), (gc0, .inl (cy 0, 4, .inl (nA (fun _ => 0)))), (mA, .inl (cy 4, 20, .inr (.inr (.inr (.inr (fun _ => none))))))]) [0, 3, 4, 5, 6, 2] rfl
  have hD := hD.subT (w' := [(d0, .inr (11, [.ref (pA), .int (nI (0)), .ref (mA), .int (nI (0)), .ref (go0), .ref (m0), .ref (fQ), .int (nI (0)), .ref (t0), .ref (g0), .ref (shA), .ref (pq), .long (0)])), (go0, .inr (3, [.ref (ga0), .ref (gb0), .ref (gc0), .int (nI (0)), .int (nI (0))])), (ga0, .inl (cy 0, 20, .inl (fun _ => 0))), (gb0, .inl (cy 0, 20, .inl (nA (fun _ => 0)))), (gc0, .inl (cy 0, 4, .inl (nA (fun _ => 0)))), (mA, .inl (cy 4, 20, .inr (.inr (.inr (.inr (fun _ => none))))))]) [0, 3, 4, 5, 6, 2] (by decide) rfl
  refine nq_Vl (As := [.int (xs (i + 1))]) (rest := []) (w := [(d0, .inr (11, [.ref (pA), .int (nI (0)), .ref (mA), .int (nI (0)), .ref (go0), .ref (m0), .ref (fQ), .int (nI (0)), .ref (t0), .ref (g0), .ref (shA), .ref (pq), .long (0)])), (go0, .inr (3, [.ref (ga0), .ref (gb0), .ref (gc0), .int (nI (0)), .int (nI (0))])), (ga0, .inl (cy 0, 20, .inl (fun _ => 0))), (gb0, .inl (cy 0, 20, .inl (nA (fun _ => 0)))), (gc0, .inl (cy 0, 4, .inl (nA (fun _ => 0)))), (mA, .inl (cy 4, 20, .inr (.inr (.inr (.inr (fun _ => none))))))]) (wr := fM cy ad) (ci := 11) (k0 := 0) ⟨hx, hb, hml, hown, htsL⟩ (qX11_is0 l D cy d0 pA 0 mA 0 go0 m0 fQ 0 t0 g0 shA pq 0 ga0 gb0 gc0 0 0 (fun _ => 0) (fun _ => 0) (fun _ => 0) (fun _ => none) (xs (i + 1)) rfl) (cwV 1 htsL gL_law_X11_is rfl rfl rfl (by decide +kernel) ⟨Nat.le_of_ble_eq_true rfl, Nat.le_of_ble_eq_true rfl⟩) rfl rfl hP hK hD hN hS hA rfl hl.1 rfl (Nat.le_of_ble_eq_true rfl) dL_law_770 ⟨Nat.le_of_ble_eq_true rfl, Nat.le_of_ble_eq_true rfl⟩ (fun r1 w1 H locs hq1 hP hD hS => ?_)
  have hP := hP.right
  have hD := hD.right
  refine lv_aload_n hx hb dL_law_773 rfl (lv_at hl 1 rfl) ?_
  refine lv_aload_n hx hb dL_law_774 rfl (lv_at hl 3 rfl) ?_
  refine lv_iload_n hx hb dL_law_775 rfl (lv_at hl 0 rfl) ?_
  refine lv_iconst (v := (nI (1))) hx hb dL_law_776 (by decide) ?_
  refine ln_iadd hx hb dL_law_777 ?_
  refine va_sld hx hb hX hbl hbA hS (vp_in_nI (show i + 1 < L by omega) (by omega)) dL_law_778 ?_
  refine ln_eqi (y := xs (i + 1)) (by rw [nI_clamp (by omega)]) ?_
  refine mq_Vl (As := [.int (xs (i + 1))]) (rest := [.long r1]) (ci := 12) (k0 := 0) ⟨hx, hb, hml, hown, htsL⟩ (cM_is l D ad (cy 0) (cy 1) (iniA 64) (fun _ => 0) (fun _ => 0) (fun _ => 0) (fun _ => 0) (fun _ => 1) (fun _ => 0) (fun _ => 0) 0 0 0 0 0 0 0 0 0 0 0 0 0 (fun _ => 0) (fun _ => 0) (fun _ => 0) (xs (i + 1)) (by rw [ini_0]; decide) (fun i h => absurd h (by rw [ini_0]; exact Nat.not_lt_zero i)) (by rw [ini_1]; decide) (fun i h => absurd h (by rw [ini_1]; exact Nat.not_lt_zero i)) (by rw [ini_2]; decide) (fun k h => absurd h (by rw [ini_2]; exact Nat.not_lt_zero k))) (cwV 1 htsL gL_law_X12_is rfl rfl rfl (by decide +kernel) ⟨Nat.le_of_ble_eq_true rfl, Nat.le_of_ble_eq_true rfl⟩) rfl rfl hP hKm hD hS hA rfl hl.1 rfl (Nat.le_of_ble_eq_true rfl) dL_law_779 ⟨Nat.le_of_ble_eq_true rfl, Nat.le_of_ble_eq_true rfl⟩ (fun r2 w2 H locs hq2 hP hD hS => ?_)
  have heq : r1 = r2 := by
    obtain ⟨G, cg, _, _, _, _, _, _, _, _, _, _, -, h, h2⟩ := hq2
    rw [ini_1] at h
    rcases h2 with ⟨-, h2, -⟩ | ⟨k, -, h3, -⟩
    · rw [hq1.1, h2]
    · exact absurd h3 (by omega)
  refine W.lcmp hx hb dL_law_782 ?_
  refine lv_if_eq (tgt := 1374) hx hb dL_law_783 (by decide) (fun c9 => ?_) (fun c9 => ?_)
  · exact hend _ _ _ _ (by decide) (by decide) hS
  · exact absurd ((lg_cmp_eq _ _).mpr heq) c9
set_option maxHeartbeats 4000000 in
set_option maxRecDepth 100000 in
theorem law_17 (l : Launch) {p : Program} {e : Env} {s : State} {m : MethodId} {below : List Frame} {meth : Method} {c : Code} {b L : Nat} {xs : Nat → Int32} (C0 : lw_At p s m meth c b L xs) {D : va_G} {cy : Nat → ClassId} (hK : va_K D vwCl (cT cy) s) (hN : nst s) {i : Nat} (hi : i + 7 ≤ L) (hL : L ≤ 3584) {d0 pA mA go0 ga0 gb0 gc0 m0 sA rA fQ t0 up lo g0 ga ho shA pq sA0 s0 z0 s1 z1 s2 z2 s3 z3 : Nat} {sa ra ad : Nat → Nat} {H : Heap} {locs : List Loc} {ls : Array Slot} (hP : va_P D vwCl (fC cy d0 pA mA go0 ga0 gb0 gc0 m0 sA rA fQ t0 up lo g0 ga ho shA pq sA0 s0 z0 s1 z1 s2 z2 s3 z3 sa ra ++ fM cy ad) H) (hD : va_D (fun q : Nat => s.heap.size ≤ q) (fC cy d0 pA mA go0 ga0 gb0 gc0 m0 sA rA fQ t0 up lo g0 ga ho shA pq sA0 s0 z0 s1 z1 s2 z2 s3 z3 sa ra ++ fM cy ad)) (hS : va_S (fun q : Nat => s.heap.size ≤ q) s.heap H locs) (hl : lv_has ls 4 [(3, .int (nI i)), (2, .ref (ad 0)), (1, .ref d0), (0, .ref b)]) (hend : ∀ (H : Heap) (locs : List Loc) (cs sl : Nat), cs ≤ 1000 → sl ≤ 20000 → va_S (fun q : Nat => s.heap.size ≤ q) s.heap H locs → W p l e room_1 s m #[Value.ref b] below meth c H locs cs sl (lw_Z below #[Value.ref b] s) (F0 m 1374 ls [])) : W p l e room_1 s m #[Value.ref b] below meth c H locs 100 15000 (lw_Z below #[Value.ref b] s) (F0 m 788 ls []) := by
  obtain ⟨hx, hb, hr, hml, hown, hts, hX, hbl, hlocks, hgv⟩ := C0
  have htsL : ∀ w ∈ wsL_law, w.before #[Value.ref b] s = true := fun w h => hts w (wsL_law_in w h)
  have hown : s.vm.findClass RL = some m.cls := hown
  have hA : ∀ q : Nat, s.heap.size ≤ q → (fun q : Nat => s.heap.size ≤ q) q := fun _ h => h
  have hbA : ¬ (fun q : Nat => s.heap.size ≤ q) b := Nat.not_le.mpr hbl
  have hKm : va_K D vwCl (mT (cy 0) (cy 1)) s := hK.sub [0, 1] rfl
  refine lv_aload_n hx hb dL_law_788 rfl (lv_at hl 2 rfl) ?_
  refine lv_aload_n hx hb dL_law_789 rfl (lv_at hl 3 rfl) ?_
  refine lv_iload_n hx hb dL_law_790 rfl (lv_at hl 0 rfl) ?_
  refine lv_iconst (v := (nI (1))) hx hb dL_law_791 (by decide) ?_
  refine ln_iadd hx hb dL_law_792 ?_
  refine va_sld hx hb hX hbl hbA hS (vp_in_nI (show i + 1 < L by omega) (by omega)) dL_law_793 ?_
  refine ln_eqi (y := xs (i + 1)) (by rw [nI_clamp (by omega)]) ?_
  refine lv_aload_n hx hb dL_law_794 rfl (lv_at hl 3 rfl) ?_
  refine lv_iload_n hx hb dL_law_795 rfl (lv_at hl 0 rfl) ?_
  refine lv_iconst (v := (nI (2))) hx hb dL_law_796 (by decide) ?_
  refine ln_iadd hx hb dL_law_797 ?_
  refine va_sld hx hb hX hbl hbA hS (vp_in_nI (show i + 2 < L by omega) (by omega)) dL_law_798 ?_
  refine ln_eqi (y := xs (i + 2)) (by rw [nI_clamp (by omega)]) ?_
  refine lv_aload_n hx hb dL_law_799 rfl (lv_at hl 3 rfl) ?_
  refine lv_iload_n hx hb dL_law_800 rfl (lv_at hl 0 rfl) ?_
  refine lv_iconst (v := (nI (3))) hx hb dL_law_801 (by decide) ?_
  refine ln_iadd hx hb dL_law_802 ?_
  refine va_sld hx hb hX hbl hbA hS (vp_in_nI (show i + 3 < L by omega) (by omega)) dL_law_803 ?_
  refine ln_eqi (y := xs (i + 3)) (by rw [nI_clamp (by omega)]) ?_
  have hP := hP.subT (w' := [(d0, .inr (11, [.ref (pA), .int (nI (0)), .ref (mA), .int (nI (0)), .ref (go0), .ref (m0), .ref (fQ), .int (nI (0)), .ref (t0), .ref (g0), .ref (shA), .ref (pq), .long (0)])), (fQ, .inl (cy 5, 8, .inr (.inr (.inr (.inr (fun _ => none)))))), (pq, .inr (6, [.ref (sA0), .int (nI (0)), .int (nI (0))])), (sA0, .inl (cy 7, 20, .inr (.inr (.inr (.inr (stF sa 20)))))), (sa 0, .inr (9, [.int (nI (0)), .int (nI (0)), .ref (ra 0)])), (ra 0, .inl (cy 0, 12, .inl (nA (fun _ => 0))))]) [0, 10, 18, 19, 28, 29] rfl
  have hD := hD.subT (w' := [(d0, .inr (11, [.ref (pA), .int (nI (0)), .ref (mA), .int (nI (0)), .ref (go0), .ref (m0), .ref (fQ), .int (nI (0)), .ref (t0), .ref (g0), .ref (shA), .ref (pq), .long (0)])), (fQ, .inl (cy 5, 8, .inr (.inr (.inr (.inr (fun _ => none)))))), (pq, .inr (6, [.ref (sA0), .int (nI (0)), .int (nI (0))])), (sA0, .inl (cy 7, 20, .inr (.inr (.inr (.inr (stF sa 20)))))), (sa 0, .inr (9, [.int (nI (0)), .int (nI (0)), .ref (ra 0)])), (ra 0, .inl (cy 0, 12, .inl (nA (fun _ => 0))))]) [0, 10, 18, 19, 28, 29] (by decide) rfl
  refine nq_Vl (As := [.int (xs (i + 1)), .int (xs (i + 2)), .int (xs (i + 3))]) (rest := []) (w := [(d0, .inr (11, [.ref (pA), .int (nI (0)), .ref (mA), .int (nI (0)), .ref (go0), .ref (m0), .ref (fQ), .int (nI (0)), .ref (t0), .ref (g0), .ref (shA), .ref (pq), .long (0)])), (fQ, .inl (cy 5, 8, .inr (.inr (.inr (.inr (fun _ => none)))))), (pq, .inr (6, [.ref (sA0), .int (nI (0)), .int (nI (0))])), (sA0, .inl (cy 7, 20, .inr (.inr (.inr (.inr (stF sa 20)))))), (sa 0, .inr (9, [.int (nI (0)), .int (nI (0)), .ref (ra 0)])), (ra 0, .inl (cy 0, 12, .inl (nA (fun _ => 0))))]) (wr := fM cy ad) (ci := 11) (k0 := 0) ⟨hx, hb, hml, hown, htsL⟩ (qX11_field l D cy d0 pA 0 mA 0 go0 m0 fQ 0 t0 g0 shA pq 0 (fun _ => none) sA0 0 0 (stF sa 20) (sa 0) 0 0 (ra 0) (fun _ => 0) (xs (i + 1)) (xs (i + 2)) (xs (i + 3)) (by decide) (by decide) rfl (by decide)) (cwV 3 htsL gL_law_X11_field rfl rfl rfl (by decide +kernel) ⟨Nat.le_of_ble_eq_true rfl, Nat.le_of_ble_eq_true rfl⟩) rfl rfl hP hK hD hN hS hA rfl hl.1 rfl (Nat.le_of_ble_eq_true rfl) dL_law_804 ⟨Nat.le_of_ble_eq_true rfl, Nat.le_of_ble_eq_true rfl⟩ (fun r1 w1 H locs hq1 hP hD hS => ?_)
  have hP := hP.right
  have hD := hD.right
  refine lv_aload_n hx hb dL_law_807 rfl (lv_at hl 1 rfl) ?_
  refine lv_aload_n hx hb dL_law_808 rfl (lv_at hl 3 rfl) ?_
  refine lv_iload_n hx hb dL_law_809 rfl (lv_at hl 0 rfl) ?_
  refine lv_iconst (v := (nI (1))) hx hb dL_law_810 (by decide) ?_
  refine ln_iadd hx hb dL_law_811 ?_
  refine va_sld hx hb hX hbl hbA hS (vp_in_nI (show i + 1 < L by omega) (by omega)) dL_law_812 ?_
  refine ln_eqi (y := xs (i + 1)) (by rw [nI_clamp (by omega)]) ?_
  refine lv_aload_n hx hb dL_law_813 rfl (lv_at hl 3 rfl) ?_
  refine lv_iload_n hx hb dL_law_814 rfl (lv_at hl 0 rfl) ?_
  refine lv_iconst (v := (nI (2))) hx hb dL_law_815 (by decide) ?_
  refine ln_iadd hx hb dL_law_816 ?_
  refine va_sld hx hb hX hbl hbA hS (vp_in_nI (show i + 2 < L by omega) (by omega)) dL_law_817 ?_
  refine ln_eqi (y := xs (i + 2)) (by rw [nI_clamp (by omega)]) ?_
  refine lv_aload_n hx hb dL_law_818 rfl (lv_at hl 3 rfl) ?_
  refine lv_iload_n hx hb dL_law_819 rfl (lv_at hl 0 rfl) ?_
  refine lv_iconst (v := (nI (3))) hx hb dL_law_820 (by decide) ?_
  refine ln_iadd hx hb dL_law_821 ?_
  refine va_sld hx hb hX hbl hbA hS (vp_in_nI (show i + 3 < L by omega) (by omega)) dL_law_822 ?_
  refine ln_eqi (y := xs (i + 3)) (by rw [nI_clamp (by omega)]) ?_
  refine mq_Vl (As := [.int (xs (i + 1)), .int (xs (i + 2)), .int (xs (i + 3))]) (rest := [.long r1]) (ci := 12) (k0 := 0) ⟨hx, hb, hml, hown, htsL⟩ (cM_field l D ad (cy 0) (cy 1) (iniA 64) (fun _ => 0) (fun _ => 0) (fun _ => 0) (fun _ => 0) (fun _ => 1) (fun _ => 0) (fun _ => 0) 0 0 0 0 0 0 0 0 0 0 0 0 0 (fun _ => 0) (fun _ => 0) (fun _ => 0) (xs (i + 1)) (xs (i + 2)) (xs (i + 3)) (by rw [ini_3]; decide) (by decide) (by decide)) (cwV 3 htsL gL_law_X12_field rfl rfl rfl (by decide +kernel) ⟨Nat.le_of_ble_eq_true rfl, Nat.le_of_ble_eq_true rfl⟩) rfl rfl hP hKm hD hS hA rfl hl.1 rfl (Nat.le_of_ble_eq_true rfl) dL_law_823 ⟨Nat.le_of_ble_eq_true rfl, Nat.le_of_ble_eq_true rfl⟩ (fun r2 w2 H locs hq2 hP hD hS => ?_)
  have heq : r1 = r2 := by
    rcases hq1 with ⟨h, h1, -⟩ | ⟨so, ch, ho, ⟨e1, e2, e3, b1, b2, b3, b4, b5⟩, h1⟩
    · rcases hq2 with ⟨-, h2, -⟩ | ⟨so, ch, ho, ⟨e1, e2, e3, b1, b2, b3, b4, b5⟩, -⟩
      · rw [h1, h2]
      · exact absurd (by rw [e1, e2, e3]; exact ⟨rg_nI (Nat.zero_le _) b1 (by decide), rg_nI b2 b3 (by decide), rg_nI b4 b5 (by decide)⟩) h
    · rcases hq2 with ⟨h, -⟩ | ⟨_, _, _, -, h2⟩
      · exact absurd (by rw [e1, e2, e3]; exact ⟨rg_nI (Nat.zero_le _) b1 (by decide), rg_nI b2 b3 (by decide), rg_nI b4 b5 (by decide)⟩) h
      · rw [ini_3] at h2
        rcases h1 with ⟨h, -⟩ | ⟨-, h1, -⟩
        · exact absurd h (by decide)
        · rcases h2 with ⟨h, -⟩ | ⟨-, h2, -⟩
          · exact absurd h (by decide)
          · rw [h1, h2]
  refine W.lcmp hx hb dL_law_826 ?_
  refine lv_if_eq (tgt := 1374) hx hb dL_law_827 (by decide) (fun c9 => ?_) (fun c9 => ?_)
  · exact hend _ _ _ _ (by decide) (by decide) hS
  · exact absurd ((lg_cmp_eq _ _).mpr heq) c9
set_option maxHeartbeats 4000000 in
set_option maxRecDepth 100000 in
theorem law_18 (l : Launch) {p : Program} {e : Env} {s : State} {m : MethodId} {below : List Frame} {meth : Method} {c : Code} {b L : Nat} {xs : Nat → Int32} (C0 : lw_At p s m meth c b L xs) {D : va_G} {cy : Nat → ClassId} (hK : va_K D vwCl (cT cy) s) (hN : nst s) {i : Nat} (hi : i + 7 ≤ L) (hL : L ≤ 3584) {d0 pA mA go0 ga0 gb0 gc0 m0 sA rA fQ t0 up lo g0 ga ho shA pq sA0 s0 z0 s1 z1 s2 z2 s3 z3 : Nat} {sa ra ad : Nat → Nat} {H : Heap} {locs : List Loc} {ls : Array Slot} (hP : va_P D vwCl (fC cy d0 pA mA go0 ga0 gb0 gc0 m0 sA rA fQ t0 up lo g0 ga ho shA pq sA0 s0 z0 s1 z1 s2 z2 s3 z3 sa ra ++ fM cy ad) H) (hD : va_D (fun q : Nat => s.heap.size ≤ q) (fC cy d0 pA mA go0 ga0 gb0 gc0 m0 sA rA fQ t0 up lo g0 ga ho shA pq sA0 s0 z0 s1 z1 s2 z2 s3 z3 sa ra ++ fM cy ad)) (hS : va_S (fun q : Nat => s.heap.size ≤ q) s.heap H locs) (hl : lv_has ls 4 [(3, .int (nI i)), (2, .ref (ad 0)), (1, .ref d0), (0, .ref b)]) (hend : ∀ (H : Heap) (locs : List Loc) (cs sl : Nat), cs ≤ 1000 → sl ≤ 20000 → va_S (fun q : Nat => s.heap.size ≤ q) s.heap H locs → W p l e room_1 s m #[Value.ref b] below meth c H locs cs sl (lw_Z below #[Value.ref b] s) (F0 m 1374 ls [])) : W p l e room_1 s m #[Value.ref b] below meth c H locs 100 15000 (lw_Z below #[Value.ref b] s) (F0 m 832 ls []) := by
  obtain ⟨hx, hb, hr, hml, hown, hts, hX, hbl, hlocks, hgv⟩ := C0
  have htsL : ∀ w ∈ wsL_law, w.before #[Value.ref b] s = true := fun w h => hts w (wsL_law_in w h)
  have hown : s.vm.findClass RL = some m.cls := hown
  have hA : ∀ q : Nat, s.heap.size ≤ q → (fun q : Nat => s.heap.size ≤ q) q := fun _ h => h
  have hbA : ¬ (fun q : Nat => s.heap.size ≤ q) b := Nat.not_le.mpr hbl
  have hKm : va_K D vwCl (mT (cy 0) (cy 1)) s := hK.sub [0, 1] rfl
  refine lv_aload_n hx hb dL_law_832 rfl (lv_at hl 2 rfl) ?_
  refine lv_aload_n hx hb dL_law_833 rfl (lv_at hl 3 rfl) ?_
  refine lv_iload_n hx hb dL_law_834 rfl (lv_at hl 0 rfl) ?_
  refine lv_iconst (v := (nI (1))) hx hb dL_law_835 (by decide) ?_
  refine ln_iadd hx hb dL_law_836 ?_
  refine va_sld hx hb hX hbl hbA hS (vp_in_nI (show i + 1 < L by omega) (by omega)) dL_law_837 ?_
  refine ln_eqi (y := xs (i + 1)) (by rw [nI_clamp (by omega)]) ?_
  refine lv_aload_n hx hb dL_law_838 rfl (lv_at hl 3 rfl) ?_
  refine lv_iload_n hx hb dL_law_839 rfl (lv_at hl 0 rfl) ?_
  refine lv_iconst (v := (nI (2))) hx hb dL_law_840 (by decide) ?_
  refine ln_iadd hx hb dL_law_841 ?_
  refine va_sld hx hb hX hbl hbA hS (vp_in_nI (show i + 2 < L by omega) (by omega)) dL_law_842 ?_
  refine ln_eqi (y := xs (i + 2)) (by rw [nI_clamp (by omega)]) ?_
  refine lv_aload_n hx hb dL_law_843 rfl (lv_at hl 3 rfl) ?_
  refine lv_iload_n hx hb dL_law_844 rfl (lv_at hl 0 rfl) ?_
  refine lv_iconst (v := (nI (3))) hx hb dL_law_845 (by decide) ?_
  refine ln_iadd hx hb dL_law_846 ?_
  refine va_sld hx hb hX hbl hbA hS (vp_in_nI (show i + 3 < L by omega) (by omega)) dL_law_847 ?_
  refine ln_eqi (y := xs (i + 3)) (by rw [nI_clamp (by omega)]) ?_
  refine lv_aload_n hx hb dL_law_848 rfl (lv_at hl 3 rfl) ?_
  refine lv_iload_n hx hb dL_law_849 rfl (lv_at hl 0 rfl) ?_
  refine lv_iconst (v := (nI (4))) hx hb dL_law_850 (by decide) ?_
  refine ln_iadd hx hb dL_law_851 ?_
  refine va_sld hx hb hX hbl hbA hS (vp_in_nI (show i + 4 < L by omega) (by omega)) dL_law_852 ?_
  refine ln_eqi (y := xs (i + 4)) (by rw [nI_clamp (by omega)]) ?_
  refine lz_dia hx hb dL_law_853 dL_law_856 dL_law_857 dL_law_860 ?_
  have hP := hP.subT (w' := [(d0, .inr (11, [.ref (pA), .int (nI (0)), .ref (mA), .int (nI (0)), .ref (go0), .ref (m0), .ref (fQ), .int (nI (0)), .ref (t0), .ref (g0), .ref (shA), .ref (pq), .long (0)])), (fQ, .inl (cy 5, 8, .inr (.inr (.inr (.inr (fun _ => none))))))]) [0, 10] rfl
  have hD := hD.subT (w' := [(d0, .inr (11, [.ref (pA), .int (nI (0)), .ref (mA), .int (nI (0)), .ref (go0), .ref (m0), .ref (fQ), .int (nI (0)), .ref (t0), .ref (g0), .ref (shA), .ref (pq), .long (0)])), (fQ, .inl (cy 5, 8, .inr (.inr (.inr (.inr (fun _ => none))))))]) [0, 10] (by decide) rfl
  refine nq_Vl (As := [.int (xs (i + 1)), .int (xs (i + 2)), .int (xs (i + 3)), .int (zI (xs (i + 4)))]) (rest := []) (w := [(d0, .inr (11, [.ref (pA), .int (nI (0)), .ref (mA), .int (nI (0)), .ref (go0), .ref (m0), .ref (fQ), .int (nI (0)), .ref (t0), .ref (g0), .ref (shA), .ref (pq), .long (0)])), (fQ, .inl (cy 5, 8, .inr (.inr (.inr (.inr (fun _ => none))))))]) (wr := fM cy ad) (ci := 11) (k0 := 0) ⟨hx, hb, hml, hown, htsL⟩ (qX11_look_n l D cy d0 pA 0 mA 0 go0 m0 fQ 0 t0 g0 shA pq 0 (fun _ => none) (xs (i + 1)) (xs (i + 2)) (xs (i + 3)) (zI (xs (i + 4))) ix0) (cwV 4 htsL gL_law_X11_look rfl rfl rfl (by decide +kernel) ⟨Nat.le_of_ble_eq_true rfl, Nat.le_of_ble_eq_true rfl⟩) rfl rfl hP hK hD hN hS hA rfl hl.1 rfl (Nat.le_of_ble_eq_true rfl) dL_law_861 ⟨Nat.le_of_ble_eq_true rfl, Nat.le_of_ble_eq_true rfl⟩ (fun r1 w1 H locs hq1 hP hD hS => ?_)
  have hP := hP.right
  have hD := hD.right
  refine lv_aload_n hx hb dL_law_864 rfl (lv_at hl 1 rfl) ?_
  refine lv_aload_n hx hb dL_law_865 rfl (lv_at hl 3 rfl) ?_
  refine lv_iload_n hx hb dL_law_866 rfl (lv_at hl 0 rfl) ?_
  refine lv_iconst (v := (nI (1))) hx hb dL_law_867 (by decide) ?_
  refine ln_iadd hx hb dL_law_868 ?_
  refine va_sld hx hb hX hbl hbA hS (vp_in_nI (show i + 1 < L by omega) (by omega)) dL_law_869 ?_
  refine ln_eqi (y := xs (i + 1)) (by rw [nI_clamp (by omega)]) ?_
  refine lv_aload_n hx hb dL_law_870 rfl (lv_at hl 3 rfl) ?_
  refine lv_iload_n hx hb dL_law_871 rfl (lv_at hl 0 rfl) ?_
  refine lv_iconst (v := (nI (2))) hx hb dL_law_872 (by decide) ?_
  refine ln_iadd hx hb dL_law_873 ?_
  refine va_sld hx hb hX hbl hbA hS (vp_in_nI (show i + 2 < L by omega) (by omega)) dL_law_874 ?_
  refine ln_eqi (y := xs (i + 2)) (by rw [nI_clamp (by omega)]) ?_
  refine lv_aload_n hx hb dL_law_875 rfl (lv_at hl 3 rfl) ?_
  refine lv_iload_n hx hb dL_law_876 rfl (lv_at hl 0 rfl) ?_
  refine lv_iconst (v := (nI (3))) hx hb dL_law_877 (by decide) ?_
  refine ln_iadd hx hb dL_law_878 ?_
  refine va_sld hx hb hX hbl hbA hS (vp_in_nI (show i + 3 < L by omega) (by omega)) dL_law_879 ?_
  refine ln_eqi (y := xs (i + 3)) (by rw [nI_clamp (by omega)]) ?_
  refine lv_aload_n hx hb dL_law_880 rfl (lv_at hl 3 rfl) ?_
  refine lv_iload_n hx hb dL_law_881 rfl (lv_at hl 0 rfl) ?_
  refine lv_iconst (v := (nI (4))) hx hb dL_law_882 (by decide) ?_
  refine ln_iadd hx hb dL_law_883 ?_
  refine va_sld hx hb hX hbl hbA hS (vp_in_nI (show i + 4 < L by omega) (by omega)) dL_law_884 ?_
  refine ln_eqi (y := xs (i + 4)) (by rw [nI_clamp (by omega)]) ?_
  refine lz_dia hx hb dL_law_885 dL_law_888 dL_law_889 dL_law_892 ?_
  refine mq_Vl (As := [.int (xs (i + 1)), .int (xs (i + 2)), .int (xs (i + 3)), .int (zI (xs (i + 4)))]) (rest := [.long r1]) (ci := 12) (k0 := 0) ⟨hx, hb, hml, hown, htsL⟩ (cM_look l D ad (cy 0) (cy 1) (iniA 64) (fun _ => 0) (fun _ => 0) (fun _ => 0) (fun _ => 0) (fun _ => 1) (fun _ => 0) (fun _ => 0) 0 0 0 0 0 0 0 0 0 0 0 0 0 (fun _ => 0) (fun _ => 0) (fun _ => 0) (xs (i + 1)) (xs (i + 2)) (xs (i + 3)) (zI (xs (i + 4))) (by rw [ini_3]; decide) (fun i h => absurd h (by rw [ini_3]; exact Nat.not_lt_zero i)) (by decide) (by decide)) (cwV 4 htsL gL_law_X12_look rfl rfl rfl (by decide +kernel) ⟨Nat.le_of_ble_eq_true rfl, Nat.le_of_ble_eq_true rfl⟩) rfl rfl hP hKm hD hS hA rfl hl.1 rfl (Nat.le_of_ble_eq_true rfl) dL_law_893 ⟨Nat.le_of_ble_eq_true rfl, Nat.le_of_ble_eq_true rfl⟩ (fun r2 w2 H locs hq2 hP hD hS => ?_)
  have heq : r1 = r2 := by
    rcases hq2 with ⟨-, h2, -⟩ | h2
    · rw [hq1.1, h2]
    · obtain ⟨_, _, _, ⟨_, _, _, h9, _⟩, _⟩ := h2
      rw [ini_3] at h9
      exact absurd h9 (Nat.not_lt_zero _)
  refine W.lcmp hx hb dL_law_896 ?_
  refine lv_if_eq (tgt := 1374) hx hb dL_law_897 (by decide) (fun c9 => ?_) (fun c9 => ?_)
  · exact hend _ _ _ _ (by decide) (by decide) hS
  · exact absurd ((lg_cmp_eq _ _).mpr heq) c9
set_option maxHeartbeats 4000000 in
set_option maxRecDepth 100000 in
theorem law_19 (l : Launch) {p : Program} {e : Env} {s : State} {m : MethodId} {below : List Frame} {meth : Method} {c : Code} {b L : Nat} {xs : Nat → Int32} (C0 : lw_At p s m meth c b L xs) {D : va_G} {cy : Nat → ClassId} (hK : va_K D vwCl (cT cy) s) (hN : nst s) {i : Nat} (hi : i + 7 ≤ L) (hL : L ≤ 3584) {d0 pA mA go0 ga0 gb0 gc0 m0 sA rA fQ t0 up lo g0 ga ho shA pq sA0 s0 z0 s1 z1 s2 z2 s3 z3 : Nat} {sa ra ad : Nat → Nat} {H : Heap} {locs : List Loc} {ls : Array Slot} (hP : va_P D vwCl (fC cy d0 pA mA go0 ga0 gb0 gc0 m0 sA rA fQ t0 up lo g0 ga ho shA pq sA0 s0 z0 s1 z1 s2 z2 s3 z3 sa ra ++ fM cy ad) H) (hD : va_D (fun q : Nat => s.heap.size ≤ q) (fC cy d0 pA mA go0 ga0 gb0 gc0 m0 sA rA fQ t0 up lo g0 ga ho shA pq sA0 s0 z0 s1 z1 s2 z2 s3 z3 sa ra ++ fM cy ad)) (hS : va_S (fun q : Nat => s.heap.size ≤ q) s.heap H locs) (hl : lv_has ls 4 [(3, .int (nI i)), (2, .ref (ad 0)), (1, .ref d0), (0, .ref b)]) (hend : ∀ (H : Heap) (locs : List Loc) (cs sl : Nat), cs ≤ 1000 → sl ≤ 20000 → va_S (fun q : Nat => s.heap.size ≤ q) s.heap H locs → W p l e room_1 s m #[Value.ref b] below meth c H locs cs sl (lw_Z below #[Value.ref b] s) (F0 m 1374 ls [])) : W p l e room_1 s m #[Value.ref b] below meth c H locs 100 15000 (lw_Z below #[Value.ref b] s) (F0 m 902 ls []) := by
  obtain ⟨hx, hb, hr, hml, hown, hts, hX, hbl, hlocks, hgv⟩ := C0
  have htsL : ∀ w ∈ wsL_law, w.before #[Value.ref b] s = true := fun w h => hts w (wsL_law_in w h)
  have hown : s.vm.findClass RL = some m.cls := hown
  have hA : ∀ q : Nat, s.heap.size ≤ q → (fun q : Nat => s.heap.size ≤ q) q := fun _ h => h
  have hbA : ¬ (fun q : Nat => s.heap.size ≤ q) b := Nat.not_le.mpr hbl
  have hKm : va_K D vwCl (mT (cy 0) (cy 1)) s := hK.sub [0, 1] rfl
  refine lv_aload_n hx hb dL_law_902 rfl (lv_at hl 2 rfl) ?_
  refine lv_aload_n hx hb dL_law_903 rfl (lv_at hl 3 rfl) ?_
  refine lv_iload_n hx hb dL_law_904 rfl (lv_at hl 0 rfl) ?_
  refine lv_iconst (v := (nI (1))) hx hb dL_law_905 (by decide) ?_
  refine ln_iadd hx hb dL_law_906 ?_
  refine va_sld hx hb hX hbl hbA hS (vp_in_nI (show i + 1 < L by omega) (by omega)) dL_law_907 ?_
  refine ln_eqi (y := xs (i + 1)) (by rw [nI_clamp (by omega)]) ?_
  refine lv_aload_n hx hb dL_law_908 rfl (lv_at hl 3 rfl) ?_
  refine lv_iload_n hx hb dL_law_909 rfl (lv_at hl 0 rfl) ?_
  refine lv_iconst (v := (nI (2))) hx hb dL_law_910 (by decide) ?_
  refine ln_iadd hx hb dL_law_911 ?_
  refine va_sld hx hb hX hbl hbA hS (vp_in_nI (show i + 2 < L by omega) (by omega)) dL_law_912 ?_
  refine ln_eqi (y := xs (i + 2)) (by rw [nI_clamp (by omega)]) ?_
  refine lz_dia hx hb dL_law_913 dL_law_916 dL_law_917 dL_law_920 ?_
  have hP := hP.subT (w' := [(d0, .inr (11, [.ref (pA), .int (nI (0)), .ref (mA), .int (nI (0)), .ref (go0), .ref (m0), .ref (fQ), .int (nI (0)), .ref (t0), .ref (g0), .ref (shA), .ref (pq), .long (0)])), (fQ, .inl (cy 5, 8, .inr (.inr (.inr (.inr (fun _ => none))))))]) [0, 10] rfl
  have hD := hD.subT (w' := [(d0, .inr (11, [.ref (pA), .int (nI (0)), .ref (mA), .int (nI (0)), .ref (go0), .ref (m0), .ref (fQ), .int (nI (0)), .ref (t0), .ref (g0), .ref (shA), .ref (pq), .long (0)])), (fQ, .inl (cy 5, 8, .inr (.inr (.inr (.inr (fun _ => none))))))]) [0, 10] (by decide) rfl
  refine nq_Vl (As := [.int (xs (i + 1)), .int (zI (xs (i + 2)))]) (rest := []) (w := [(d0, .inr (11, [.ref (pA), .int (nI (0)), .ref (mA), .int (nI (0)), .ref (go0), .ref (m0), .ref (fQ), .int (nI (0)), .ref (t0), .ref (g0), .ref (shA), .ref (pq), .long (0)])), (fQ, .inl (cy 5, 8, .inr (.inr (.inr (.inr (fun _ => none))))))]) (wr := fM cy ad) (ci := 11) (k0 := 0) ⟨hx, hb, hml, hown, htsL⟩ (qX11_belief_n l D cy d0 pA 0 mA 0 go0 m0 fQ 0 t0 g0 shA pq 0 (fun _ => none) (xs (i + 1)) (zI (xs (i + 2))) ix0) (cwV 2 htsL gL_law_X11_belief rfl rfl rfl (by decide +kernel) ⟨Nat.le_of_ble_eq_true rfl, Nat.le_of_ble_eq_true rfl⟩) rfl rfl hP hK hD hN hS hA rfl hl.1 rfl (Nat.le_of_ble_eq_true rfl) dL_law_921 ⟨Nat.le_of_ble_eq_true rfl, Nat.le_of_ble_eq_true rfl⟩ (fun r1 w1 H locs hq1 hP hD hS => ?_)
  have hP := hP.right
  have hD := hD.right
  refine lv_aload_n hx hb dL_law_924 rfl (lv_at hl 1 rfl) ?_
  refine lv_aload_n hx hb dL_law_925 rfl (lv_at hl 3 rfl) ?_
  refine lv_iload_n hx hb dL_law_926 rfl (lv_at hl 0 rfl) ?_
  refine lv_iconst (v := (nI (1))) hx hb dL_law_927 (by decide) ?_
  refine ln_iadd hx hb dL_law_928 ?_
  refine va_sld hx hb hX hbl hbA hS (vp_in_nI (show i + 1 < L by omega) (by omega)) dL_law_929 ?_
  refine ln_eqi (y := xs (i + 1)) (by rw [nI_clamp (by omega)]) ?_
  refine lv_aload_n hx hb dL_law_930 rfl (lv_at hl 3 rfl) ?_
  refine lv_iload_n hx hb dL_law_931 rfl (lv_at hl 0 rfl) ?_
  refine lv_iconst (v := (nI (2))) hx hb dL_law_932 (by decide) ?_
  refine ln_iadd hx hb dL_law_933 ?_
  refine va_sld hx hb hX hbl hbA hS (vp_in_nI (show i + 2 < L by omega) (by omega)) dL_law_934 ?_
  refine ln_eqi (y := xs (i + 2)) (by rw [nI_clamp (by omega)]) ?_
  refine lz_dia hx hb dL_law_935 dL_law_938 dL_law_939 dL_law_942 ?_
  refine mq_Vl (As := [.int (xs (i + 1)), .int (zI (xs (i + 2)))]) (rest := [.long r1]) (ci := 12) (k0 := 0) ⟨hx, hb, hml, hown, htsL⟩ (cM_belief l D ad (cy 0) (cy 1) (iniA 64) (fun _ => 0) (fun _ => 0) (fun _ => 0) (fun _ => 0) (fun _ => 1) (fun _ => 0) (fun _ => 0) 0 0 0 0 0 0 0 0 0 0 0 0 0 (fun _ => 0) (fun _ => 0) (fun _ => 0) (xs (i + 1)) (zI (xs (i + 2))) (by rw [ini_3]; decide) (fun i h => absurd h (by rw [ini_3]; exact Nat.not_lt_zero i)) ini_sh) (cwV 2 htsL gL_law_X12_belief rfl rfl rfl (by decide +kernel) ⟨Nat.le_of_ble_eq_true rfl, Nat.le_of_ble_eq_true rfl⟩) rfl rfl hP hKm hD hS hA rfl hl.1 rfl (Nat.le_of_ble_eq_true rfl) dL_law_943 ⟨Nat.le_of_ble_eq_true rfl, Nat.le_of_ble_eq_true rfl⟩ (fun r2 w2 H locs hq2 hP hD hS => ?_)
  have heq : r1 = r2 := by
    rcases hq2 with ⟨-, h2, -⟩ | h2
    · rw [hq1.1, h2]
    · obtain ⟨_, ⟨_, h9⟩, _⟩ := h2
      rw [ini_3] at h9
      exact absurd h9 (Nat.not_lt_zero _)
  refine W.lcmp hx hb dL_law_946 ?_
  refine lv_if_eq (tgt := 1374) hx hb dL_law_947 (by decide) (fun c9 => ?_) (fun c9 => ?_)
  · exact hend _ _ _ _ (by decide) (by decide) hS
  · exact absurd ((lg_cmp_eq _ _).mpr heq) c9
