set_option maxHeartbeats 4000000 in
set_option maxRecDepth 100000 in
theorem law_10 (l : Launch) {p : Program} {e : Env} {s : State} {m : MethodId} {below : List Frame} {meth : Method} {c : Code} {b L : Nat} {xs : Nat → Int32} (C0 : lw_At p s m meth c b L xs) {D : va_G} {cy : Nat → ClassId} (hK : va_K D vwCl (cT cy) s) (hN : nst s) (hka : ka (fun q : Nat => s.heap.size ≤ q) s s.heap) {i : Nat} (hi : i + 7 ≤ L) (hL : L ≤ 3584) {d0 : Nat} {ad : Nat → Nat} {a kp bt sz : Nat → Nat} {sheets : Nat → Int32} {ke km : Nat} {w w2 : va_W} (hI : IvD cy d0 a kp bt sz sheets ke km w) (hM : Mdl cy ad a kp bt sz sheets ke km w2) {H : Heap} {locs : List Loc} {ls : Array Slot} (hP : va_P D vwCl (w ++ w2) H) (hD : va_D (fun q : Nat => s.heap.size ≤ q) (w ++ w2)) (hS : va_S (fun q : Nat => s.heap.size ≤ q) s.heap H locs) (hl : lv_has ls 4 [(3, .int (nI i)), (2, .ref (ad 0)), (1, .ref d0), (0, .ref b)]) (hend : ∀ (a kp bt sz : Nat → Nat) (sheets : Nat → Int32) (ke km : Nat) (w w2 : va_W) (H : Heap) (locs : List Loc) (cs sl : Nat), IvD cy d0 a kp bt sz sheets ke km w → Mdl cy ad a kp bt sz sheets ke km w2 → va_P D vwCl (w2 ++ w) H → va_D (fun q : Nat => s.heap.size ≤ q) (w2 ++ w) → va_S (fun q : Nat => s.heap.size ≤ q) s.heap H locs → cs ≤ 107 + i → sl ≤ 15056 + 8 * i → W p l e room_1 s m #[Value.ref b] below meth c H locs cs sl (lw_Z below #[Value.ref b] s) (F0 m 1345 ls [])) : W p l e room_1 s m #[Value.ref b] below meth c H locs (100 + i) (15000 + 8 * i) (lw_Z below #[Value.ref b] s) (F0 m 640 ls []) := by
  obtain ⟨hx, hb, hr, hml, hown, hts, hX, hbl, hlocks, hgv⟩ := C0
  have htsL : ∀ w ∈ wsL_law, w.before #[Value.ref b] s = true := fun w h => hts w (wsL_law_in w h)
  have hown : s.vm.findClass RL = some m.cls := hown
  have hA : ∀ q : Nat, s.heap.size ≤ q → (fun q : Nat => s.heap.size ≤ q) q := fun _ h => h
  have hbA : ¬ (fun q : Nat => s.heap.size ≤ q) b := Nat.not_le.mpr hbl
  have hKm : va_K D vwCl (mT (cy 0) (cy 1)) s := hK.sub [0, 1] rfl
  obtain ⟨hok, he20, hm20, hsz⟩ := IvD_f hI
  obtain ⟨k0, fs0, hat⟩ := IvD_at hI
  obtain ⟨fs2, hat2⟩ := Mdl_at hM
  refine lv_aload_n hx hb dL_law_640 rfl (lv_at hl 2 rfl) ?_
  refine lv_aload_n hx hb dL_law_641 rfl (lv_at hl 3 rfl) ?_
  refine lv_iload_n hx hb dL_law_642 rfl (lv_at hl 0 rfl) ?_
  refine lv_iconst (v := (nI (1))) hx hb dL_law_643 (by decide) ?_
  refine ln_iadd hx hb dL_law_644 ?_
  refine va_sld hx hb hX hbl hbA hS (vp_in_nI (show i + 1 < L by omega) (by omega)) dL_law_645 ?_
  refine ln_eqi (y := xs (i + 1)) (by rw [nI_clamp (by omega)]) ?_
  refine kq_Vl (As := [.int (xs (i + 1))]) (rest := []) (w := w) (wr := w2) (ci := 11) (k0 := k0) ⟨hx, hb, hml, hown, htsL⟩ (ia_group l D hI (xs (i + 1))) (cwV 1 htsL gL_law_X11_group rfl rfl rfl (by decide +kernel) ⟨Nat.le_of_ble_eq_true rfl, Nat.le_of_ble_eq_true rfl⟩) rfl hat hP hK hD hN hka hS hA rfl hl.1 rfl (Nat.le_of_ble_eq_true rfl) dL_law_646 ⟨show 100 + i + 0 ≤ 600000 by omega, show 15000 + 8 * i + 0 ≤ 7302250 by omega⟩ (fun r1 w1 H locs hq1 hP hD hS => ?_)
  have hP := hP.perm (List.perm_append_comm (l₁ := w1) (l₂ := w2))
  have hD := hD.perm (List.perm_append_comm (l₁ := w1) (l₂ := w2))
  refine lv_pop2_2 hx hb dL_law_649 rfl ?_
  refine lv_aload_n hx hb dL_law_650 rfl (lv_at hl 1 rfl) ?_
  refine lv_aload_n hx hb dL_law_651 rfl (lv_at hl 3 rfl) ?_
  refine lv_iload_n hx hb dL_law_652 rfl (lv_at hl 0 rfl) ?_
  refine lv_iconst (v := (nI (1))) hx hb dL_law_653 (by decide) ?_
  refine ln_iadd hx hb dL_law_654 ?_
  refine va_sld hx hb hX hbl hbA hS (vp_in_nI (show i + 1 < L by omega) (by omega)) dL_law_655 ?_
  refine ln_eqi (y := xs (i + 1)) (by rw [nI_clamp (by omega)]) ?_
  refine fr_Vl (As := [.int (xs (i + 1))]) (rest := []) (w := w2) (wr := w1) (ci := 12) (k0 := 0) ⟨hx, hb, hml, hown, htsL⟩ (ma_group l D hM hok he20 hm20 hsz (xs (i + 1))) (cwV 1 htsL gL_law_X12_group rfl rfl rfl (by decide +kernel) ⟨Nat.le_of_ble_eq_true rfl, Nat.le_of_ble_eq_true rfl⟩) rfl hat2 hP hKm hD hS hA rfl hl.1 rfl (Nat.le_of_ble_eq_true rfl) dL_law_656 ⟨show 100 + i + 0 + 0 ≤ 600000 by omega, show 15000 + 8 * i + 0 + 0 ≤ 7302250 by omega⟩ (fun r2 w3 H locs hq2 hP hD hS => ?_)
  refine lv_pop2_2 hx hb dL_law_659 rfl ?_
  refine lv_goto (tgt := 1345) hx hb dL_law_660 (by decide) ?_
  exact hend a kp bt sz sheets ke km w1 w3 _ _ _ _ hq1 hq2 hP hD hS (by omega) (by omega)
set_option maxHeartbeats 4000000 in
set_option maxRecDepth 100000 in
theorem law_11 (l : Launch) {p : Program} {e : Env} {s : State} {m : MethodId} {below : List Frame} {meth : Method} {c : Code} {b L : Nat} {xs : Nat → Int32} (C0 : lw_At p s m meth c b L xs) {D : va_G} {cy : Nat → ClassId} (hK : va_K D vwCl (cT cy) s) (hN : nst s) (hka : ka (fun q : Nat => s.heap.size ≤ q) s s.heap) {i : Nat} (hi : i + 7 ≤ L) (hL : L ≤ 3584) {d0 : Nat} {ad : Nat → Nat} {a kp bt sz : Nat → Nat} {sheets : Nat → Int32} {ke km : Nat} {w w2 : va_W} (hI : IvD cy d0 a kp bt sz sheets ke km w) (hM : Mdl cy ad a kp bt sz sheets ke km w2) {H : Heap} {locs : List Loc} {ls : Array Slot} (hP : va_P D vwCl (w ++ w2) H) (hD : va_D (fun q : Nat => s.heap.size ≤ q) (w ++ w2)) (hS : va_S (fun q : Nat => s.heap.size ≤ q) s.heap H locs) (hl : lv_has ls 4 [(3, .int (nI i)), (2, .ref (ad 0)), (1, .ref d0), (0, .ref b)]) (hend : ∀ (a kp bt sz : Nat → Nat) (sheets : Nat → Int32) (ke km : Nat) (w w2 : va_W) (H : Heap) (locs : List Loc) (cs sl : Nat), IvD cy d0 a kp bt sz sheets ke km w → Mdl cy ad a kp bt sz sheets ke km w2 → va_P D vwCl (w2 ++ w) H → va_D (fun q : Nat => s.heap.size ≤ q) (w2 ++ w) → va_S (fun q : Nat => s.heap.size ≤ q) s.heap H locs → cs ≤ 107 + i → sl ≤ 15056 + 8 * i → W p l e room_1 s m #[Value.ref b] below meth c H locs cs sl (lw_Z below #[Value.ref b] s) (F0 m 1345 ls [])) : W p l e room_1 s m #[Value.ref b] below meth c H locs (100 + i) (15000 + 8 * i) (lw_Z below #[Value.ref b] s) (F0 m 663 ls []) := by
  obtain ⟨hx, hb, hr, hml, hown, hts, hX, hbl, hlocks, hgv⟩ := C0
  have htsL : ∀ w ∈ wsL_law, w.before #[Value.ref b] s = true := fun w h => hts w (wsL_law_in w h)
  have hown : s.vm.findClass RL = some m.cls := hown
  have hA : ∀ q : Nat, s.heap.size ≤ q → (fun q : Nat => s.heap.size ≤ q) q := fun _ h => h
  have hbA : ¬ (fun q : Nat => s.heap.size ≤ q) b := Nat.not_le.mpr hbl
  have hKm : va_K D vwCl (mT (cy 0) (cy 1)) s := hK.sub [0, 1] rfl
  obtain ⟨hok, he20, hm20, hsz⟩ := IvD_f hI
  obtain ⟨k0, fs0, hat⟩ := IvD_at hI
  obtain ⟨fs2, hat2⟩ := Mdl_at hM
  refine lv_aload_n hx hb dL_law_663 rfl (lv_at hl 2 rfl) ?_
  refine kq_Vl (As := []) (rest := []) (w := w) (wr := w2) (ci := 11) (k0 := k0) ⟨hx, hb, hml, hown, htsL⟩ (ia_groups l D hI ) (cwV 0 htsL gL_law_X11_groups rfl rfl rfl (by decide +kernel) ⟨Nat.le_of_ble_eq_true rfl, Nat.le_of_ble_eq_true rfl⟩) rfl hat hP hK hD hN hka hS hA rfl hl.1 rfl (Nat.le_of_ble_eq_true rfl) dL_law_664 ⟨show 100 + i + 0 ≤ 600000 by omega, show 15000 + 8 * i + 0 ≤ 7302250 by omega⟩ (fun r1 w1 H locs hq1 hP hD hS => ?_)
  have hP := hP.perm (List.perm_append_comm (l₁ := w1) (l₂ := w2))
  have hD := hD.perm (List.perm_append_comm (l₁ := w1) (l₂ := w2))
  refine lv_pop2_2 hx hb dL_law_667 rfl ?_
  refine lv_aload_n hx hb dL_law_668 rfl (lv_at hl 1 rfl) ?_
  refine fr_Vl (As := []) (rest := []) (w := w2) (wr := w1) (ci := 12) (k0 := 0) ⟨hx, hb, hml, hown, htsL⟩ (ma_groups l D hM hok he20 hm20 hsz ) (cwV 0 htsL gL_law_X12_groups rfl rfl rfl (by decide +kernel) ⟨Nat.le_of_ble_eq_true rfl, Nat.le_of_ble_eq_true rfl⟩) rfl hat2 hP hKm hD hS hA rfl hl.1 rfl (Nat.le_of_ble_eq_true rfl) dL_law_669 ⟨show 100 + i + 0 + 0 ≤ 600000 by omega, show 15000 + 8 * i + 0 + 0 ≤ 7302250 by omega⟩ (fun r2 w3 H locs hq2 hP hD hS => ?_)
  refine lv_pop2_2 hx hb dL_law_672 rfl ?_
  refine lv_goto (tgt := 1345) hx hb dL_law_673 (by decide) ?_
  exact hend a kp bt sz sheets ke km w1 w3 _ _ _ _ hq1 hq2 hP hD hS (by omega) (by omega)
set_option maxHeartbeats 4000000 in
set_option maxRecDepth 100000 in
theorem law_12 (l : Launch) {p : Program} {e : Env} {s : State} {m : MethodId} {below : List Frame} {meth : Method} {c : Code} {b L : Nat} {xs : Nat → Int32} (C0 : lw_At p s m meth c b L xs) {D : va_G} {cy : Nat → ClassId} (hK : va_K D vwCl (cT cy) s) (hN : nst s) (hka : ka (fun q : Nat => s.heap.size ≤ q) s s.heap) {i : Nat} (hi : i + 7 ≤ L) (hL : L ≤ 3584) {d0 : Nat} {ad : Nat → Nat} {a kp bt sz : Nat → Nat} {sheets : Nat → Int32} {ke km : Nat} {w w2 : va_W} (hI : IvD cy d0 a kp bt sz sheets ke km w) (hM : Mdl cy ad a kp bt sz sheets ke km w2) {H : Heap} {locs : List Loc} {ls : Array Slot} (hP : va_P D vwCl (w ++ w2) H) (hD : va_D (fun q : Nat => s.heap.size ≤ q) (w ++ w2)) (hS : va_S (fun q : Nat => s.heap.size ≤ q) s.heap H locs) (hl : lv_has ls 4 [(3, .int (nI i)), (2, .ref (ad 0)), (1, .ref d0), (0, .ref b)]) (hend : ∀ (a kp bt sz : Nat → Nat) (sheets : Nat → Int32) (ke km : Nat) (w w2 : va_W) (H : Heap) (locs : List Loc) (cs sl : Nat), IvD cy d0 a kp bt sz sheets ke km w → Mdl cy ad a kp bt sz sheets ke km w2 → va_P D vwCl (w2 ++ w) H → va_D (fun q : Nat => s.heap.size ≤ q) (w2 ++ w) → va_S (fun q : Nat => s.heap.size ≤ q) s.heap H locs → cs ≤ 107 + i → sl ≤ 15056 + 8 * i → W p l e room_1 s m #[Value.ref b] below meth c H locs cs sl (lw_Z below #[Value.ref b] s) (F0 m 1345 ls [])) : W p l e room_1 s m #[Value.ref b] below meth c H locs (100 + i) (15000 + 8 * i) (lw_Z below #[Value.ref b] s) (F0 m 676 ls []) := by
  obtain ⟨hx, hb, hr, hml, hown, hts, hX, hbl, hlocks, hgv⟩ := C0
  have htsL : ∀ w ∈ wsL_law, w.before #[Value.ref b] s = true := fun w h => hts w (wsL_law_in w h)
  have hown : s.vm.findClass RL = some m.cls := hown
  have hA : ∀ q : Nat, s.heap.size ≤ q → (fun q : Nat => s.heap.size ≤ q) q := fun _ h => h
  have hbA : ¬ (fun q : Nat => s.heap.size ≤ q) b := Nat.not_le.mpr hbl
  have hKm : va_K D vwCl (mT (cy 0) (cy 1)) s := hK.sub [0, 1] rfl
  obtain ⟨hok, he20, hm20, hsz⟩ := IvD_f hI
  obtain ⟨k0, fs0, hat⟩ := IvD_at hI
  obtain ⟨fs2, hat2⟩ := Mdl_at hM
  refine lv_aload_n hx hb dL_law_676 rfl (lv_at hl 2 rfl) ?_
  refine lv_aload_n hx hb dL_law_677 rfl (lv_at hl 3 rfl) ?_
  refine lv_iload_n hx hb dL_law_678 rfl (lv_at hl 0 rfl) ?_
  refine lv_iconst (v := (nI (1))) hx hb dL_law_679 (by decide) ?_
  refine ln_iadd hx hb dL_law_680 ?_
  refine va_sld hx hb hX hbl hbA hS (vp_in_nI (show i + 1 < L by omega) (by omega)) dL_law_681 ?_
  refine ln_eqi (y := xs (i + 1)) (by rw [nI_clamp (by omega)]) ?_
  refine kq_Vl (As := [.int (xs (i + 1))]) (rest := []) (w := w) (wr := w2) (ci := 11) (k0 := k0) ⟨hx, hb, hml, hown, htsL⟩ (ia_rivals l D hI (xs (i + 1))) (cwV 1 htsL gL_law_X11_rivals rfl rfl rfl (by decide +kernel) ⟨Nat.le_of_ble_eq_true rfl, Nat.le_of_ble_eq_true rfl⟩) rfl hat hP hK hD hN hka hS hA rfl hl.1 rfl (Nat.le_of_ble_eq_true rfl) dL_law_682 ⟨show 100 + i + 0 ≤ 600000 by omega, show 15000 + 8 * i + 0 ≤ 7302250 by omega⟩ (fun r1 w1 H locs hq1 hP hD hS => ?_)
  have hP := hP.perm (List.perm_append_comm (l₁ := w1) (l₂ := w2))
  have hD := hD.perm (List.perm_append_comm (l₁ := w1) (l₂ := w2))
  refine lv_pop2_2 hx hb dL_law_685 rfl ?_
  refine lv_aload_n hx hb dL_law_686 rfl (lv_at hl 1 rfl) ?_
  refine lv_aload_n hx hb dL_law_687 rfl (lv_at hl 3 rfl) ?_
  refine lv_iload_n hx hb dL_law_688 rfl (lv_at hl 0 rfl) ?_
  refine lv_iconst (v := (nI (1))) hx hb dL_law_689 (by decide) ?_
  refine ln_iadd hx hb dL_law_690 ?_
  refine va_sld hx hb hX hbl hbA hS (vp_in_nI (show i + 1 < L by omega) (by omega)) dL_law_691 ?_
  refine ln_eqi (y := xs (i + 1)) (by rw [nI_clamp (by omega)]) ?_
  refine fr_Vl (As := [.int (xs (i + 1))]) (rest := []) (w := w2) (wr := w1) (ci := 12) (k0 := 0) ⟨hx, hb, hml, hown, htsL⟩ (ma_rivals l D hM hok he20 hm20 hsz (xs (i + 1))) (cwV 1 htsL gL_law_X12_rivals rfl rfl rfl (by decide +kernel) ⟨Nat.le_of_ble_eq_true rfl, Nat.le_of_ble_eq_true rfl⟩) rfl hat2 hP hKm hD hS hA rfl hl.1 rfl (Nat.le_of_ble_eq_true rfl) dL_law_692 ⟨show 100 + i + 0 + 0 ≤ 600000 by omega, show 15000 + 8 * i + 0 + 0 ≤ 7302250 by omega⟩ (fun r2 w3 H locs hq2 hP hD hS => ?_)
  refine lv_pop2_2 hx hb dL_law_695 rfl ?_
  refine lv_goto (tgt := 1345) hx hb dL_law_696 (by decide) ?_
  exact hend a kp bt sz sheets ke km w1 w3 _ _ _ _ hq1 hq2 hP hD hS (by omega) (by omega)
set_option maxHeartbeats 4000000 in
set_option maxRecDepth 100000 in
theorem law_13 (l : Launch) {p : Program} {e : Env} {s : State} {m : MethodId} {below : List Frame} {meth : Method} {c : Code} {b L : Nat} {xs : Nat → Int32} (C0 : lw_At p s m meth c b L xs) {D : va_G} {cy : Nat → ClassId} (hK : va_K D vwCl (cT cy) s) (hN : nst s) (hka : ka (fun q : Nat => s.heap.size ≤ q) s s.heap) {i : Nat} (hi : i + 7 ≤ L) (hL : L ≤ 3584) {d0 : Nat} {ad : Nat → Nat} {a kp bt sz : Nat → Nat} {sheets : Nat → Int32} {ke km : Nat} {w w2 : va_W} (hI : IvD cy d0 a kp bt sz sheets ke km w) (hM : Mdl cy ad a kp bt sz sheets ke km w2) {H : Heap} {locs : List Loc} {ls : Array Slot} (hP : va_P D vwCl (w ++ w2) H) (hD : va_D (fun q : Nat => s.heap.size ≤ q) (w ++ w2)) (hS : va_S (fun q : Nat => s.heap.size ≤ q) s.heap H locs) (hl : lv_has ls 4 [(3, .int (nI i)), (2, .ref (ad 0)), (1, .ref d0), (0, .ref b)]) (hend : ∀ (a kp bt sz : Nat → Nat) (sheets : Nat → Int32) (ke km : Nat) (w w2 : va_W) (H : Heap) (locs : List Loc) (cs sl : Nat), IvD cy d0 a kp bt sz sheets ke km w → Mdl cy ad a kp bt sz sheets ke km w2 → va_P D vwCl (w2 ++ w) H → va_D (fun q : Nat => s.heap.size ≤ q) (w2 ++ w) → va_S (fun q : Nat => s.heap.size ≤ q) s.heap H locs → cs ≤ 107 + i → sl ≤ 15056 + 8 * i → W p l e room_1 s m #[Value.ref b] below meth c H locs cs sl (lw_Z below #[Value.ref b] s) (F0 m 1345 ls [])) : W p l e room_1 s m #[Value.ref b] below meth c H locs (100 + i) (15000 + 8 * i) (lw_Z below #[Value.ref b] s) (F0 m 699 ls []) := by
  obtain ⟨hx, hb, hr, hml, hown, hts, hX, hbl, hlocks, hgv⟩ := C0
  have htsL : ∀ w ∈ wsL_law, w.before #[Value.ref b] s = true := fun w h => hts w (wsL_law_in w h)
  have hown : s.vm.findClass RL = some m.cls := hown
  have hA : ∀ q : Nat, s.heap.size ≤ q → (fun q : Nat => s.heap.size ≤ q) q := fun _ h => h
  have hbA : ¬ (fun q : Nat => s.heap.size ≤ q) b := Nat.not_le.mpr hbl
  have hKm : va_K D vwCl (mT (cy 0) (cy 1)) s := hK.sub [0, 1] rfl
  obtain ⟨hok, he20, hm20, hsz⟩ := IvD_f hI
  obtain ⟨k0, fs0, hat⟩ := IvD_at hI
  obtain ⟨fs2, hat2⟩ := Mdl_at hM
  refine lv_aload_n hx hb dL_law_699 rfl (lv_at hl 2 rfl) ?_
  refine lv_aload_n hx hb dL_law_700 rfl (lv_at hl 3 rfl) ?_
  refine lv_iload_n hx hb dL_law_701 rfl (lv_at hl 0 rfl) ?_
  refine lv_iconst (v := (nI (1))) hx hb dL_law_702 (by decide) ?_
  refine ln_iadd hx hb dL_law_703 ?_
  refine va_sld hx hb hX hbl hbA hS (vp_in_nI (show i + 1 < L by omega) (by omega)) dL_law_704 ?_
  refine ln_eqi (y := xs (i + 1)) (by rw [nI_clamp (by omega)]) ?_
  refine kq_Vl (As := [.int (xs (i + 1))]) (rest := []) (w := w) (wr := w2) (ci := 11) (k0 := k0) ⟨hx, hb, hml, hown, htsL⟩ (ik_sign l D hI (xs (i + 1))) (cwV 1 htsL gL_law_X11_sign rfl rfl rfl (by decide +kernel) ⟨Nat.le_of_ble_eq_true rfl, Nat.le_of_ble_eq_true rfl⟩) rfl hat hP hK hD hN hka hS hA rfl hl.1 rfl (Nat.le_of_ble_eq_true rfl) dL_law_705 ⟨show 100 + i + 0 ≤ 600000 by omega, show 15000 + 8 * i + 0 ≤ 7302250 by omega⟩ (fun r1 w1 H locs hq1 hP hD hS => ?_)
  have hP := hP.perm (List.perm_append_comm (l₁ := w1) (l₂ := w2))
  have hD := hD.perm (List.perm_append_comm (l₁ := w1) (l₂ := w2))
  refine lv_pop2_2 hx hb dL_law_708 rfl ?_
  refine lv_aload_n hx hb dL_law_709 rfl (lv_at hl 1 rfl) ?_
  refine lv_aload_n hx hb dL_law_710 rfl (lv_at hl 3 rfl) ?_
  refine lv_iload_n hx hb dL_law_711 rfl (lv_at hl 0 rfl) ?_
  refine lv_iconst (v := (nI (1))) hx hb dL_law_712 (by decide) ?_
  refine ln_iadd hx hb dL_law_713 ?_
  refine va_sld hx hb hX hbl hbA hS (vp_in_nI (show i + 1 < L by omega) (by omega)) dL_law_714 ?_
  refine ln_eqi (y := xs (i + 1)) (by rw [nI_clamp (by omega)]) ?_
  refine fr_Vl (As := [.int (xs (i + 1))]) (rest := []) (w := w2) (wr := w1) (ci := 12) (k0 := 0) ⟨hx, hb, hml, hown, htsL⟩ (mk_sign l D hM hok he20 hm20 hsz (xs (i + 1))) (cwV 1 htsL gL_law_X12_sign rfl rfl rfl (by decide +kernel) ⟨Nat.le_of_ble_eq_true rfl, Nat.le_of_ble_eq_true rfl⟩) rfl hat2 hP hKm hD hS hA rfl hl.1 rfl (Nat.le_of_ble_eq_true rfl) dL_law_715 ⟨show 100 + i + 0 + 0 ≤ 600000 by omega, show 15000 + 8 * i + 0 + 0 ≤ 7302250 by omega⟩ (fun r2 w3 H locs hq2 hP hD hS => ?_)
  obtain ⟨hr12, a9, kp9, bt9, sz9, sh9, ke9, km9, k1, k2⟩ := jn_sign hok (fun i hi => (hsz i hi).1) hq1 hq2
  refine lv_pop2_2 hx hb dL_law_718 rfl ?_
  refine lv_goto (tgt := 1345) hx hb dL_law_719 (by decide) ?_
  exact hend a9 kp9 bt9 sz9 sh9 ke9 km9 w1 w3 _ _ _ _ k1 k2 hP hD hS (by omega) (by omega)
set_option maxHeartbeats 4000000 in
set_option maxRecDepth 100000 in
theorem law_14 (l : Launch) {p : Program} {e : Env} {s : State} {m : MethodId} {below : List Frame} {meth : Method} {c : Code} {b L : Nat} {xs : Nat → Int32} (C0 : lw_At p s m meth c b L xs) {D : va_G} {cy : Nat → ClassId} (hK : va_K D vwCl (cT cy) s) (hN : nst s) (hka : ka (fun q : Nat => s.heap.size ≤ q) s s.heap) {i : Nat} (hi : i + 7 ≤ L) (hL : L ≤ 3584) {d0 : Nat} {ad : Nat → Nat} {a kp bt sz : Nat → Nat} {sheets : Nat → Int32} {ke km : Nat} {w w2 : va_W} (hI : IvD cy d0 a kp bt sz sheets ke km w) (hM : Mdl cy ad a kp bt sz sheets ke km w2) {H : Heap} {locs : List Loc} {ls : Array Slot} (hP : va_P D vwCl (w ++ w2) H) (hD : va_D (fun q : Nat => s.heap.size ≤ q) (w ++ w2)) (hS : va_S (fun q : Nat => s.heap.size ≤ q) s.heap H locs) (hl : lv_has ls 4 [(3, .int (nI i)), (2, .ref (ad 0)), (1, .ref d0), (0, .ref b)]) (hend : ∀ (a kp bt sz : Nat → Nat) (sheets : Nat → Int32) (ke km : Nat) (w w2 : va_W) (H : Heap) (locs : List Loc) (cs sl : Nat), IvD cy d0 a kp bt sz sheets ke km w → Mdl cy ad a kp bt sz sheets ke km w2 → va_P D vwCl (w2 ++ w) H → va_D (fun q : Nat => s.heap.size ≤ q) (w2 ++ w) → va_S (fun q : Nat => s.heap.size ≤ q) s.heap H locs → cs ≤ 107 + i → sl ≤ 15056 + 8 * i → W p l e room_1 s m #[Value.ref b] below meth c H locs cs sl (lw_Z below #[Value.ref b] s) (F0 m 1345 ls [])) : W p l e room_1 s m #[Value.ref b] below meth c H locs (100 + i) (15000 + 8 * i) (lw_Z below #[Value.ref b] s) (F0 m 722 ls []) := by
  obtain ⟨hx, hb, hr, hml, hown, hts, hX, hbl, hlocks, hgv⟩ := C0
  have htsL : ∀ w ∈ wsL_law, w.before #[Value.ref b] s = true := fun w h => hts w (wsL_law_in w h)
  have hown : s.vm.findClass RL = some m.cls := hown
  have hA : ∀ q : Nat, s.heap.size ≤ q → (fun q : Nat => s.heap.size ≤ q) q := fun _ h => h
  have hbA : ¬ (fun q : Nat => s.heap.size ≤ q) b := Nat.not_le.mpr hbl
  have hKm : va_K D vwCl (mT (cy 0) (cy 1)) s := hK.sub [0, 1] rfl
  obtain ⟨hok, he20, hm20, hsz⟩ := IvD_f hI
  obtain ⟨k0, fs0, hat⟩ := IvD_at hI
  obtain ⟨fs2, hat2⟩ := Mdl_at hM
  refine lv_aload_n hx hb dL_law_722 rfl (lv_at hl 2 rfl) ?_
  refine kq_Vl (As := []) (rest := []) (w := w) (wr := w2) (ci := 11) (k0 := k0) ⟨hx, hb, hml, hown, htsL⟩ (ik_blank l D hI ) (cwV 0 htsL gL_law_X11_blank rfl rfl rfl (by decide +kernel) ⟨Nat.le_of_ble_eq_true rfl, Nat.le_of_ble_eq_true rfl⟩) rfl hat hP hK hD hN hka hS hA rfl hl.1 rfl (Nat.le_of_ble_eq_true rfl) dL_law_723 ⟨show 100 + i + 0 ≤ 600000 by omega, show 15000 + 8 * i + 0 ≤ 7302250 by omega⟩ (fun r1 w1 H locs hq1 hP hD hS => ?_)
  have hP := hP.perm (List.perm_append_comm (l₁ := w1) (l₂ := w2))
  have hD := hD.perm (List.perm_append_comm (l₁ := w1) (l₂ := w2))
  refine lv_pop2_2 hx hb dL_law_726 rfl ?_
  refine lv_aload_n hx hb dL_law_727 rfl (lv_at hl 1 rfl) ?_
  refine fr_Vl (As := []) (rest := []) (w := w2) (wr := w1) (ci := 12) (k0 := 0) ⟨hx, hb, hml, hown, htsL⟩ (mk_blank l D hM hok he20 hm20 hsz ) (cwV 0 htsL gL_law_X12_blank rfl rfl rfl (by decide +kernel) ⟨Nat.le_of_ble_eq_true rfl, Nat.le_of_ble_eq_true rfl⟩) rfl hat2 hP hKm hD hS hA rfl hl.1 rfl (Nat.le_of_ble_eq_true rfl) dL_law_728 ⟨show 100 + i + 0 + 0 ≤ 600000 by omega, show 15000 + 8 * i + 0 + 0 ≤ 7302250 by omega⟩ (fun r2 w3 H locs hq2 hP hD hS => ?_)
  obtain ⟨hr12, a9, kp9, bt9, sz9, sh9, ke9, km9, k1, k2⟩ := jn_blank hok (fun i hi => (hsz i hi).1) hq1 hq2
  refine lv_pop2_2 hx hb dL_law_731 rfl ?_
  refine lv_goto (tgt := 1345) hx hb dL_law_732 (by decide) ?_
  exact hend a9 kp9 bt9 sz9 sh9 ke9 km9 w1 w3 _ _ _ _ k1 k2 hP hD hS (by omega) (by omega)
set_option maxHeartbeats 4000000 in
set_option maxRecDepth 100000 in
theorem law_15 (l : Launch) {p : Program} {e : Env} {s : State} {m : MethodId} {below : List Frame} {meth : Method} {c : Code} {b L : Nat} {xs : Nat → Int32} (C0 : lw_At p s m meth c b L xs) {D : va_G} {cy : Nat → ClassId} (hK : va_K D vwCl (cT cy) s) (hN : nst s) (hka : ka (fun q : Nat => s.heap.size ≤ q) s s.heap) {i : Nat} (hi : i + 7 ≤ L) (hL : L ≤ 3584) {d0 : Nat} {ad : Nat → Nat} {a kp bt sz : Nat → Nat} {sheets : Nat → Int32} {ke km : Nat} {w w2 : va_W} (hI : IvD cy d0 a kp bt sz sheets ke km w) (hM : Mdl cy ad a kp bt sz sheets ke km w2) {H : Heap} {locs : List Loc} {ls : Array Slot} (hP : va_P D vwCl (w ++ w2) H) (hD : va_D (fun q : Nat => s.heap.size ≤ q) (w ++ w2)) (hS : va_S (fun q : Nat => s.heap.size ≤ q) s.heap H locs) (hl : lv_has ls 4 [(3, .int (nI i)), (2, .ref (ad 0)), (1, .ref d0), (0, .ref b)]) (hend : ∀ (a kp bt sz : Nat → Nat) (sheets : Nat → Int32) (ke km : Nat) (w w2 : va_W) (H : Heap) (locs : List Loc) (cs sl : Nat), IvD cy d0 a kp bt sz sheets ke km w → Mdl cy ad a kp bt sz sheets ke km w2 → va_P D vwCl (w2 ++ w) H → va_D (fun q : Nat => s.heap.size ≤ q) (w2 ++ w) → va_S (fun q : Nat => s.heap.size ≤ q) s.heap H locs → cs ≤ 107 + i → sl ≤ 15056 + 8 * i → W p l e room_1 s m #[Value.ref b] below meth c H locs cs sl (lw_Z below #[Value.ref b] s) (F0 m 1345 ls [])) : W p l e room_1 s m #[Value.ref b] below meth c H locs (100 + i) (15000 + 8 * i) (lw_Z below #[Value.ref b] s) (F0 m 735 ls []) := by
  obtain ⟨hx, hb, hr, hml, hown, hts, hX, hbl, hlocks, hgv⟩ := C0
  have htsL : ∀ w ∈ wsL_law, w.before #[Value.ref b] s = true := fun w h => hts w (wsL_law_in w h)
  have hown : s.vm.findClass RL = some m.cls := hown
  have hA : ∀ q : Nat, s.heap.size ≤ q → (fun q : Nat => s.heap.size ≤ q) q := fun _ h => h
  have hbA : ¬ (fun q : Nat => s.heap.size ≤ q) b := Nat.not_le.mpr hbl
  have hKm : va_K D vwCl (mT (cy 0) (cy 1)) s := hK.sub [0, 1] rfl
  obtain ⟨hok, he20, hm20, hsz⟩ := IvD_f hI
  obtain ⟨k0, fs0, hat⟩ := IvD_at hI
  obtain ⟨fs2, hat2⟩ := Mdl_at hM
  refine lv_aload_n hx hb dL_law_735 rfl (lv_at hl 2 rfl) ?_
  refine kq_Vl (As := []) (rest := []) (w := w) (wr := w2) (ci := 11) (k0 := k0) ⟨hx, hb, hml, hown, htsL⟩ (ia_wrong l D hI ) (cwV 0 htsL gL_law_X11_wrong rfl rfl rfl (by decide +kernel) ⟨Nat.le_of_ble_eq_true rfl, Nat.le_of_ble_eq_true rfl⟩) rfl hat hP hK hD hN hka hS hA rfl hl.1 rfl (Nat.le_of_ble_eq_true rfl) dL_law_736 ⟨show 100 + i + 0 ≤ 600000 by omega, show 15000 + 8 * i + 0 ≤ 7302250 by omega⟩ (fun r1 w1 H locs hq1 hP hD hS => ?_)
  have hP := hP.perm (List.perm_append_comm (l₁ := w1) (l₂ := w2))
  have hD := hD.perm (List.perm_append_comm (l₁ := w1) (l₂ := w2))
  refine lv_pop2_2 hx hb dL_law_739 rfl ?_
  refine lv_aload_n hx hb dL_law_740 rfl (lv_at hl 1 rfl) ?_
  refine fr_Vl (As := []) (rest := []) (w := w2) (wr := w1) (ci := 12) (k0 := 0) ⟨hx, hb, hml, hown, htsL⟩ (ma_wrong l D hM hok he20 hm20 hsz ) (cwV 0 htsL gL_law_X12_wrong rfl rfl rfl (by decide +kernel) ⟨Nat.le_of_ble_eq_true rfl, Nat.le_of_ble_eq_true rfl⟩) rfl hat2 hP hKm hD hS hA rfl hl.1 rfl (Nat.le_of_ble_eq_true rfl) dL_law_741 ⟨show 100 + i + 0 + 0 ≤ 600000 by omega, show 15000 + 8 * i + 0 + 0 ≤ 7302250 by omega⟩ (fun r2 w3 H locs hq2 hP hD hS => ?_)
  refine lv_pop2_2 hx hb dL_law_744 rfl ?_
  refine lv_goto (tgt := 1345) hx hb dL_law_745 (by decide) ?_
  exact hend a kp bt sz sheets ke km w1 w3 _ _ _ _ hq1 hq2 hP hD hS (by omega) (by omega)
set_option maxHeartbeats 4000000 in
set_option maxRecDepth 100000 in
theorem law_16 (l : Launch) {p : Program} {e : Env} {s : State} {m : MethodId} {below : List Frame} {meth : Method} {c : Code} {b L : Nat} {xs : Nat → Int32} (C0 : lw_At p s m meth c b L xs) {D : va_G} {cy : Nat → ClassId} (hK : va_K D vwCl (cT cy) s) (hN : nst s) (hka : ka (fun q : Nat => s.heap.size ≤ q) s s.heap) {i : Nat} (hi : i + 7 ≤ L) (hL : L ≤ 3584) {d0 : Nat} {ad : Nat → Nat} {a kp bt sz : Nat → Nat} {sheets : Nat → Int32} {ke km : Nat} {w w2 : va_W} (hI : IvD cy d0 a kp bt sz sheets ke km w) (hM : Mdl cy ad a kp bt sz sheets ke km w2) {H : Heap} {locs : List Loc} {ls : Array Slot} (hP : va_P D vwCl (w ++ w2) H) (hD : va_D (fun q : Nat => s.heap.size ≤ q) (w ++ w2)) (hS : va_S (fun q : Nat => s.heap.size ≤ q) s.heap H locs) (hl : lv_has ls 4 [(3, .int (nI i)), (2, .ref (ad 0)), (1, .ref d0), (0, .ref b)]) (hend : ∀ (a kp bt sz : Nat → Nat) (sheets : Nat → Int32) (ke km : Nat) (w w2 : va_W) (H : Heap) (locs : List Loc) (cs sl : Nat), IvD cy d0 a kp bt sz sheets ke km w → Mdl cy ad a kp bt sz sheets ke km w2 → va_P D vwCl (w2 ++ w) H → va_D (fun q : Nat => s.heap.size ≤ q) (w2 ++ w) → va_S (fun q : Nat => s.heap.size ≤ q) s.heap H locs → cs ≤ 107 + i → sl ≤ 15056 + 8 * i → W p l e room_1 s m #[Value.ref b] below meth c H locs cs sl (lw_Z below #[Value.ref b] s) (F0 m 1345 ls [])) : W p l e room_1 s m #[Value.ref b] below meth c H locs (100 + i) (15000 + 8 * i) (lw_Z below #[Value.ref b] s) (F0 m 748 ls []) := by
  obtain ⟨hx, hb, hr, hml, hown, hts, hX, hbl, hlocks, hgv⟩ := C0
  have htsL : ∀ w ∈ wsL_law, w.before #[Value.ref b] s = true := fun w h => hts w (wsL_law_in w h)
  have hown : s.vm.findClass RL = some m.cls := hown
  have hA : ∀ q : Nat, s.heap.size ≤ q → (fun q : Nat => s.heap.size ≤ q) q := fun _ h => h
  have hbA : ¬ (fun q : Nat => s.heap.size ≤ q) b := Nat.not_le.mpr hbl
  have hKm : va_K D vwCl (mT (cy 0) (cy 1)) s := hK.sub [0, 1] rfl
  obtain ⟨hok, he20, hm20, hsz⟩ := IvD_f hI
  obtain ⟨k0, fs0, hat⟩ := IvD_at hI
  obtain ⟨fs2, hat2⟩ := Mdl_at hM
  refine lv_aload_n hx hb dL_law_748 rfl (lv_at hl 2 rfl) ?_
  refine lv_aload_n hx hb dL_law_749 rfl (lv_at hl 3 rfl) ?_
  refine lv_iload_n hx hb dL_law_750 rfl (lv_at hl 0 rfl) ?_
  refine lv_iconst (v := (nI (1))) hx hb dL_law_751 (by decide) ?_
  refine ln_iadd hx hb dL_law_752 ?_
  refine va_sld hx hb hX hbl hbA hS (vp_in_nI (show i + 1 < L by omega) (by omega)) dL_law_753 ?_
  refine ln_eqi (y := xs (i + 1)) (by rw [nI_clamp (by omega)]) ?_
  refine kq_Vl (As := [.int (xs (i + 1))]) (rest := []) (w := w) (wr := w2) (ci := 11) (k0 := k0) ⟨hx, hb, hml, hown, htsL⟩ (ia_is l D hI (xs (i + 1))) (cwV 1 htsL gL_law_X11_is rfl rfl rfl (by decide +kernel) ⟨Nat.le_of_ble_eq_true rfl, Nat.le_of_ble_eq_true rfl⟩) rfl hat hP hK hD hN hka hS hA rfl hl.1 rfl (Nat.le_of_ble_eq_true rfl) dL_law_754 ⟨show 100 + i + 0 ≤ 600000 by omega, show 15000 + 8 * i + 0 ≤ 7302250 by omega⟩ (fun r1 w1 H locs hq1 hP hD hS => ?_)
  have hP := hP.perm (List.perm_append_comm (l₁ := w1) (l₂ := w2))
  have hD := hD.perm (List.perm_append_comm (l₁ := w1) (l₂ := w2))
  refine lv_pop2_2 hx hb dL_law_757 rfl ?_
  refine lv_aload_n hx hb dL_law_758 rfl (lv_at hl 1 rfl) ?_
  refine lv_aload_n hx hb dL_law_759 rfl (lv_at hl 3 rfl) ?_
  refine lv_iload_n hx hb dL_law_760 rfl (lv_at hl 0 rfl) ?_
  refine lv_iconst (v := (nI (1))) hx hb dL_law_761 (by decide) ?_
  refine ln_iadd hx hb dL_law_762 ?_
  refine va_sld hx hb hX hbl hbA hS (vp_in_nI (show i + 1 < L by omega) (by omega)) dL_law_763 ?_
  refine ln_eqi (y := xs (i + 1)) (by rw [nI_clamp (by omega)]) ?_
  refine fr_Vl (As := [.int (xs (i + 1))]) (rest := []) (w := w2) (wr := w1) (ci := 12) (k0 := 0) ⟨hx, hb, hml, hown, htsL⟩ (ma_is l D hM hok he20 hm20 hsz (xs (i + 1))) (cwV 1 htsL gL_law_X12_is rfl rfl rfl (by decide +kernel) ⟨Nat.le_of_ble_eq_true rfl, Nat.le_of_ble_eq_true rfl⟩) rfl hat2 hP hKm hD hS hA rfl hl.1 rfl (Nat.le_of_ble_eq_true rfl) dL_law_764 ⟨show 100 + i + 0 + 0 ≤ 600000 by omega, show 15000 + 8 * i + 0 + 0 ≤ 7302250 by omega⟩ (fun r2 w3 H locs hq2 hP hD hS => ?_)
  refine lv_pop2_2 hx hb dL_law_767 rfl ?_
  refine lv_goto (tgt := 1345) hx hb dL_law_768 (by decide) ?_
  exact hend a kp bt sz sheets ke km w1 w3 _ _ _ _ hq1 hq2 hP hD hS (by omega) (by omega)
set_option maxHeartbeats 4000000 in
set_option maxRecDepth 100000 in
theorem law_17 (l : Launch) {p : Program} {e : Env} {s : State} {m : MethodId} {below : List Frame} {meth : Method} {c : Code} {b L : Nat} {xs : Nat → Int32} (C0 : lw_At p s m meth c b L xs) {D : va_G} {cy : Nat → ClassId} (hK : va_K D vwCl (cT cy) s) (hN : nst s) (hka : ka (fun q : Nat => s.heap.size ≤ q) s s.heap) {i : Nat} (hi : i + 7 ≤ L) (hL : L ≤ 3584) {d0 : Nat} {ad : Nat → Nat} {a kp bt sz : Nat → Nat} {sheets : Nat → Int32} {ke km : Nat} {w w2 : va_W} (hI : IvD cy d0 a kp bt sz sheets ke km w) (hM : Mdl cy ad a kp bt sz sheets ke km w2) {H : Heap} {locs : List Loc} {ls : Array Slot} (hP : va_P D vwCl (w ++ w2) H) (hD : va_D (fun q : Nat => s.heap.size ≤ q) (w ++ w2)) (hS : va_S (fun q : Nat => s.heap.size ≤ q) s.heap H locs) (hl : lv_has ls 4 [(3, .int (nI i)), (2, .ref (ad 0)), (1, .ref d0), (0, .ref b)]) (hend : ∀ (a kp bt sz : Nat → Nat) (sheets : Nat → Int32) (ke km : Nat) (w w2 : va_W) (H : Heap) (locs : List Loc) (cs sl : Nat), IvD cy d0 a kp bt sz sheets ke km w → Mdl cy ad a kp bt sz sheets ke km w2 → va_P D vwCl (w2 ++ w) H → va_D (fun q : Nat => s.heap.size ≤ q) (w2 ++ w) → va_S (fun q : Nat => s.heap.size ≤ q) s.heap H locs → cs ≤ 107 + i → sl ≤ 15056 + 8 * i → W p l e room_1 s m #[Value.ref b] below meth c H locs cs sl (lw_Z below #[Value.ref b] s) (F0 m 1345 ls [])) : W p l e room_1 s m #[Value.ref b] below meth c H locs (100 + i) (15000 + 8 * i) (lw_Z below #[Value.ref b] s) (F0 m 771 ls []) := by
  obtain ⟨hx, hb, hr, hml, hown, hts, hX, hbl, hlocks, hgv⟩ := C0
  have htsL : ∀ w ∈ wsL_law, w.before #[Value.ref b] s = true := fun w h => hts w (wsL_law_in w h)
  have hown : s.vm.findClass RL = some m.cls := hown
  have hA : ∀ q : Nat, s.heap.size ≤ q → (fun q : Nat => s.heap.size ≤ q) q := fun _ h => h
  have hbA : ¬ (fun q : Nat => s.heap.size ≤ q) b := Nat.not_le.mpr hbl
  have hKm : va_K D vwCl (mT (cy 0) (cy 1)) s := hK.sub [0, 1] rfl
  obtain ⟨hok, he20, hm20, hsz⟩ := IvD_f hI
  obtain ⟨k0, fs0, hat⟩ := IvD_at hI
  obtain ⟨fs2, hat2⟩ := Mdl_at hM
  refine lv_aload_n hx hb dL_law_771 rfl (lv_at hl 2 rfl) ?_
  refine lv_aload_n hx hb dL_law_772 rfl (lv_at hl 3 rfl) ?_
  refine lv_iload_n hx hb dL_law_773 rfl (lv_at hl 0 rfl) ?_
  refine lv_iconst (v := (nI (1))) hx hb dL_law_774 (by decide) ?_
  refine ln_iadd hx hb dL_law_775 ?_
  refine va_sld hx hb hX hbl hbA hS (vp_in_nI (show i + 1 < L by omega) (by omega)) dL_law_776 ?_
  refine ln_eqi (y := xs (i + 1)) (by rw [nI_clamp (by omega)]) ?_
  refine lv_aload_n hx hb dL_law_777 rfl (lv_at hl 3 rfl) ?_
  refine lv_iload_n hx hb dL_law_778 rfl (lv_at hl 0 rfl) ?_
  refine lv_iconst (v := (nI (2))) hx hb dL_law_779 (by decide) ?_
  refine ln_iadd hx hb dL_law_780 ?_
  refine va_sld hx hb hX hbl hbA hS (vp_in_nI (show i + 2 < L by omega) (by omega)) dL_law_781 ?_
  refine ln_eqi (y := xs (i + 2)) (by rw [nI_clamp (by omega)]) ?_
  refine lv_aload_n hx hb dL_law_782 rfl (lv_at hl 3 rfl) ?_
  refine lv_iload_n hx hb dL_law_783 rfl (lv_at hl 0 rfl) ?_
  refine lv_iconst (v := (nI (3))) hx hb dL_law_784 (by decide) ?_
  refine ln_iadd hx hb dL_law_785 ?_
  refine va_sld hx hb hX hbl hbA hS (vp_in_nI (show i + 3 < L by omega) (by omega)) dL_law_786 ?_
  refine ln_eqi (y := xs (i + 3)) (by rw [nI_clamp (by omega)]) ?_
  refine kq_Vl (As := [.int (xs (i + 1)), .int (xs (i + 2)), .int (xs (i + 3))]) (rest := []) (w := w) (wr := w2) (ci := 11) (k0 := k0) ⟨hx, hb, hml, hown, htsL⟩ (ik_field l D hI (xs (i + 1)) (xs (i + 2)) (xs (i + 3))) (cwV 3 htsL gL_law_X11_field rfl rfl rfl (by decide +kernel) ⟨Nat.le_of_ble_eq_true rfl, Nat.le_of_ble_eq_true rfl⟩) rfl hat hP hK hD hN hka hS hA rfl hl.1 rfl (Nat.le_of_ble_eq_true rfl) dL_law_787 ⟨show 100 + i + 4 ≤ 600000 by omega, show 15000 + 8 * i + 21 ≤ 7302250 by omega⟩ (fun r1 w1 H locs hq1 hP hD hS => ?_)
  have hP := hP.perm (List.perm_append_comm (l₁ := w1) (l₂ := w2))
  have hD := hD.perm (List.perm_append_comm (l₁ := w1) (l₂ := w2))
  refine lv_pop2_2 hx hb dL_law_790 rfl ?_
  refine lv_aload_n hx hb dL_law_791 rfl (lv_at hl 1 rfl) ?_
  refine lv_aload_n hx hb dL_law_792 rfl (lv_at hl 3 rfl) ?_
  refine lv_iload_n hx hb dL_law_793 rfl (lv_at hl 0 rfl) ?_
  refine lv_iconst (v := (nI (1))) hx hb dL_law_794 (by decide) ?_
  refine ln_iadd hx hb dL_law_795 ?_
  refine va_sld hx hb hX hbl hbA hS (vp_in_nI (show i + 1 < L by omega) (by omega)) dL_law_796 ?_
  refine ln_eqi (y := xs (i + 1)) (by rw [nI_clamp (by omega)]) ?_
  refine lv_aload_n hx hb dL_law_797 rfl (lv_at hl 3 rfl) ?_
  refine lv_iload_n hx hb dL_law_798 rfl (lv_at hl 0 rfl) ?_
  refine lv_iconst (v := (nI (2))) hx hb dL_law_799 (by decide) ?_
  refine ln_iadd hx hb dL_law_800 ?_
  refine va_sld hx hb hX hbl hbA hS (vp_in_nI (show i + 2 < L by omega) (by omega)) dL_law_801 ?_
  refine ln_eqi (y := xs (i + 2)) (by rw [nI_clamp (by omega)]) ?_
  refine lv_aload_n hx hb dL_law_802 rfl (lv_at hl 3 rfl) ?_
  refine lv_iload_n hx hb dL_law_803 rfl (lv_at hl 0 rfl) ?_
  refine lv_iconst (v := (nI (3))) hx hb dL_law_804 (by decide) ?_
  refine ln_iadd hx hb dL_law_805 ?_
  refine va_sld hx hb hX hbl hbA hS (vp_in_nI (show i + 3 < L by omega) (by omega)) dL_law_806 ?_
  refine ln_eqi (y := xs (i + 3)) (by rw [nI_clamp (by omega)]) ?_
  refine fr_Vl (As := [.int (xs (i + 1)), .int (xs (i + 2)), .int (xs (i + 3))]) (rest := []) (w := w2) (wr := w1) (ci := 12) (k0 := 0) ⟨hx, hb, hml, hown, htsL⟩ (mk_field l D hM hok he20 hm20 hsz (xs (i + 1)) (xs (i + 2)) (xs (i + 3))) (cwV 3 htsL gL_law_X12_field rfl rfl rfl (by decide +kernel) ⟨Nat.le_of_ble_eq_true rfl, Nat.le_of_ble_eq_true rfl⟩) rfl hat2 hP hKm hD hS hA rfl hl.1 rfl (Nat.le_of_ble_eq_true rfl) dL_law_807 ⟨show 100 + i + 4 + 0 ≤ 600000 by omega, show 15000 + 8 * i + 21 + 0 ≤ 7302250 by omega⟩ (fun r2 w3 H locs hq2 hP hD hS => ?_)
  obtain ⟨hr12, a9, kp9, bt9, sz9, sh9, ke9, km9, k1, k2⟩ := jn_field hok (fun i hi => (hsz i hi).1) hq1 hq2
  refine lv_pop2_2 hx hb dL_law_810 rfl ?_
  refine lv_goto (tgt := 1345) hx hb dL_law_811 (by decide) ?_
  exact hend a9 kp9 bt9 sz9 sh9 ke9 km9 w1 w3 _ _ _ _ k1 k2 hP hD hS (by omega) (by omega)
set_option maxHeartbeats 4000000 in
set_option maxRecDepth 100000 in
theorem law_18 (l : Launch) {p : Program} {e : Env} {s : State} {m : MethodId} {below : List Frame} {meth : Method} {c : Code} {b L : Nat} {xs : Nat → Int32} (C0 : lw_At p s m meth c b L xs) {D : va_G} {cy : Nat → ClassId} (hK : va_K D vwCl (cT cy) s) (hN : nst s) (hka : ka (fun q : Nat => s.heap.size ≤ q) s s.heap) {i : Nat} (hi : i + 7 ≤ L) (hL : L ≤ 3584) {d0 : Nat} {ad : Nat → Nat} {a kp bt sz : Nat → Nat} {sheets : Nat → Int32} {ke km : Nat} {w w2 : va_W} (hI : IvD cy d0 a kp bt sz sheets ke km w) (hM : Mdl cy ad a kp bt sz sheets ke km w2) {H : Heap} {locs : List Loc} {ls : Array Slot} (hP : va_P D vwCl (w ++ w2) H) (hD : va_D (fun q : Nat => s.heap.size ≤ q) (w ++ w2)) (hS : va_S (fun q : Nat => s.heap.size ≤ q) s.heap H locs) (hl : lv_has ls 4 [(3, .int (nI i)), (2, .ref (ad 0)), (1, .ref d0), (0, .ref b)]) (hend : ∀ (a kp bt sz : Nat → Nat) (sheets : Nat → Int32) (ke km : Nat) (w w2 : va_W) (H : Heap) (locs : List Loc) (cs sl : Nat), IvD cy d0 a kp bt sz sheets ke km w → Mdl cy ad a kp bt sz sheets ke km w2 → va_P D vwCl (w2 ++ w) H → va_D (fun q : Nat => s.heap.size ≤ q) (w2 ++ w) → va_S (fun q : Nat => s.heap.size ≤ q) s.heap H locs → cs ≤ 107 + i → sl ≤ 15056 + 8 * i → W p l e room_1 s m #[Value.ref b] below meth c H locs cs sl (lw_Z below #[Value.ref b] s) (F0 m 1345 ls [])) : W p l e room_1 s m #[Value.ref b] below meth c H locs (100 + i) (15000 + 8 * i) (lw_Z below #[Value.ref b] s) (F0 m 814 ls []) := by
  obtain ⟨hx, hb, hr, hml, hown, hts, hX, hbl, hlocks, hgv⟩ := C0
  have htsL : ∀ w ∈ wsL_law, w.before #[Value.ref b] s = true := fun w h => hts w (wsL_law_in w h)
  have hown : s.vm.findClass RL = some m.cls := hown
  have hA : ∀ q : Nat, s.heap.size ≤ q → (fun q : Nat => s.heap.size ≤ q) q := fun _ h => h
  have hbA : ¬ (fun q : Nat => s.heap.size ≤ q) b := Nat.not_le.mpr hbl
  have hKm : va_K D vwCl (mT (cy 0) (cy 1)) s := hK.sub [0, 1] rfl
  obtain ⟨hok, he20, hm20, hsz⟩ := IvD_f hI
  obtain ⟨k0, fs0, hat⟩ := IvD_at hI
  obtain ⟨fs2, hat2⟩ := Mdl_at hM
  refine lv_aload_n hx hb dL_law_814 rfl (lv_at hl 2 rfl) ?_
  refine lv_aload_n hx hb dL_law_815 rfl (lv_at hl 3 rfl) ?_
  refine lv_iload_n hx hb dL_law_816 rfl (lv_at hl 0 rfl) ?_
  refine lv_iconst (v := (nI (1))) hx hb dL_law_817 (by decide) ?_
  refine ln_iadd hx hb dL_law_818 ?_
  refine va_sld hx hb hX hbl hbA hS (vp_in_nI (show i + 1 < L by omega) (by omega)) dL_law_819 ?_
  refine ln_eqi (y := xs (i + 1)) (by rw [nI_clamp (by omega)]) ?_
  refine lv_aload_n hx hb dL_law_820 rfl (lv_at hl 3 rfl) ?_
  refine lv_iload_n hx hb dL_law_821 rfl (lv_at hl 0 rfl) ?_
  refine lv_iconst (v := (nI (2))) hx hb dL_law_822 (by decide) ?_
  refine ln_iadd hx hb dL_law_823 ?_
  refine va_sld hx hb hX hbl hbA hS (vp_in_nI (show i + 2 < L by omega) (by omega)) dL_law_824 ?_
  refine ln_eqi (y := xs (i + 2)) (by rw [nI_clamp (by omega)]) ?_
  refine lv_aload_n hx hb dL_law_825 rfl (lv_at hl 3 rfl) ?_
  refine lv_iload_n hx hb dL_law_826 rfl (lv_at hl 0 rfl) ?_
  refine lv_iconst (v := (nI (3))) hx hb dL_law_827 (by decide) ?_
  refine ln_iadd hx hb dL_law_828 ?_
  refine va_sld hx hb hX hbl hbA hS (vp_in_nI (show i + 3 < L by omega) (by omega)) dL_law_829 ?_
  refine ln_eqi (y := xs (i + 3)) (by rw [nI_clamp (by omega)]) ?_
  refine lv_aload_n hx hb dL_law_830 rfl (lv_at hl 3 rfl) ?_
  refine lv_iload_n hx hb dL_law_831 rfl (lv_at hl 0 rfl) ?_
  refine lv_iconst (v := (nI (4))) hx hb dL_law_832 (by decide) ?_
  refine ln_iadd hx hb dL_law_833 ?_
  refine va_sld hx hb hX hbl hbA hS (vp_in_nI (show i + 4 < L by omega) (by omega)) dL_law_834 ?_
  refine ln_eqi (y := xs (i + 4)) (by rw [nI_clamp (by omega)]) ?_
  refine lz_dia hx hb dL_law_835 dL_law_838 dL_law_839 dL_law_842 ?_
  refine ln_eqi (y := (nI (zN (xs (i + 4))))) (zI_N _) ?_
  refine kq_Vl (As := [.int (xs (i + 1)), .int (xs (i + 2)), .int (xs (i + 3)), .int (nI (zN (xs (i + 4))))]) (rest := []) (w := w) (wr := w2) (ci := 11) (k0 := k0) ⟨hx, hb, hml, hown, htsL⟩ (ik_look l D hI (xs (i + 1)) (xs (i + 2)) (xs (i + 3)) (zN (xs (i + 4))) (zN_b _)) (cwV 4 htsL gL_law_X11_look rfl rfl rfl (by decide +kernel) ⟨Nat.le_of_ble_eq_true rfl, Nat.le_of_ble_eq_true rfl⟩) rfl hat hP hK hD hN hka hS hA rfl hl.1 rfl (Nat.le_of_ble_eq_true rfl) dL_law_843 ⟨show 100 + i + 0 ≤ 600000 by omega, show 15000 + 8 * i + 0 ≤ 7302250 by omega⟩ (fun r1 w1 H locs hq1 hP hD hS => ?_)
  have hP := hP.perm (List.perm_append_comm (l₁ := w1) (l₂ := w2))
  have hD := hD.perm (List.perm_append_comm (l₁ := w1) (l₂ := w2))
  refine lv_pop2_2 hx hb dL_law_846 rfl ?_
  refine lv_aload_n hx hb dL_law_847 rfl (lv_at hl 1 rfl) ?_
  refine lv_aload_n hx hb dL_law_848 rfl (lv_at hl 3 rfl) ?_
  refine lv_iload_n hx hb dL_law_849 rfl (lv_at hl 0 rfl) ?_
  refine lv_iconst (v := (nI (1))) hx hb dL_law_850 (by decide) ?_
  refine ln_iadd hx hb dL_law_851 ?_
  refine va_sld hx hb hX hbl hbA hS (vp_in_nI (show i + 1 < L by omega) (by omega)) dL_law_852 ?_
  refine ln_eqi (y := xs (i + 1)) (by rw [nI_clamp (by omega)]) ?_
  refine lv_aload_n hx hb dL_law_853 rfl (lv_at hl 3 rfl) ?_
  refine lv_iload_n hx hb dL_law_854 rfl (lv_at hl 0 rfl) ?_
  refine lv_iconst (v := (nI (2))) hx hb dL_law_855 (by decide) ?_
  refine ln_iadd hx hb dL_law_856 ?_
  refine va_sld hx hb hX hbl hbA hS (vp_in_nI (show i + 2 < L by omega) (by omega)) dL_law_857 ?_
  refine ln_eqi (y := xs (i + 2)) (by rw [nI_clamp (by omega)]) ?_
  refine lv_aload_n hx hb dL_law_858 rfl (lv_at hl 3 rfl) ?_
  refine lv_iload_n hx hb dL_law_859 rfl (lv_at hl 0 rfl) ?_
  refine lv_iconst (v := (nI (3))) hx hb dL_law_860 (by decide) ?_
  refine ln_iadd hx hb dL_law_861 ?_
  refine va_sld hx hb hX hbl hbA hS (vp_in_nI (show i + 3 < L by omega) (by omega)) dL_law_862 ?_
  refine ln_eqi (y := xs (i + 3)) (by rw [nI_clamp (by omega)]) ?_
  refine lv_aload_n hx hb dL_law_863 rfl (lv_at hl 3 rfl) ?_
  refine lv_iload_n hx hb dL_law_864 rfl (lv_at hl 0 rfl) ?_
  refine lv_iconst (v := (nI (4))) hx hb dL_law_865 (by decide) ?_
  refine ln_iadd hx hb dL_law_866 ?_
  refine va_sld hx hb hX hbl hbA hS (vp_in_nI (show i + 4 < L by omega) (by omega)) dL_law_867 ?_
  refine ln_eqi (y := xs (i + 4)) (by rw [nI_clamp (by omega)]) ?_
  refine lz_dia hx hb dL_law_868 dL_law_871 dL_law_872 dL_law_875 ?_
  refine ln_eqi (y := (nI (zN (xs (i + 4))))) (zI_N _) ?_
  refine fr_Vl (As := [.int (xs (i + 1)), .int (xs (i + 2)), .int (xs (i + 3)), .int (nI (zN (xs (i + 4))))]) (rest := []) (w := w2) (wr := w1) (ci := 12) (k0 := 0) ⟨hx, hb, hml, hown, htsL⟩ (mk_look l D hM hok he20 hm20 hsz (xs (i + 1)) (xs (i + 2)) (xs (i + 3)) (nI (zN (xs (i + 4))))) (cwV 4 htsL gL_law_X12_look rfl rfl rfl (by decide +kernel) ⟨Nat.le_of_ble_eq_true rfl, Nat.le_of_ble_eq_true rfl⟩) rfl hat2 hP hKm hD hS hA rfl hl.1 rfl (Nat.le_of_ble_eq_true rfl) dL_law_876 ⟨show 100 + i + 0 + 0 ≤ 600000 by omega, show 15000 + 8 * i + 0 + 0 ≤ 7302250 by omega⟩ (fun r2 w3 H locs hq2 hP hD hS => ?_)
  obtain ⟨hr12, a9, kp9, bt9, sz9, sh9, ke9, km9, k1, k2⟩ := jn_look hok (fun i hi => (hsz i hi).1) hq1 hq2
  refine lv_pop2_2 hx hb dL_law_879 rfl ?_
  refine lv_goto (tgt := 1345) hx hb dL_law_880 (by decide) ?_
  exact hend a9 kp9 bt9 sz9 sh9 ke9 km9 w1 w3 _ _ _ _ k1 k2 hP hD hS (by omega) (by omega)
set_option maxHeartbeats 4000000 in
set_option maxRecDepth 100000 in
theorem law_19 (l : Launch) {p : Program} {e : Env} {s : State} {m : MethodId} {below : List Frame} {meth : Method} {c : Code} {b L : Nat} {xs : Nat → Int32} (C0 : lw_At p s m meth c b L xs) {D : va_G} {cy : Nat → ClassId} (hK : va_K D vwCl (cT cy) s) (hN : nst s) (hka : ka (fun q : Nat => s.heap.size ≤ q) s s.heap) {i : Nat} (hi : i + 7 ≤ L) (hL : L ≤ 3584) {d0 : Nat} {ad : Nat → Nat} {a kp bt sz : Nat → Nat} {sheets : Nat → Int32} {ke km : Nat} {w w2 : va_W} (hI : IvD cy d0 a kp bt sz sheets ke km w) (hM : Mdl cy ad a kp bt sz sheets ke km w2) {H : Heap} {locs : List Loc} {ls : Array Slot} (hP : va_P D vwCl (w ++ w2) H) (hD : va_D (fun q : Nat => s.heap.size ≤ q) (w ++ w2)) (hS : va_S (fun q : Nat => s.heap.size ≤ q) s.heap H locs) (hl : lv_has ls 4 [(3, .int (nI i)), (2, .ref (ad 0)), (1, .ref d0), (0, .ref b)]) (hend : ∀ (a kp bt sz : Nat → Nat) (sheets : Nat → Int32) (ke km : Nat) (w w2 : va_W) (H : Heap) (locs : List Loc) (cs sl : Nat), IvD cy d0 a kp bt sz sheets ke km w → Mdl cy ad a kp bt sz sheets ke km w2 → va_P D vwCl (w2 ++ w) H → va_D (fun q : Nat => s.heap.size ≤ q) (w2 ++ w) → va_S (fun q : Nat => s.heap.size ≤ q) s.heap H locs → cs ≤ 107 + i → sl ≤ 15056 + 8 * i → W p l e room_1 s m #[Value.ref b] below meth c H locs cs sl (lw_Z below #[Value.ref b] s) (F0 m 1345 ls [])) : W p l e room_1 s m #[Value.ref b] below meth c H locs (100 + i) (15000 + 8 * i) (lw_Z below #[Value.ref b] s) (F0 m 883 ls []) := by
  obtain ⟨hx, hb, hr, hml, hown, hts, hX, hbl, hlocks, hgv⟩ := C0
  have htsL : ∀ w ∈ wsL_law, w.before #[Value.ref b] s = true := fun w h => hts w (wsL_law_in w h)
  have hown : s.vm.findClass RL = some m.cls := hown
  have hA : ∀ q : Nat, s.heap.size ≤ q → (fun q : Nat => s.heap.size ≤ q) q := fun _ h => h
  have hbA : ¬ (fun q : Nat => s.heap.size ≤ q) b := Nat.not_le.mpr hbl
  have hKm : va_K D vwCl (mT (cy 0) (cy 1)) s := hK.sub [0, 1] rfl
  obtain ⟨hok, he20, hm20, hsz⟩ := IvD_f hI
  obtain ⟨k0, fs0, hat⟩ := IvD_at hI
  obtain ⟨fs2, hat2⟩ := Mdl_at hM
  refine lv_aload_n hx hb dL_law_883 rfl (lv_at hl 2 rfl) ?_
  refine lv_aload_n hx hb dL_law_884 rfl (lv_at hl 3 rfl) ?_
  refine lv_iload_n hx hb dL_law_885 rfl (lv_at hl 0 rfl) ?_
  refine lv_iconst (v := (nI (1))) hx hb dL_law_886 (by decide) ?_
  refine ln_iadd hx hb dL_law_887 ?_
  refine va_sld hx hb hX hbl hbA hS (vp_in_nI (show i + 1 < L by omega) (by omega)) dL_law_888 ?_
  refine ln_eqi (y := xs (i + 1)) (by rw [nI_clamp (by omega)]) ?_
  refine lv_aload_n hx hb dL_law_889 rfl (lv_at hl 3 rfl) ?_
  refine lv_iload_n hx hb dL_law_890 rfl (lv_at hl 0 rfl) ?_
  refine lv_iconst (v := (nI (2))) hx hb dL_law_891 (by decide) ?_
  refine ln_iadd hx hb dL_law_892 ?_
  refine va_sld hx hb hX hbl hbA hS (vp_in_nI (show i + 2 < L by omega) (by omega)) dL_law_893 ?_
  refine ln_eqi (y := xs (i + 2)) (by rw [nI_clamp (by omega)]) ?_
  refine lz_dia hx hb dL_law_894 dL_law_897 dL_law_898 dL_law_901 ?_
  refine kq_Vl (As := [.int (xs (i + 1)), .int (zI (xs (i + 2)))]) (rest := []) (w := w) (wr := w2) (ci := 11) (k0 := k0) ⟨hx, hb, hml, hown, htsL⟩ (ia_belief l D hI (xs (i + 1)) (zI (xs (i + 2)))) (cwV 2 htsL gL_law_X11_belief rfl rfl rfl (by decide +kernel) ⟨Nat.le_of_ble_eq_true rfl, Nat.le_of_ble_eq_true rfl⟩) rfl hat hP hK hD hN hka hS hA rfl hl.1 rfl (Nat.le_of_ble_eq_true rfl) dL_law_902 ⟨show 100 + i + 0 ≤ 600000 by omega, show 15000 + 8 * i + 0 ≤ 7302250 by omega⟩ (fun r1 w1 H locs hq1 hP hD hS => ?_)
  have hP := hP.perm (List.perm_append_comm (l₁ := w1) (l₂ := w2))
  have hD := hD.perm (List.perm_append_comm (l₁ := w1) (l₂ := w2))
  refine lv_pop2_2 hx hb dL_law_905 rfl ?_
  refine lv_aload_n hx hb dL_law_906 rfl (lv_at hl 1 rfl) ?_
  refine lv_aload_n hx hb dL_law_907 rfl (lv_at hl 3 rfl) ?_
  refine lv_iload_n hx hb dL_law_908 rfl (lv_at hl 0 rfl) ?_
  refine lv_iconst (v := (nI (1))) hx hb dL_law_909 (by decide) ?_
  refine ln_iadd hx hb dL_law_910 ?_
  refine va_sld hx hb hX hbl hbA hS (vp_in_nI (show i + 1 < L by omega) (by omega)) dL_law_911 ?_
  refine ln_eqi (y := xs (i + 1)) (by rw [nI_clamp (by omega)]) ?_
  refine lv_aload_n hx hb dL_law_912 rfl (lv_at hl 3 rfl) ?_
  refine lv_iload_n hx hb dL_law_913 rfl (lv_at hl 0 rfl) ?_
  refine lv_iconst (v := (nI (2))) hx hb dL_law_914 (by decide) ?_
  refine ln_iadd hx hb dL_law_915 ?_
  refine va_sld hx hb hX hbl hbA hS (vp_in_nI (show i + 2 < L by omega) (by omega)) dL_law_916 ?_
  refine ln_eqi (y := xs (i + 2)) (by rw [nI_clamp (by omega)]) ?_
  refine lz_dia hx hb dL_law_917 dL_law_920 dL_law_921 dL_law_924 ?_
  refine fr_Vl (As := [.int (xs (i + 1)), .int (zI (xs (i + 2)))]) (rest := []) (w := w2) (wr := w1) (ci := 12) (k0 := 0) ⟨hx, hb, hml, hown, htsL⟩ (ma_belief l D hM hok he20 hm20 hsz (xs (i + 1)) (zI (xs (i + 2)))) (cwV 2 htsL gL_law_X12_belief rfl rfl rfl (by decide +kernel) ⟨Nat.le_of_ble_eq_true rfl, Nat.le_of_ble_eq_true rfl⟩) rfl hat2 hP hKm hD hS hA rfl hl.1 rfl (Nat.le_of_ble_eq_true rfl) dL_law_925 ⟨show 100 + i + 0 + 0 ≤ 600000 by omega, show 15000 + 8 * i + 0 + 0 ≤ 7302250 by omega⟩ (fun r2 w3 H locs hq2 hP hD hS => ?_)
  refine lv_pop2_2 hx hb dL_law_928 rfl ?_
  refine lv_goto (tgt := 1345) hx hb dL_law_929 (by decide) ?_
  exact hend a kp bt sz sheets ke km w1 w3 _ _ _ _ hq1 hq2 hP hD hS (by omega) (by omega)
