set_option maxHeartbeats 4000000 in
set_option maxRecDepth 100000 in
theorem law_20 (l : Launch) {p : Program} {e : Env} {s : State} {m : MethodId} {below : List Frame} {meth : Method} {c : Code} {b L : Nat} {xs : Nat → Int32} (C0 : lw_At p s m meth c b L xs) {D : va_G} {cy : Nat → ClassId} (hK : va_K D vwCl (cT cy) s) (hN : nst s) (hka : ka (fun q : Nat => s.heap.size ≤ q) s s.heap) {i : Nat} (hi : i + 7 ≤ L) (hL : L ≤ 3584) {d0 : Nat} {ad : Nat → Nat} {a kp bt sz : Nat → Nat} {sheets : Nat → Int32} {ke km : Nat} {w w2 : va_W} (hI : IvD cy d0 a kp bt sz sheets ke km w) (hM : Mdl cy ad a kp bt sz sheets ke km w2) {H : Heap} {locs : List Loc} {ls : Array Slot} (hP : va_P D vwCl (w ++ w2) H) (hD : va_D (fun q : Nat => s.heap.size ≤ q) (w ++ w2)) (hS : va_S (fun q : Nat => s.heap.size ≤ q) s.heap H locs) (hl : lv_has ls 4 [(3, .int (nI i)), (2, .ref (ad 0)), (1, .ref d0), (0, .ref b)]) (hend : ∀ (a kp bt sz : Nat → Nat) (sheets : Nat → Int32) (ke km : Nat) (w w2 : va_W) (H : Heap) (locs : List Loc) (cs sl : Nat), IvD cy d0 a kp bt sz sheets ke km w → Mdl cy ad a kp bt sz sheets ke km w2 → va_P D vwCl (w2 ++ w) H → va_D (fun q : Nat => s.heap.size ≤ q) (w2 ++ w) → va_S (fun q : Nat => s.heap.size ≤ q) s.heap H locs → cs ≤ 107 + i → sl ≤ 15056 + 8 * i → W p l e room_1 s m #[Value.ref b] below meth c H locs cs sl (lw_Z below #[Value.ref b] s) (F0 m 1345 ls [])) : W p l e room_1 s m #[Value.ref b] below meth c H locs (100 + i) (15000 + 8 * i) (lw_Z below #[Value.ref b] s) (F0 m 932 ls []) := by
  obtain ⟨hx, hb, hr, hml, hown, hts, hX, hbl, hlocks, hgv⟩ := C0
  have htsL : ∀ w ∈ wsL_law, w.before #[Value.ref b] s = true := fun w h => hts w (wsL_law_in w h)
  have hown : s.vm.findClass RL = some m.cls := hown
  have hA : ∀ q : Nat, s.heap.size ≤ q → (fun q : Nat => s.heap.size ≤ q) q := fun _ h => h
  have hbA : ¬ (fun q : Nat => s.heap.size ≤ q) b := Nat.not_le.mpr hbl
  have hKm : va_K D vwCl (mT (cy 0) (cy 1)) s := hK.sub [0, 1] rfl
  obtain ⟨hok, he20, hm20, hsz⟩ := IvD_f hI
  obtain ⟨k0, fs0, hat⟩ := IvD_at hI
  obtain ⟨fs2, hat2⟩ := Mdl_at hM
  refine lv_aload_n hx hb dL_law_932 rfl (lv_at hl 2 rfl) ?_
  refine lv_aload_n hx hb dL_law_933 rfl (lv_at hl 3 rfl) ?_
  refine lv_iload_n hx hb dL_law_934 rfl (lv_at hl 0 rfl) ?_
  refine lv_iconst (v := (nI (1))) hx hb dL_law_935 (by decide) ?_
  refine ln_iadd hx hb dL_law_936 ?_
  refine va_sld hx hb hX hbl hbA hS (vp_in_nI (show i + 1 < L by omega) (by omega)) dL_law_937 ?_
  refine ln_eqi (y := xs (i + 1)) (by rw [nI_clamp (by omega)]) ?_
  refine lv_aload_n hx hb dL_law_938 rfl (lv_at hl 3 rfl) ?_
  refine lv_iload_n hx hb dL_law_939 rfl (lv_at hl 0 rfl) ?_
  refine lv_iconst (v := (nI (2))) hx hb dL_law_940 (by decide) ?_
  refine ln_iadd hx hb dL_law_941 ?_
  refine va_sld hx hb hX hbl hbA hS (vp_in_nI (show i + 2 < L by omega) (by omega)) dL_law_942 ?_
  refine ln_eqi (y := xs (i + 2)) (by rw [nI_clamp (by omega)]) ?_
  refine lv_aload_n hx hb dL_law_943 rfl (lv_at hl 3 rfl) ?_
  refine lv_iload_n hx hb dL_law_944 rfl (lv_at hl 0 rfl) ?_
  refine lv_iconst (v := (nI (3))) hx hb dL_law_945 (by decide) ?_
  refine ln_iadd hx hb dL_law_946 ?_
  refine va_sld hx hb hX hbl hbA hS (vp_in_nI (show i + 3 < L by omega) (by omega)) dL_law_947 ?_
  refine ln_eqi (y := xs (i + 3)) (by rw [nI_clamp (by omega)]) ?_
  refine lv_aload_n hx hb dL_law_948 rfl (lv_at hl 3 rfl) ?_
  refine lv_iload_n hx hb dL_law_949 rfl (lv_at hl 0 rfl) ?_
  refine lv_iconst (v := (nI (4))) hx hb dL_law_950 (by decide) ?_
  refine ln_iadd hx hb dL_law_951 ?_
  refine va_sld hx hb hX hbl hbA hS (vp_in_nI (show i + 4 < L by omega) (by omega)) dL_law_952 ?_
  refine ln_eqi (y := xs (i + 4)) (by rw [nI_clamp (by omega)]) ?_
  refine lz_dia hx hb dL_law_953 dL_law_956 dL_law_957 dL_law_960 ?_
  refine kq_Vl (As := [.int (xs (i + 1)), .int (xs (i + 2)), .int (xs (i + 3)), .int (zI (xs (i + 4)))]) (rest := []) (w := w) (wr := w2) (ci := 11) (k0 := k0) ⟨hx, hb, hml, hown, htsL⟩ (ia_showing l D hI (xs (i + 1)) (xs (i + 2)) (xs (i + 3)) (zI (xs (i + 4)))) (cwV 4 htsL gL_law_X11_showing rfl rfl rfl (by decide +kernel) ⟨Nat.le_of_ble_eq_true rfl, Nat.le_of_ble_eq_true rfl⟩) rfl hat hP hK hD hN hka hS hA rfl hl.1 rfl (Nat.le_of_ble_eq_true rfl) dL_law_961 ⟨show 100 + i + 0 ≤ 600000 by omega, show 15000 + 8 * i + 0 ≤ 7302250 by omega⟩ (fun r1 w1 H locs hq1 hP hD hS => ?_)
  have hP := hP.perm (List.perm_append_comm (l₁ := w1) (l₂ := w2))
  have hD := hD.perm (List.perm_append_comm (l₁ := w1) (l₂ := w2))
  refine lv_pop2_2 hx hb dL_law_964 rfl ?_
  refine lv_aload_n hx hb dL_law_965 rfl (lv_at hl 1 rfl) ?_
  refine lv_aload_n hx hb dL_law_966 rfl (lv_at hl 3 rfl) ?_
  refine lv_iload_n hx hb dL_law_967 rfl (lv_at hl 0 rfl) ?_
  refine lv_iconst (v := (nI (1))) hx hb dL_law_968 (by decide) ?_
  refine ln_iadd hx hb dL_law_969 ?_
  refine va_sld hx hb hX hbl hbA hS (vp_in_nI (show i + 1 < L by omega) (by omega)) dL_law_970 ?_
  refine ln_eqi (y := xs (i + 1)) (by rw [nI_clamp (by omega)]) ?_
  refine lv_aload_n hx hb dL_law_971 rfl (lv_at hl 3 rfl) ?_
  refine lv_iload_n hx hb dL_law_972 rfl (lv_at hl 0 rfl) ?_
  refine lv_iconst (v := (nI (2))) hx hb dL_law_973 (by decide) ?_
  refine ln_iadd hx hb dL_law_974 ?_
  refine va_sld hx hb hX hbl hbA hS (vp_in_nI (show i + 2 < L by omega) (by omega)) dL_law_975 ?_
  refine ln_eqi (y := xs (i + 2)) (by rw [nI_clamp (by omega)]) ?_
  refine lv_aload_n hx hb dL_law_976 rfl (lv_at hl 3 rfl) ?_
  refine lv_iload_n hx hb dL_law_977 rfl (lv_at hl 0 rfl) ?_
  refine lv_iconst (v := (nI (3))) hx hb dL_law_978 (by decide) ?_
  refine ln_iadd hx hb dL_law_979 ?_
  refine va_sld hx hb hX hbl hbA hS (vp_in_nI (show i + 3 < L by omega) (by omega)) dL_law_980 ?_
  refine ln_eqi (y := xs (i + 3)) (by rw [nI_clamp (by omega)]) ?_
  refine lv_aload_n hx hb dL_law_981 rfl (lv_at hl 3 rfl) ?_
  refine lv_iload_n hx hb dL_law_982 rfl (lv_at hl 0 rfl) ?_
  refine lv_iconst (v := (nI (4))) hx hb dL_law_983 (by decide) ?_
  refine ln_iadd hx hb dL_law_984 ?_
  refine va_sld hx hb hX hbl hbA hS (vp_in_nI (show i + 4 < L by omega) (by omega)) dL_law_985 ?_
  refine ln_eqi (y := xs (i + 4)) (by rw [nI_clamp (by omega)]) ?_
  refine lz_dia hx hb dL_law_986 dL_law_989 dL_law_990 dL_law_993 ?_
  refine fr_Vl (As := [.int (xs (i + 1)), .int (xs (i + 2)), .int (xs (i + 3)), .int (zI (xs (i + 4)))]) (rest := []) (w := w2) (wr := w1) (ci := 12) (k0 := 0) ⟨hx, hb, hml, hown, htsL⟩ (ma_showing l D hM hok he20 hm20 hsz (xs (i + 1)) (xs (i + 2)) (xs (i + 3)) (zI (xs (i + 4)))) (cwV 4 htsL gL_law_X12_showing rfl rfl rfl (by decide +kernel) ⟨Nat.le_of_ble_eq_true rfl, Nat.le_of_ble_eq_true rfl⟩) rfl hat2 hP hKm hD hS hA rfl hl.1 rfl (Nat.le_of_ble_eq_true rfl) dL_law_994 ⟨show 100 + i + 0 + 0 ≤ 600000 by omega, show 15000 + 8 * i + 0 + 0 ≤ 7302250 by omega⟩ (fun r2 w3 H locs hq2 hP hD hS => ?_)
  refine lv_pop2_2 hx hb dL_law_997 rfl ?_
  refine lv_goto (tgt := 1345) hx hb dL_law_998 (by decide) ?_
  exact hend a kp bt sz sheets ke km w1 w3 _ _ _ _ hq1 hq2 hP hD hS (by omega) (by omega)
set_option maxHeartbeats 4000000 in
set_option maxRecDepth 100000 in
theorem law_21 (l : Launch) {p : Program} {e : Env} {s : State} {m : MethodId} {below : List Frame} {meth : Method} {c : Code} {b L : Nat} {xs : Nat → Int32} (C0 : lw_At p s m meth c b L xs) {D : va_G} {cy : Nat → ClassId} (hK : va_K D vwCl (cT cy) s) (hN : nst s) (hka : ka (fun q : Nat => s.heap.size ≤ q) s s.heap) {i : Nat} (hi : i + 7 ≤ L) (hL : L ≤ 3584) {d0 : Nat} {ad : Nat → Nat} {a kp bt sz : Nat → Nat} {sheets : Nat → Int32} {ke km : Nat} {w w2 : va_W} (hI : IvD cy d0 a kp bt sz sheets ke km w) (hM : Mdl cy ad a kp bt sz sheets ke km w2) {H : Heap} {locs : List Loc} {ls : Array Slot} (hP : va_P D vwCl (w ++ w2) H) (hD : va_D (fun q : Nat => s.heap.size ≤ q) (w ++ w2)) (hS : va_S (fun q : Nat => s.heap.size ≤ q) s.heap H locs) (hl : lv_has ls 4 [(3, .int (nI i)), (2, .ref (ad 0)), (1, .ref d0), (0, .ref b)]) (hend : ∀ (a kp bt sz : Nat → Nat) (sheets : Nat → Int32) (ke km : Nat) (w w2 : va_W) (H : Heap) (locs : List Loc) (cs sl : Nat), IvD cy d0 a kp bt sz sheets ke km w → Mdl cy ad a kp bt sz sheets ke km w2 → va_P D vwCl (w2 ++ w) H → va_D (fun q : Nat => s.heap.size ≤ q) (w2 ++ w) → va_S (fun q : Nat => s.heap.size ≤ q) s.heap H locs → cs ≤ 107 + i → sl ≤ 15056 + 8 * i → W p l e room_1 s m #[Value.ref b] below meth c H locs cs sl (lw_Z below #[Value.ref b] s) (F0 m 1345 ls [])) : W p l e room_1 s m #[Value.ref b] below meth c H locs (100 + i) (15000 + 8 * i) (lw_Z below #[Value.ref b] s) (F0 m 1001 ls []) := by
  obtain ⟨hx, hb, hr, hml, hown, hts, hX, hbl, hlocks, hgv⟩ := C0
  have htsL : ∀ w ∈ wsL_law, w.before #[Value.ref b] s = true := fun w h => hts w (wsL_law_in w h)
  have hown : s.vm.findClass RL = some m.cls := hown
  have hA : ∀ q : Nat, s.heap.size ≤ q → (fun q : Nat => s.heap.size ≤ q) q := fun _ h => h
  have hbA : ¬ (fun q : Nat => s.heap.size ≤ q) b := Nat.not_le.mpr hbl
  have hKm : va_K D vwCl (mT (cy 0) (cy 1)) s := hK.sub [0, 1] rfl
  obtain ⟨hok, he20, hm20, hsz⟩ := IvD_f hI
  obtain ⟨k0, fs0, hat⟩ := IvD_at hI
  obtain ⟨fs2, hat2⟩ := Mdl_at hM
  refine lv_aload_n hx hb dL_law_1001 rfl (lv_at hl 2 rfl) ?_
  refine lv_aload_n hx hb dL_law_1002 rfl (lv_at hl 3 rfl) ?_
  refine lv_iload_n hx hb dL_law_1003 rfl (lv_at hl 0 rfl) ?_
  refine lv_iconst (v := (nI (1))) hx hb dL_law_1004 (by decide) ?_
  refine ln_iadd hx hb dL_law_1005 ?_
  refine va_sld hx hb hX hbl hbA hS (vp_in_nI (show i + 1 < L by omega) (by omega)) dL_law_1006 ?_
  refine ln_eqi (y := xs (i + 1)) (by rw [nI_clamp (by omega)]) ?_
  refine lv_aload_n hx hb dL_law_1007 rfl (lv_at hl 3 rfl) ?_
  refine lv_iload_n hx hb dL_law_1008 rfl (lv_at hl 0 rfl) ?_
  refine lv_iconst (v := (nI (2))) hx hb dL_law_1009 (by decide) ?_
  refine ln_iadd hx hb dL_law_1010 ?_
  refine va_sld hx hb hX hbl hbA hS (vp_in_nI (show i + 2 < L by omega) (by omega)) dL_law_1011 ?_
  refine ln_eqi (y := xs (i + 2)) (by rw [nI_clamp (by omega)]) ?_
  refine lz_dia hx hb dL_law_1012 dL_law_1015 dL_law_1016 dL_law_1019 ?_
  refine ln_eqi (y := (nI (zN (xs (i + 2))))) (zI_N _) ?_
  refine kq_Vl (As := [.int (xs (i + 1)), .int (nI (zN (xs (i + 2))))]) (rest := []) (w := w) (wr := w2) (ci := 11) (k0 := k0) ⟨hx, hb, hml, hown, htsL⟩ (ik_dig l D hI (xs (i + 1)) (zN (xs (i + 2))) (zN_b _)) (cwV 2 htsL gL_law_X11_dig rfl rfl rfl (by decide +kernel) ⟨Nat.le_of_ble_eq_true rfl, Nat.le_of_ble_eq_true rfl⟩) rfl hat hP hK hD hN hka hS hA rfl hl.1 rfl (Nat.le_of_ble_eq_true rfl) dL_law_1020 ⟨show 100 + i + 0 ≤ 600000 by omega, show 15000 + 8 * i + 0 ≤ 7302250 by omega⟩ (fun r1 w1 H locs hq1 hP hD hS => ?_)
  have hP := hP.perm (List.perm_append_comm (l₁ := w1) (l₂ := w2))
  have hD := hD.perm (List.perm_append_comm (l₁ := w1) (l₂ := w2))
  refine lv_pop2_2 hx hb dL_law_1023 rfl ?_
  refine lv_aload_n hx hb dL_law_1024 rfl (lv_at hl 1 rfl) ?_
  refine lv_aload_n hx hb dL_law_1025 rfl (lv_at hl 3 rfl) ?_
  refine lv_iload_n hx hb dL_law_1026 rfl (lv_at hl 0 rfl) ?_
  refine lv_iconst (v := (nI (1))) hx hb dL_law_1027 (by decide) ?_
  refine ln_iadd hx hb dL_law_1028 ?_
  refine va_sld hx hb hX hbl hbA hS (vp_in_nI (show i + 1 < L by omega) (by omega)) dL_law_1029 ?_
  refine ln_eqi (y := xs (i + 1)) (by rw [nI_clamp (by omega)]) ?_
  refine lv_aload_n hx hb dL_law_1030 rfl (lv_at hl 3 rfl) ?_
  refine lv_iload_n hx hb dL_law_1031 rfl (lv_at hl 0 rfl) ?_
  refine lv_iconst (v := (nI (2))) hx hb dL_law_1032 (by decide) ?_
  refine ln_iadd hx hb dL_law_1033 ?_
  refine va_sld hx hb hX hbl hbA hS (vp_in_nI (show i + 2 < L by omega) (by omega)) dL_law_1034 ?_
  refine ln_eqi (y := xs (i + 2)) (by rw [nI_clamp (by omega)]) ?_
  refine lz_dia hx hb dL_law_1035 dL_law_1038 dL_law_1039 dL_law_1042 ?_
  refine ln_eqi (y := (nI (zN (xs (i + 2))))) (zI_N _) ?_
  refine fr_Vl (As := [.int (xs (i + 1)), .int (nI (zN (xs (i + 2))))]) (rest := []) (w := w2) (wr := w1) (ci := 12) (k0 := 0) ⟨hx, hb, hml, hown, htsL⟩ (mk_dig l D hM hok he20 hm20 hsz (xs (i + 1)) (nI (zN (xs (i + 2))))) (cwV 2 htsL gL_law_X12_dig rfl rfl rfl (by decide +kernel) ⟨Nat.le_of_ble_eq_true rfl, Nat.le_of_ble_eq_true rfl⟩) rfl hat2 hP hKm hD hS hA rfl hl.1 rfl (Nat.le_of_ble_eq_true rfl) dL_law_1043 ⟨show 100 + i + 0 + 0 ≤ 600000 by omega, show 15000 + 8 * i + 0 + 0 ≤ 7302250 by omega⟩ (fun r2 w3 H locs hq2 hP hD hS => ?_)
  obtain ⟨hr12, a9, kp9, bt9, sz9, sh9, ke9, km9, k1, k2⟩ := jn_dig hok (fun i hi => (hsz i hi).1) hq1 hq2
  refine lv_pop2_2 hx hb dL_law_1046 rfl ?_
  refine lv_goto (tgt := 1345) hx hb dL_law_1047 (by decide) ?_
  exact hend a9 kp9 bt9 sz9 sh9 ke9 km9 w1 w3 _ _ _ _ k1 k2 hP hD hS (by omega) (by omega)
set_option maxHeartbeats 4000000 in
set_option maxRecDepth 100000 in
theorem law_22 (l : Launch) {p : Program} {e : Env} {s : State} {m : MethodId} {below : List Frame} {meth : Method} {c : Code} {b L : Nat} {xs : Nat → Int32} (C0 : lw_At p s m meth c b L xs) {D : va_G} {cy : Nat → ClassId} (hK : va_K D vwCl (cT cy) s) (hN : nst s) (hka : ka (fun q : Nat => s.heap.size ≤ q) s s.heap) {i : Nat} (hi : i + 7 ≤ L) (hL : L ≤ 3584) {d0 : Nat} {ad : Nat → Nat} {a kp bt sz : Nat → Nat} {sheets : Nat → Int32} {ke km : Nat} {w w2 : va_W} (hI : IvD cy d0 a kp bt sz sheets ke km w) (hM : Mdl cy ad a kp bt sz sheets ke km w2) {H : Heap} {locs : List Loc} {ls : Array Slot} (hP : va_P D vwCl (w ++ w2) H) (hD : va_D (fun q : Nat => s.heap.size ≤ q) (w ++ w2)) (hS : va_S (fun q : Nat => s.heap.size ≤ q) s.heap H locs) (hl : lv_has ls 4 [(3, .int (nI i)), (2, .ref (ad 0)), (1, .ref d0), (0, .ref b)]) (hend : ∀ (a kp bt sz : Nat → Nat) (sheets : Nat → Int32) (ke km : Nat) (w w2 : va_W) (H : Heap) (locs : List Loc) (cs sl : Nat), IvD cy d0 a kp bt sz sheets ke km w → Mdl cy ad a kp bt sz sheets ke km w2 → va_P D vwCl (w2 ++ w) H → va_D (fun q : Nat => s.heap.size ≤ q) (w2 ++ w) → va_S (fun q : Nat => s.heap.size ≤ q) s.heap H locs → cs ≤ 107 + i → sl ≤ 15056 + 8 * i → W p l e room_1 s m #[Value.ref b] below meth c H locs cs sl (lw_Z below #[Value.ref b] s) (F0 m 1345 ls [])) : W p l e room_1 s m #[Value.ref b] below meth c H locs (100 + i) (15000 + 8 * i) (lw_Z below #[Value.ref b] s) (F0 m 1050 ls []) := by
  obtain ⟨hx, hb, hr, hml, hown, hts, hX, hbl, hlocks, hgv⟩ := C0
  have htsL : ∀ w ∈ wsL_law, w.before #[Value.ref b] s = true := fun w h => hts w (wsL_law_in w h)
  have hown : s.vm.findClass RL = some m.cls := hown
  have hA : ∀ q : Nat, s.heap.size ≤ q → (fun q : Nat => s.heap.size ≤ q) q := fun _ h => h
  have hbA : ¬ (fun q : Nat => s.heap.size ≤ q) b := Nat.not_le.mpr hbl
  have hKm : va_K D vwCl (mT (cy 0) (cy 1)) s := hK.sub [0, 1] rfl
  obtain ⟨hok, he20, hm20, hsz⟩ := IvD_f hI
  obtain ⟨k0, fs0, hat⟩ := IvD_at hI
  obtain ⟨fs2, hat2⟩ := Mdl_at hM
  refine lv_aload_n hx hb dL_law_1050 rfl (lv_at hl 2 rfl) ?_
  refine lv_aload_n hx hb dL_law_1051 rfl (lv_at hl 3 rfl) ?_
  refine lv_iload_n hx hb dL_law_1052 rfl (lv_at hl 0 rfl) ?_
  refine lv_iconst (v := (nI (1))) hx hb dL_law_1053 (by decide) ?_
  refine ln_iadd hx hb dL_law_1054 ?_
  refine va_sld hx hb hX hbl hbA hS (vp_in_nI (show i + 1 < L by omega) (by omega)) dL_law_1055 ?_
  refine ln_eqi (y := xs (i + 1)) (by rw [nI_clamp (by omega)]) ?_
  refine lv_aload_n hx hb dL_law_1056 rfl (lv_at hl 3 rfl) ?_
  refine lv_iload_n hx hb dL_law_1057 rfl (lv_at hl 0 rfl) ?_
  refine lv_iconst (v := (nI (2))) hx hb dL_law_1058 (by decide) ?_
  refine ln_iadd hx hb dL_law_1059 ?_
  refine va_sld hx hb hX hbl hbA hS (vp_in_nI (show i + 2 < L by omega) (by omega)) dL_law_1060 ?_
  refine ln_eqi (y := xs (i + 2)) (by rw [nI_clamp (by omega)]) ?_
  refine lv_aload_n hx hb dL_law_1061 rfl (lv_at hl 3 rfl) ?_
  refine lv_iload_n hx hb dL_law_1062 rfl (lv_at hl 0 rfl) ?_
  refine lv_iconst (v := (nI (3))) hx hb dL_law_1063 (by decide) ?_
  refine ln_iadd hx hb dL_law_1064 ?_
  refine va_sld hx hb hX hbl hbA hS (vp_in_nI (show i + 3 < L by omega) (by omega)) dL_law_1065 ?_
  refine ln_eqi (y := xs (i + 3)) (by rw [nI_clamp (by omega)]) ?_
  refine kq_Vl (As := [.int (xs (i + 1)), .int (xs (i + 2)), .int (xs (i + 3))]) (rest := []) (w := w) (wr := w2) (ci := 11) (k0 := k0) ⟨hx, hb, hml, hown, htsL⟩ (ia_plan l D hI (xs (i + 1)) (xs (i + 2)) (xs (i + 3))) (cwV 3 htsL gL_law_X11_plan rfl rfl rfl (by decide +kernel) ⟨Nat.le_of_ble_eq_true rfl, Nat.le_of_ble_eq_true rfl⟩) rfl hat hP hK hD hN hka hS hA rfl hl.1 rfl (Nat.le_of_ble_eq_true rfl) dL_law_1066 ⟨show 100 + i + 0 ≤ 600000 by omega, show 15000 + 8 * i + 0 ≤ 7302250 by omega⟩ (fun r1 w1 H locs hq1 hP hD hS => ?_)
  have hP := hP.perm (List.perm_append_comm (l₁ := w1) (l₂ := w2))
  have hD := hD.perm (List.perm_append_comm (l₁ := w1) (l₂ := w2))
  refine lv_pop2_2 hx hb dL_law_1069 rfl ?_
  refine lv_aload_n hx hb dL_law_1070 rfl (lv_at hl 1 rfl) ?_
  refine lv_aload_n hx hb dL_law_1071 rfl (lv_at hl 3 rfl) ?_
  refine lv_iload_n hx hb dL_law_1072 rfl (lv_at hl 0 rfl) ?_
  refine lv_iconst (v := (nI (1))) hx hb dL_law_1073 (by decide) ?_
  refine ln_iadd hx hb dL_law_1074 ?_
  refine va_sld hx hb hX hbl hbA hS (vp_in_nI (show i + 1 < L by omega) (by omega)) dL_law_1075 ?_
  refine ln_eqi (y := xs (i + 1)) (by rw [nI_clamp (by omega)]) ?_
  refine lv_aload_n hx hb dL_law_1076 rfl (lv_at hl 3 rfl) ?_
  refine lv_iload_n hx hb dL_law_1077 rfl (lv_at hl 0 rfl) ?_
  refine lv_iconst (v := (nI (2))) hx hb dL_law_1078 (by decide) ?_
  refine ln_iadd hx hb dL_law_1079 ?_
  refine va_sld hx hb hX hbl hbA hS (vp_in_nI (show i + 2 < L by omega) (by omega)) dL_law_1080 ?_
  refine ln_eqi (y := xs (i + 2)) (by rw [nI_clamp (by omega)]) ?_
  refine lv_aload_n hx hb dL_law_1081 rfl (lv_at hl 3 rfl) ?_
  refine lv_iload_n hx hb dL_law_1082 rfl (lv_at hl 0 rfl) ?_
  refine lv_iconst (v := (nI (3))) hx hb dL_law_1083 (by decide) ?_
  refine ln_iadd hx hb dL_law_1084 ?_
  refine va_sld hx hb hX hbl hbA hS (vp_in_nI (show i + 3 < L by omega) (by omega)) dL_law_1085 ?_
  refine ln_eqi (y := xs (i + 3)) (by rw [nI_clamp (by omega)]) ?_
  refine fr_Vl (As := [.int (xs (i + 1)), .int (xs (i + 2)), .int (xs (i + 3))]) (rest := []) (w := w2) (wr := w1) (ci := 12) (k0 := 0) ⟨hx, hb, hml, hown, htsL⟩ (ma_plan l D hM hok he20 hm20 hsz (xs (i + 1)) (xs (i + 2)) (xs (i + 3))) (cwV 3 htsL gL_law_X12_plan rfl rfl rfl (by decide +kernel) ⟨Nat.le_of_ble_eq_true rfl, Nat.le_of_ble_eq_true rfl⟩) rfl hat2 hP hKm hD hS hA rfl hl.1 rfl (Nat.le_of_ble_eq_true rfl) dL_law_1086 ⟨show 100 + i + 0 + 0 ≤ 600000 by omega, show 15000 + 8 * i + 0 + 0 ≤ 7302250 by omega⟩ (fun r2 w3 H locs hq2 hP hD hS => ?_)
  refine lv_pop2_2 hx hb dL_law_1089 rfl ?_
  refine lv_goto (tgt := 1345) hx hb dL_law_1090 (by decide) ?_
  exact hend a kp bt sz sheets ke km w1 w3 _ _ _ _ hq1 hq2 hP hD hS (by omega) (by omega)
set_option maxHeartbeats 4000000 in
set_option maxRecDepth 100000 in
theorem law_23 (l : Launch) {p : Program} {e : Env} {s : State} {m : MethodId} {below : List Frame} {meth : Method} {c : Code} {b L : Nat} {xs : Nat → Int32} (C0 : lw_At p s m meth c b L xs) {D : va_G} {cy : Nat → ClassId} (hK : va_K D vwCl (cT cy) s) (hN : nst s) (hka : ka (fun q : Nat => s.heap.size ≤ q) s s.heap) {i : Nat} (hi : i + 7 ≤ L) (hL : L ≤ 3584) {d0 : Nat} {ad : Nat → Nat} {a kp bt sz : Nat → Nat} {sheets : Nat → Int32} {ke km : Nat} {w w2 : va_W} (hI : IvD cy d0 a kp bt sz sheets ke km w) (hM : Mdl cy ad a kp bt sz sheets ke km w2) {H : Heap} {locs : List Loc} {ls : Array Slot} (hP : va_P D vwCl (w ++ w2) H) (hD : va_D (fun q : Nat => s.heap.size ≤ q) (w ++ w2)) (hS : va_S (fun q : Nat => s.heap.size ≤ q) s.heap H locs) (hl : lv_has ls 4 [(3, .int (nI i)), (2, .ref (ad 0)), (1, .ref d0), (0, .ref b)]) (hend : ∀ (a kp bt sz : Nat → Nat) (sheets : Nat → Int32) (ke km : Nat) (w w2 : va_W) (H : Heap) (locs : List Loc) (cs sl : Nat), IvD cy d0 a kp bt sz sheets ke km w → Mdl cy ad a kp bt sz sheets ke km w2 → va_P D vwCl (w2 ++ w) H → va_D (fun q : Nat => s.heap.size ≤ q) (w2 ++ w) → va_S (fun q : Nat => s.heap.size ≤ q) s.heap H locs → cs ≤ 107 + i → sl ≤ 15056 + 8 * i → W p l e room_1 s m #[Value.ref b] below meth c H locs cs sl (lw_Z below #[Value.ref b] s) (F0 m 1345 ls [])) : W p l e room_1 s m #[Value.ref b] below meth c H locs (100 + i) (15000 + 8 * i) (lw_Z below #[Value.ref b] s) (F0 m 1093 ls []) := by
  obtain ⟨hx, hb, hr, hml, hown, hts, hX, hbl, hlocks, hgv⟩ := C0
  have htsL : ∀ w ∈ wsL_law, w.before #[Value.ref b] s = true := fun w h => hts w (wsL_law_in w h)
  have hown : s.vm.findClass RL = some m.cls := hown
  have hA : ∀ q : Nat, s.heap.size ≤ q → (fun q : Nat => s.heap.size ≤ q) q := fun _ h => h
  have hbA : ¬ (fun q : Nat => s.heap.size ≤ q) b := Nat.not_le.mpr hbl
  have hKm : va_K D vwCl (mT (cy 0) (cy 1)) s := hK.sub [0, 1] rfl
  obtain ⟨hok, he20, hm20, hsz⟩ := IvD_f hI
  obtain ⟨k0, fs0, hat⟩ := IvD_at hI
  obtain ⟨fs2, hat2⟩ := Mdl_at hM
  refine lv_aload_n hx hb dL_law_1093 rfl (lv_at hl 2 rfl) ?_
  refine lv_aload_n hx hb dL_law_1094 rfl (lv_at hl 3 rfl) ?_
  refine lv_iload_n hx hb dL_law_1095 rfl (lv_at hl 0 rfl) ?_
  refine lv_iconst (v := (nI (1))) hx hb dL_law_1096 (by decide) ?_
  refine ln_iadd hx hb dL_law_1097 ?_
  refine va_sld hx hb hX hbl hbA hS (vp_in_nI (show i + 1 < L by omega) (by omega)) dL_law_1098 ?_
  refine ln_eqi (y := xs (i + 1)) (by rw [nI_clamp (by omega)]) ?_
  refine lv_aload_n hx hb dL_law_1099 rfl (lv_at hl 3 rfl) ?_
  refine lv_iload_n hx hb dL_law_1100 rfl (lv_at hl 0 rfl) ?_
  refine lv_iconst (v := (nI (2))) hx hb dL_law_1101 (by decide) ?_
  refine ln_iadd hx hb dL_law_1102 ?_
  refine va_sld hx hb hX hbl hbA hS (vp_in_nI (show i + 2 < L by omega) (by omega)) dL_law_1103 ?_
  refine ln_eqi (y := xs (i + 2)) (by rw [nI_clamp (by omega)]) ?_
  refine lv_aload_n hx hb dL_law_1104 rfl (lv_at hl 3 rfl) ?_
  refine lv_iload_n hx hb dL_law_1105 rfl (lv_at hl 0 rfl) ?_
  refine lv_iconst (v := (nI (3))) hx hb dL_law_1106 (by decide) ?_
  refine ln_iadd hx hb dL_law_1107 ?_
  refine va_sld hx hb hX hbl hbA hS (vp_in_nI (show i + 3 < L by omega) (by omega)) dL_law_1108 ?_
  refine ln_eqi (y := xs (i + 3)) (by rw [nI_clamp (by omega)]) ?_
  refine kq_Vl (As := [.int (xs (i + 1)), .int (xs (i + 2)), .int (xs (i + 3))]) (rest := []) (w := w) (wr := w2) (ci := 11) (k0 := k0) ⟨hx, hb, hml, hown, htsL⟩ (ia_brings l D hI (xs (i + 1)) (xs (i + 2)) (xs (i + 3))) (cwV 3 htsL gL_law_X11_brings rfl rfl rfl (by decide +kernel) ⟨Nat.le_of_ble_eq_true rfl, Nat.le_of_ble_eq_true rfl⟩) rfl hat hP hK hD hN hka hS hA rfl hl.1 rfl (Nat.le_of_ble_eq_true rfl) dL_law_1109 ⟨show 100 + i + 0 ≤ 600000 by omega, show 15000 + 8 * i + 0 ≤ 7302250 by omega⟩ (fun r1 w1 H locs hq1 hP hD hS => ?_)
  have hP := hP.perm (List.perm_append_comm (l₁ := w1) (l₂ := w2))
  have hD := hD.perm (List.perm_append_comm (l₁ := w1) (l₂ := w2))
  refine lv_pop2_2 hx hb dL_law_1112 rfl ?_
  refine lv_aload_n hx hb dL_law_1113 rfl (lv_at hl 1 rfl) ?_
  refine lv_aload_n hx hb dL_law_1114 rfl (lv_at hl 3 rfl) ?_
  refine lv_iload_n hx hb dL_law_1115 rfl (lv_at hl 0 rfl) ?_
  refine lv_iconst (v := (nI (1))) hx hb dL_law_1116 (by decide) ?_
  refine ln_iadd hx hb dL_law_1117 ?_
  refine va_sld hx hb hX hbl hbA hS (vp_in_nI (show i + 1 < L by omega) (by omega)) dL_law_1118 ?_
  refine ln_eqi (y := xs (i + 1)) (by rw [nI_clamp (by omega)]) ?_
  refine lv_aload_n hx hb dL_law_1119 rfl (lv_at hl 3 rfl) ?_
  refine lv_iload_n hx hb dL_law_1120 rfl (lv_at hl 0 rfl) ?_
  refine lv_iconst (v := (nI (2))) hx hb dL_law_1121 (by decide) ?_
  refine ln_iadd hx hb dL_law_1122 ?_
  refine va_sld hx hb hX hbl hbA hS (vp_in_nI (show i + 2 < L by omega) (by omega)) dL_law_1123 ?_
  refine ln_eqi (y := xs (i + 2)) (by rw [nI_clamp (by omega)]) ?_
  refine lv_aload_n hx hb dL_law_1124 rfl (lv_at hl 3 rfl) ?_
  refine lv_iload_n hx hb dL_law_1125 rfl (lv_at hl 0 rfl) ?_
  refine lv_iconst (v := (nI (3))) hx hb dL_law_1126 (by decide) ?_
  refine ln_iadd hx hb dL_law_1127 ?_
  refine va_sld hx hb hX hbl hbA hS (vp_in_nI (show i + 3 < L by omega) (by omega)) dL_law_1128 ?_
  refine ln_eqi (y := xs (i + 3)) (by rw [nI_clamp (by omega)]) ?_
  refine fr_Vl (As := [.int (xs (i + 1)), .int (xs (i + 2)), .int (xs (i + 3))]) (rest := []) (w := w2) (wr := w1) (ci := 12) (k0 := 0) ⟨hx, hb, hml, hown, htsL⟩ (ma_brings l D hM hok he20 hm20 hsz (xs (i + 1)) (xs (i + 2)) (xs (i + 3))) (cwV 3 htsL gL_law_X12_brings rfl rfl rfl (by decide +kernel) ⟨Nat.le_of_ble_eq_true rfl, Nat.le_of_ble_eq_true rfl⟩) rfl hat2 hP hKm hD hS hA rfl hl.1 rfl (Nat.le_of_ble_eq_true rfl) dL_law_1129 ⟨show 100 + i + 0 + 0 ≤ 600000 by omega, show 15000 + 8 * i + 0 + 0 ≤ 7302250 by omega⟩ (fun r2 w3 H locs hq2 hP hD hS => ?_)
  refine lv_pop2_2 hx hb dL_law_1132 rfl ?_
  refine lv_goto (tgt := 1345) hx hb dL_law_1133 (by decide) ?_
  exact hend a kp bt sz sheets ke km w1 w3 _ _ _ _ hq1 hq2 hP hD hS (by omega) (by omega)
set_option maxHeartbeats 4000000 in
set_option maxRecDepth 100000 in
theorem law_24 (l : Launch) {p : Program} {e : Env} {s : State} {m : MethodId} {below : List Frame} {meth : Method} {c : Code} {b L : Nat} {xs : Nat → Int32} (C0 : lw_At p s m meth c b L xs) {D : va_G} {cy : Nat → ClassId} (hK : va_K D vwCl (cT cy) s) (hN : nst s) (hka : ka (fun q : Nat => s.heap.size ≤ q) s s.heap) {i : Nat} (hi : i + 7 ≤ L) (hL : L ≤ 3584) {d0 : Nat} {ad : Nat → Nat} {a kp bt sz : Nat → Nat} {sheets : Nat → Int32} {ke km : Nat} {w w2 : va_W} (hI : IvD cy d0 a kp bt sz sheets ke km w) (hM : Mdl cy ad a kp bt sz sheets ke km w2) {H : Heap} {locs : List Loc} {ls : Array Slot} (hP : va_P D vwCl (w ++ w2) H) (hD : va_D (fun q : Nat => s.heap.size ≤ q) (w ++ w2)) (hS : va_S (fun q : Nat => s.heap.size ≤ q) s.heap H locs) (hl : lv_has ls 4 [(3, .int (nI i)), (2, .ref (ad 0)), (1, .ref d0), (0, .ref b)]) (hend : ∀ (a kp bt sz : Nat → Nat) (sheets : Nat → Int32) (ke km : Nat) (w w2 : va_W) (H : Heap) (locs : List Loc) (cs sl : Nat), IvD cy d0 a kp bt sz sheets ke km w → Mdl cy ad a kp bt sz sheets ke km w2 → va_P D vwCl (w2 ++ w) H → va_D (fun q : Nat => s.heap.size ≤ q) (w2 ++ w) → va_S (fun q : Nat => s.heap.size ≤ q) s.heap H locs → cs ≤ 107 + i → sl ≤ 15056 + 8 * i → W p l e room_1 s m #[Value.ref b] below meth c H locs cs sl (lw_Z below #[Value.ref b] s) (F0 m 1345 ls [])) : W p l e room_1 s m #[Value.ref b] below meth c H locs (100 + i) (15000 + 8 * i) (lw_Z below #[Value.ref b] s) (F0 m 1136 ls []) := by
  obtain ⟨hx, hb, hr, hml, hown, hts, hX, hbl, hlocks, hgv⟩ := C0
  have htsL : ∀ w ∈ wsL_law, w.before #[Value.ref b] s = true := fun w h => hts w (wsL_law_in w h)
  have hown : s.vm.findClass RL = some m.cls := hown
  have hA : ∀ q : Nat, s.heap.size ≤ q → (fun q : Nat => s.heap.size ≤ q) q := fun _ h => h
  have hbA : ¬ (fun q : Nat => s.heap.size ≤ q) b := Nat.not_le.mpr hbl
  have hKm : va_K D vwCl (mT (cy 0) (cy 1)) s := hK.sub [0, 1] rfl
  obtain ⟨hok, he20, hm20, hsz⟩ := IvD_f hI
  obtain ⟨k0, fs0, hat⟩ := IvD_at hI
  obtain ⟨fs2, hat2⟩ := Mdl_at hM
  refine lv_aload_n hx hb dL_law_1136 rfl (lv_at hl 2 rfl) ?_
  refine lv_aload_n hx hb dL_law_1137 rfl (lv_at hl 3 rfl) ?_
  refine lv_iload_n hx hb dL_law_1138 rfl (lv_at hl 0 rfl) ?_
  refine lv_iconst (v := (nI (1))) hx hb dL_law_1139 (by decide) ?_
  refine ln_iadd hx hb dL_law_1140 ?_
  refine va_sld hx hb hX hbl hbA hS (vp_in_nI (show i + 1 < L by omega) (by omega)) dL_law_1141 ?_
  refine ln_eqi (y := xs (i + 1)) (by rw [nI_clamp (by omega)]) ?_
  refine lv_aload_n hx hb dL_law_1142 rfl (lv_at hl 3 rfl) ?_
  refine lv_iload_n hx hb dL_law_1143 rfl (lv_at hl 0 rfl) ?_
  refine lv_iconst (v := (nI (2))) hx hb dL_law_1144 (by decide) ?_
  refine ln_iadd hx hb dL_law_1145 ?_
  refine va_sld hx hb hX hbl hbA hS (vp_in_nI (show i + 2 < L by omega) (by omega)) dL_law_1146 ?_
  refine ln_eqi (y := xs (i + 2)) (by rw [nI_clamp (by omega)]) ?_
  refine lv_aload_n hx hb dL_law_1147 rfl (lv_at hl 3 rfl) ?_
  refine lv_iload_n hx hb dL_law_1148 rfl (lv_at hl 0 rfl) ?_
  refine lv_iconst (v := (nI (3))) hx hb dL_law_1149 (by decide) ?_
  refine ln_iadd hx hb dL_law_1150 ?_
  refine va_sld hx hb hX hbl hbA hS (vp_in_nI (show i + 3 < L by omega) (by omega)) dL_law_1151 ?_
  refine ln_eqi (y := xs (i + 3)) (by rw [nI_clamp (by omega)]) ?_
  refine kq_Vl (As := [.int (xs (i + 1)), .int (xs (i + 2)), .int (xs (i + 3))]) (rest := []) (w := w) (wr := w2) (ci := 11) (k0 := k0) ⟨hx, hb, hml, hown, htsL⟩ (ik_sheet l D hI (xs (i + 1)) (xs (i + 2)) (xs (i + 3))) (cwV 3 htsL gL_law_X11_sheet rfl rfl rfl (by decide +kernel) ⟨Nat.le_of_ble_eq_true rfl, Nat.le_of_ble_eq_true rfl⟩) rfl hat hP hK hD hN hka hS hA rfl hl.1 rfl (Nat.le_of_ble_eq_true rfl) dL_law_1152 ⟨show 100 + i + 0 ≤ 600000 by omega, show 15000 + 8 * i + 0 ≤ 7302250 by omega⟩ (fun r1 w1 H locs hq1 hP hD hS => ?_)
  have hP := hP.perm (List.perm_append_comm (l₁ := w1) (l₂ := w2))
  have hD := hD.perm (List.perm_append_comm (l₁ := w1) (l₂ := w2))
  refine lv_pop2_2 hx hb dL_law_1155 rfl ?_
  refine lv_aload_n hx hb dL_law_1156 rfl (lv_at hl 1 rfl) ?_
  refine lv_aload_n hx hb dL_law_1157 rfl (lv_at hl 3 rfl) ?_
  refine lv_iload_n hx hb dL_law_1158 rfl (lv_at hl 0 rfl) ?_
  refine lv_iconst (v := (nI (1))) hx hb dL_law_1159 (by decide) ?_
  refine ln_iadd hx hb dL_law_1160 ?_
  refine va_sld hx hb hX hbl hbA hS (vp_in_nI (show i + 1 < L by omega) (by omega)) dL_law_1161 ?_
  refine ln_eqi (y := xs (i + 1)) (by rw [nI_clamp (by omega)]) ?_
  refine lv_aload_n hx hb dL_law_1162 rfl (lv_at hl 3 rfl) ?_
  refine lv_iload_n hx hb dL_law_1163 rfl (lv_at hl 0 rfl) ?_
  refine lv_iconst (v := (nI (2))) hx hb dL_law_1164 (by decide) ?_
  refine ln_iadd hx hb dL_law_1165 ?_
  refine va_sld hx hb hX hbl hbA hS (vp_in_nI (show i + 2 < L by omega) (by omega)) dL_law_1166 ?_
  refine ln_eqi (y := xs (i + 2)) (by rw [nI_clamp (by omega)]) ?_
  refine lv_aload_n hx hb dL_law_1167 rfl (lv_at hl 3 rfl) ?_
  refine lv_iload_n hx hb dL_law_1168 rfl (lv_at hl 0 rfl) ?_
  refine lv_iconst (v := (nI (3))) hx hb dL_law_1169 (by decide) ?_
  refine ln_iadd hx hb dL_law_1170 ?_
  refine va_sld hx hb hX hbl hbA hS (vp_in_nI (show i + 3 < L by omega) (by omega)) dL_law_1171 ?_
  refine ln_eqi (y := xs (i + 3)) (by rw [nI_clamp (by omega)]) ?_
  refine fr_Vl (As := [.int (xs (i + 1)), .int (xs (i + 2)), .int (xs (i + 3))]) (rest := []) (w := w2) (wr := w1) (ci := 12) (k0 := 0) ⟨hx, hb, hml, hown, htsL⟩ (mk_sheet l D hM hok he20 hm20 hsz (xs (i + 1)) (xs (i + 2)) (xs (i + 3))) (cwV 3 htsL gL_law_X12_sheet rfl rfl rfl (by decide +kernel) ⟨Nat.le_of_ble_eq_true rfl, Nat.le_of_ble_eq_true rfl⟩) rfl hat2 hP hKm hD hS hA rfl hl.1 rfl (Nat.le_of_ble_eq_true rfl) dL_law_1172 ⟨show 100 + i + 0 + 0 ≤ 600000 by omega, show 15000 + 8 * i + 0 + 0 ≤ 7302250 by omega⟩ (fun r2 w3 H locs hq2 hP hD hS => ?_)
  obtain ⟨hr12, a9, kp9, bt9, sz9, sh9, ke9, km9, k1, k2⟩ := jn_sheet hok (fun i hi => (hsz i hi).1) hq1 hq2
  refine lv_pop2_2 hx hb dL_law_1175 rfl ?_
  refine lv_goto (tgt := 1345) hx hb dL_law_1176 (by decide) ?_
  exact hend a9 kp9 bt9 sz9 sh9 ke9 km9 w1 w3 _ _ _ _ k1 k2 hP hD hS (by omega) (by omega)
set_option maxHeartbeats 4000000 in
set_option maxRecDepth 100000 in
theorem law_25 (l : Launch) {p : Program} {e : Env} {s : State} {m : MethodId} {below : List Frame} {meth : Method} {c : Code} {b L : Nat} {xs : Nat → Int32} (C0 : lw_At p s m meth c b L xs) {D : va_G} {cy : Nat → ClassId} (hK : va_K D vwCl (cT cy) s) (hN : nst s) (hka : ka (fun q : Nat => s.heap.size ≤ q) s s.heap) {i : Nat} (hi : i + 7 ≤ L) (hL : L ≤ 3584) {d0 : Nat} {ad : Nat → Nat} {a kp bt sz : Nat → Nat} {sheets : Nat → Int32} {ke km : Nat} {w w2 : va_W} (hI : IvD cy d0 a kp bt sz sheets ke km w) (hM : Mdl cy ad a kp bt sz sheets ke km w2) {H : Heap} {locs : List Loc} {ls : Array Slot} (hP : va_P D vwCl (w ++ w2) H) (hD : va_D (fun q : Nat => s.heap.size ≤ q) (w ++ w2)) (hS : va_S (fun q : Nat => s.heap.size ≤ q) s.heap H locs) (hl : lv_has ls 4 [(3, .int (nI i)), (2, .ref (ad 0)), (1, .ref d0), (0, .ref b)]) (hend : ∀ (a kp bt sz : Nat → Nat) (sheets : Nat → Int32) (ke km : Nat) (w w2 : va_W) (H : Heap) (locs : List Loc) (cs sl : Nat), IvD cy d0 a kp bt sz sheets ke km w → Mdl cy ad a kp bt sz sheets ke km w2 → va_P D vwCl (w2 ++ w) H → va_D (fun q : Nat => s.heap.size ≤ q) (w2 ++ w) → va_S (fun q : Nat => s.heap.size ≤ q) s.heap H locs → cs ≤ 107 + i → sl ≤ 15056 + 8 * i → W p l e room_1 s m #[Value.ref b] below meth c H locs cs sl (lw_Z below #[Value.ref b] s) (F0 m 1345 ls [])) : W p l e room_1 s m #[Value.ref b] below meth c H locs (100 + i) (15000 + 8 * i) (lw_Z below #[Value.ref b] s) (F0 m 1179 ls []) := by
  obtain ⟨hx, hb, hr, hml, hown, hts, hX, hbl, hlocks, hgv⟩ := C0
  have htsL : ∀ w ∈ wsL_law, w.before #[Value.ref b] s = true := fun w h => hts w (wsL_law_in w h)
  have hown : s.vm.findClass RL = some m.cls := hown
  have hA : ∀ q : Nat, s.heap.size ≤ q → (fun q : Nat => s.heap.size ≤ q) q := fun _ h => h
  have hbA : ¬ (fun q : Nat => s.heap.size ≤ q) b := Nat.not_le.mpr hbl
  have hKm : va_K D vwCl (mT (cy 0) (cy 1)) s := hK.sub [0, 1] rfl
  obtain ⟨hok, he20, hm20, hsz⟩ := IvD_f hI
  obtain ⟨k0, fs0, hat⟩ := IvD_at hI
  obtain ⟨fs2, hat2⟩ := Mdl_at hM
  refine lv_aload_n hx hb dL_law_1179 rfl (lv_at hl 2 rfl) ?_
  refine lv_aload_n hx hb dL_law_1180 rfl (lv_at hl 3 rfl) ?_
  refine lv_iload_n hx hb dL_law_1181 rfl (lv_at hl 0 rfl) ?_
  refine lv_iconst (v := (nI (1))) hx hb dL_law_1182 (by decide) ?_
  refine ln_iadd hx hb dL_law_1183 ?_
  refine va_sld hx hb hX hbl hbA hS (vp_in_nI (show i + 1 < L by omega) (by omega)) dL_law_1184 ?_
  refine ln_eqi (y := xs (i + 1)) (by rw [nI_clamp (by omega)]) ?_
  refine lv_aload_n hx hb dL_law_1185 rfl (lv_at hl 3 rfl) ?_
  refine lv_iload_n hx hb dL_law_1186 rfl (lv_at hl 0 rfl) ?_
  refine lv_iconst (v := (nI (2))) hx hb dL_law_1187 (by decide) ?_
  refine ln_iadd hx hb dL_law_1188 ?_
  refine va_sld hx hb hX hbl hbA hS (vp_in_nI (show i + 2 < L by omega) (by omega)) dL_law_1189 ?_
  refine ln_eqi (y := xs (i + 2)) (by rw [nI_clamp (by omega)]) ?_
  refine lv_aload_n hx hb dL_law_1190 rfl (lv_at hl 3 rfl) ?_
  refine lv_iload_n hx hb dL_law_1191 rfl (lv_at hl 0 rfl) ?_
  refine lv_iconst (v := (nI (3))) hx hb dL_law_1192 (by decide) ?_
  refine ln_iadd hx hb dL_law_1193 ?_
  refine va_sld hx hb hX hbl hbA hS (vp_in_nI (show i + 3 < L by omega) (by omega)) dL_law_1194 ?_
  refine ln_eqi (y := xs (i + 3)) (by rw [nI_clamp (by omega)]) ?_
  refine kq_Vl (As := [.int (xs (i + 1)), .int (xs (i + 2)), .int (xs (i + 3))]) (rest := []) (w := w) (wr := w2) (ci := 11) (k0 := k0) ⟨hx, hb, hml, hown, htsL⟩ (ik_put l D hI (xs (i + 1)) (xs (i + 2)) (xs (i + 3))) (cwV 3 htsL gL_law_X11_put rfl rfl rfl (by decide +kernel) ⟨Nat.le_of_ble_eq_true rfl, Nat.le_of_ble_eq_true rfl⟩) rfl hat hP hK hD hN hka hS hA rfl hl.1 rfl (Nat.le_of_ble_eq_true rfl) dL_law_1195 ⟨show 100 + i + 0 ≤ 600000 by omega, show 15000 + 8 * i + 0 ≤ 7302250 by omega⟩ (fun r1 w1 H locs hq1 hP hD hS => ?_)
  have hP := hP.perm (List.perm_append_comm (l₁ := w1) (l₂ := w2))
  have hD := hD.perm (List.perm_append_comm (l₁ := w1) (l₂ := w2))
  refine lv_pop2_2 hx hb dL_law_1198 rfl ?_
  refine lv_aload_n hx hb dL_law_1199 rfl (lv_at hl 1 rfl) ?_
  refine lv_aload_n hx hb dL_law_1200 rfl (lv_at hl 3 rfl) ?_
  refine lv_iload_n hx hb dL_law_1201 rfl (lv_at hl 0 rfl) ?_
  refine lv_iconst (v := (nI (1))) hx hb dL_law_1202 (by decide) ?_
  refine ln_iadd hx hb dL_law_1203 ?_
  refine va_sld hx hb hX hbl hbA hS (vp_in_nI (show i + 1 < L by omega) (by omega)) dL_law_1204 ?_
  refine ln_eqi (y := xs (i + 1)) (by rw [nI_clamp (by omega)]) ?_
  refine lv_aload_n hx hb dL_law_1205 rfl (lv_at hl 3 rfl) ?_
  refine lv_iload_n hx hb dL_law_1206 rfl (lv_at hl 0 rfl) ?_
  refine lv_iconst (v := (nI (2))) hx hb dL_law_1207 (by decide) ?_
  refine ln_iadd hx hb dL_law_1208 ?_
  refine va_sld hx hb hX hbl hbA hS (vp_in_nI (show i + 2 < L by omega) (by omega)) dL_law_1209 ?_
  refine ln_eqi (y := xs (i + 2)) (by rw [nI_clamp (by omega)]) ?_
  refine lv_aload_n hx hb dL_law_1210 rfl (lv_at hl 3 rfl) ?_
  refine lv_iload_n hx hb dL_law_1211 rfl (lv_at hl 0 rfl) ?_
  refine lv_iconst (v := (nI (3))) hx hb dL_law_1212 (by decide) ?_
  refine ln_iadd hx hb dL_law_1213 ?_
  refine va_sld hx hb hX hbl hbA hS (vp_in_nI (show i + 3 < L by omega) (by omega)) dL_law_1214 ?_
  refine ln_eqi (y := xs (i + 3)) (by rw [nI_clamp (by omega)]) ?_
  refine fr_Vl (As := [.int (xs (i + 1)), .int (xs (i + 2)), .int (xs (i + 3))]) (rest := []) (w := w2) (wr := w1) (ci := 12) (k0 := 0) ⟨hx, hb, hml, hown, htsL⟩ (mk_put l D hM hok he20 hm20 hsz (xs (i + 1)) (xs (i + 2)) (xs (i + 3))) (cwV 3 htsL gL_law_X12_put rfl rfl rfl (by decide +kernel) ⟨Nat.le_of_ble_eq_true rfl, Nat.le_of_ble_eq_true rfl⟩) rfl hat2 hP hKm hD hS hA rfl hl.1 rfl (Nat.le_of_ble_eq_true rfl) dL_law_1215 ⟨show 100 + i + 0 + 0 ≤ 600000 by omega, show 15000 + 8 * i + 0 + 0 ≤ 7302250 by omega⟩ (fun r2 w3 H locs hq2 hP hD hS => ?_)
  obtain ⟨hr12, a9, kp9, bt9, sz9, sh9, ke9, km9, k1, k2⟩ := jn_put hok (fun i hi => (hsz i hi).1) hq1 hq2
  refine lv_pop2_2 hx hb dL_law_1218 rfl ?_
  refine lv_goto (tgt := 1345) hx hb dL_law_1219 (by decide) ?_
  exact hend a9 kp9 bt9 sz9 sh9 ke9 km9 w1 w3 _ _ _ _ k1 k2 hP hD hS (by omega) (by omega)
set_option maxHeartbeats 4000000 in
set_option maxRecDepth 100000 in
theorem law_26 (l : Launch) {p : Program} {e : Env} {s : State} {m : MethodId} {below : List Frame} {meth : Method} {c : Code} {b L : Nat} {xs : Nat → Int32} (C0 : lw_At p s m meth c b L xs) {D : va_G} {cy : Nat → ClassId} (hK : va_K D vwCl (cT cy) s) (hN : nst s) (hka : ka (fun q : Nat => s.heap.size ≤ q) s s.heap) {i : Nat} (hi : i + 7 ≤ L) (hL : L ≤ 3584) {d0 : Nat} {ad : Nat → Nat} {a kp bt sz : Nat → Nat} {sheets : Nat → Int32} {ke km : Nat} {w w2 : va_W} (hI : IvD cy d0 a kp bt sz sheets ke km w) (hM : Mdl cy ad a kp bt sz sheets ke km w2) {H : Heap} {locs : List Loc} {ls : Array Slot} (hP : va_P D vwCl (w ++ w2) H) (hD : va_D (fun q : Nat => s.heap.size ≤ q) (w ++ w2)) (hS : va_S (fun q : Nat => s.heap.size ≤ q) s.heap H locs) (hl : lv_has ls 4 [(3, .int (nI i)), (2, .ref (ad 0)), (1, .ref d0), (0, .ref b)]) (hend : ∀ (a kp bt sz : Nat → Nat) (sheets : Nat → Int32) (ke km : Nat) (w w2 : va_W) (H : Heap) (locs : List Loc) (cs sl : Nat), IvD cy d0 a kp bt sz sheets ke km w → Mdl cy ad a kp bt sz sheets ke km w2 → va_P D vwCl (w2 ++ w) H → va_D (fun q : Nat => s.heap.size ≤ q) (w2 ++ w) → va_S (fun q : Nat => s.heap.size ≤ q) s.heap H locs → cs ≤ 107 + i → sl ≤ 15056 + 8 * i → W p l e room_1 s m #[Value.ref b] below meth c H locs cs sl (lw_Z below #[Value.ref b] s) (F0 m 1345 ls [])) : W p l e room_1 s m #[Value.ref b] below meth c H locs (100 + i) (15000 + 8 * i) (lw_Z below #[Value.ref b] s) (F0 m 1222 ls []) := by
  obtain ⟨hx, hb, hr, hml, hown, hts, hX, hbl, hlocks, hgv⟩ := C0
  have htsL : ∀ w ∈ wsL_law, w.before #[Value.ref b] s = true := fun w h => hts w (wsL_law_in w h)
  have hown : s.vm.findClass RL = some m.cls := hown
  have hA : ∀ q : Nat, s.heap.size ≤ q → (fun q : Nat => s.heap.size ≤ q) q := fun _ h => h
  have hbA : ¬ (fun q : Nat => s.heap.size ≤ q) b := Nat.not_le.mpr hbl
  have hKm : va_K D vwCl (mT (cy 0) (cy 1)) s := hK.sub [0, 1] rfl
  obtain ⟨hok, he20, hm20, hsz⟩ := IvD_f hI
  obtain ⟨k0, fs0, hat⟩ := IvD_at hI
  obtain ⟨fs2, hat2⟩ := Mdl_at hM
  refine lv_aload_n hx hb dL_law_1222 rfl (lv_at hl 2 rfl) ?_
  refine lv_aload_n hx hb dL_law_1223 rfl (lv_at hl 3 rfl) ?_
  refine lv_iload_n hx hb dL_law_1224 rfl (lv_at hl 0 rfl) ?_
  refine lv_iconst (v := (nI (1))) hx hb dL_law_1225 (by decide) ?_
  refine ln_iadd hx hb dL_law_1226 ?_
  refine va_sld hx hb hX hbl hbA hS (vp_in_nI (show i + 1 < L by omega) (by omega)) dL_law_1227 ?_
  refine ln_eqi (y := xs (i + 1)) (by rw [nI_clamp (by omega)]) ?_
  refine lv_aload_n hx hb dL_law_1228 rfl (lv_at hl 3 rfl) ?_
  refine lv_iload_n hx hb dL_law_1229 rfl (lv_at hl 0 rfl) ?_
  refine lv_iconst (v := (nI (2))) hx hb dL_law_1230 (by decide) ?_
  refine ln_iadd hx hb dL_law_1231 ?_
  refine va_sld hx hb hX hbl hbA hS (vp_in_nI (show i + 2 < L by omega) (by omega)) dL_law_1232 ?_
  refine ln_eqi (y := xs (i + 2)) (by rw [nI_clamp (by omega)]) ?_
  refine lv_aload_n hx hb dL_law_1233 rfl (lv_at hl 3 rfl) ?_
  refine lv_iload_n hx hb dL_law_1234 rfl (lv_at hl 0 rfl) ?_
  refine lv_iconst (v := (nI (3))) hx hb dL_law_1235 (by decide) ?_
  refine ln_iadd hx hb dL_law_1236 ?_
  refine va_sld hx hb hX hbl hbA hS (vp_in_nI (show i + 3 < L by omega) (by omega)) dL_law_1237 ?_
  refine ln_eqi (y := xs (i + 3)) (by rw [nI_clamp (by omega)]) ?_
  refine lv_aload_n hx hb dL_law_1238 rfl (lv_at hl 3 rfl) ?_
  refine lv_iload_n hx hb dL_law_1239 rfl (lv_at hl 0 rfl) ?_
  refine lv_iconst (v := (nI (4))) hx hb dL_law_1240 (by decide) ?_
  refine ln_iadd hx hb dL_law_1241 ?_
  refine va_sld hx hb hX hbl hbA hS (vp_in_nI (show i + 4 < L by omega) (by omega)) dL_law_1242 ?_
  refine ln_eqi (y := xs (i + 4)) (by rw [nI_clamp (by omega)]) ?_
  refine lv_aload_n hx hb dL_law_1243 rfl (lv_at hl 3 rfl) ?_
  refine lv_iload_n hx hb dL_law_1244 rfl (lv_at hl 0 rfl) ?_
  refine lv_iconst (v := (nI (5))) hx hb dL_law_1245 (by decide) ?_
  refine ln_iadd hx hb dL_law_1246 ?_
  refine va_sld hx hb hX hbl hbA hS (vp_in_nI (show i + 5 < L by omega) (by omega)) dL_law_1247 ?_
  refine ln_eqi (y := xs (i + 5)) (by rw [nI_clamp (by omega)]) ?_
  refine kq_Vl (As := [.int (xs (i + 1)), .int (xs (i + 2)), .int (xs (i + 3)), .int (xs (i + 4)), .int (xs (i + 5))]) (rest := []) (w := w) (wr := w2) (ci := 11) (k0 := k0) ⟨hx, hb, hml, hown, htsL⟩ (ik_copy l D hI (xs (i + 1)) (xs (i + 2)) (xs (i + 3)) (xs (i + 4)) (xs (i + 5))) (cwV 5 htsL gL_law_X11_copy rfl rfl rfl (by decide +kernel) ⟨Nat.le_of_ble_eq_true rfl, Nat.le_of_ble_eq_true rfl⟩) rfl hat hP hK hD hN hka hS hA rfl hl.1 rfl (Nat.le_of_ble_eq_true rfl) dL_law_1248 ⟨show 100 + i + 0 ≤ 600000 by omega, show 15000 + 8 * i + 0 ≤ 7302250 by omega⟩ (fun r1 w1 H locs hq1 hP hD hS => ?_)
  have hP := hP.perm (List.perm_append_comm (l₁ := w1) (l₂ := w2))
  have hD := hD.perm (List.perm_append_comm (l₁ := w1) (l₂ := w2))
  refine lv_pop2_2 hx hb dL_law_1251 rfl ?_
  refine lv_aload_n hx hb dL_law_1252 rfl (lv_at hl 1 rfl) ?_
  refine lv_aload_n hx hb dL_law_1253 rfl (lv_at hl 3 rfl) ?_
  refine lv_iload_n hx hb dL_law_1254 rfl (lv_at hl 0 rfl) ?_
  refine lv_iconst (v := (nI (1))) hx hb dL_law_1255 (by decide) ?_
  refine ln_iadd hx hb dL_law_1256 ?_
  refine va_sld hx hb hX hbl hbA hS (vp_in_nI (show i + 1 < L by omega) (by omega)) dL_law_1257 ?_
  refine ln_eqi (y := xs (i + 1)) (by rw [nI_clamp (by omega)]) ?_
  refine lv_aload_n hx hb dL_law_1258 rfl (lv_at hl 3 rfl) ?_
  refine lv_iload_n hx hb dL_law_1259 rfl (lv_at hl 0 rfl) ?_
  refine lv_iconst (v := (nI (2))) hx hb dL_law_1260 (by decide) ?_
  refine ln_iadd hx hb dL_law_1261 ?_
  refine va_sld hx hb hX hbl hbA hS (vp_in_nI (show i + 2 < L by omega) (by omega)) dL_law_1262 ?_
  refine ln_eqi (y := xs (i + 2)) (by rw [nI_clamp (by omega)]) ?_
  refine lv_aload_n hx hb dL_law_1263 rfl (lv_at hl 3 rfl) ?_
  refine lv_iload_n hx hb dL_law_1264 rfl (lv_at hl 0 rfl) ?_
  refine lv_iconst (v := (nI (3))) hx hb dL_law_1265 (by decide) ?_
  refine ln_iadd hx hb dL_law_1266 ?_
  refine va_sld hx hb hX hbl hbA hS (vp_in_nI (show i + 3 < L by omega) (by omega)) dL_law_1267 ?_
  refine ln_eqi (y := xs (i + 3)) (by rw [nI_clamp (by omega)]) ?_
  refine lv_aload_n hx hb dL_law_1268 rfl (lv_at hl 3 rfl) ?_
  refine lv_iload_n hx hb dL_law_1269 rfl (lv_at hl 0 rfl) ?_
  refine lv_iconst (v := (nI (4))) hx hb dL_law_1270 (by decide) ?_
  refine ln_iadd hx hb dL_law_1271 ?_
  refine va_sld hx hb hX hbl hbA hS (vp_in_nI (show i + 4 < L by omega) (by omega)) dL_law_1272 ?_
  refine ln_eqi (y := xs (i + 4)) (by rw [nI_clamp (by omega)]) ?_
  refine lv_aload_n hx hb dL_law_1273 rfl (lv_at hl 3 rfl) ?_
  refine lv_iload_n hx hb dL_law_1274 rfl (lv_at hl 0 rfl) ?_
  refine lv_iconst (v := (nI (5))) hx hb dL_law_1275 (by decide) ?_
  refine ln_iadd hx hb dL_law_1276 ?_
  refine va_sld hx hb hX hbl hbA hS (vp_in_nI (show i + 5 < L by omega) (by omega)) dL_law_1277 ?_
  refine ln_eqi (y := xs (i + 5)) (by rw [nI_clamp (by omega)]) ?_
  refine fr_Vl (As := [.int (xs (i + 1)), .int (xs (i + 2)), .int (xs (i + 3)), .int (xs (i + 4)), .int (xs (i + 5))]) (rest := []) (w := w2) (wr := w1) (ci := 12) (k0 := 0) ⟨hx, hb, hml, hown, htsL⟩ (mk_copy l D hM hok he20 hm20 hsz (xs (i + 1)) (xs (i + 2)) (xs (i + 3)) (xs (i + 4)) (xs (i + 5))) (cwV 5 htsL gL_law_X12_copy rfl rfl rfl (by decide +kernel) ⟨Nat.le_of_ble_eq_true rfl, Nat.le_of_ble_eq_true rfl⟩) rfl hat2 hP hKm hD hS hA rfl hl.1 rfl (Nat.le_of_ble_eq_true rfl) dL_law_1278 ⟨show 100 + i + 0 + 0 ≤ 600000 by omega, show 15000 + 8 * i + 0 + 0 ≤ 7302250 by omega⟩ (fun r2 w3 H locs hq2 hP hD hS => ?_)
  obtain ⟨hr12, a9, kp9, bt9, sz9, sh9, ke9, km9, k1, k2⟩ := jn_copy hok (fun i hi => (hsz i hi).1) hq1 hq2
  refine lv_pop2_2 hx hb dL_law_1281 rfl ?_
  refine lv_goto (tgt := 1345) hx hb dL_law_1282 (by decide) ?_
  exact hend a9 kp9 bt9 sz9 sh9 ke9 km9 w1 w3 _ _ _ _ k1 k2 hP hD hS (by omega) (by omega)
set_option maxHeartbeats 4000000 in
set_option maxRecDepth 100000 in
theorem law_27 (l : Launch) {p : Program} {e : Env} {s : State} {m : MethodId} {below : List Frame} {meth : Method} {c : Code} {b L : Nat} {xs : Nat → Int32} (C0 : lw_At p s m meth c b L xs) {D : va_G} {cy : Nat → ClassId} (hK : va_K D vwCl (cT cy) s) (hN : nst s) (hka : ka (fun q : Nat => s.heap.size ≤ q) s s.heap) {i : Nat} (hi : i + 7 ≤ L) (hL : L ≤ 3584) {d0 : Nat} {ad : Nat → Nat} {a kp bt sz : Nat → Nat} {sheets : Nat → Int32} {ke km : Nat} {w w2 : va_W} (hI : IvD cy d0 a kp bt sz sheets ke km w) (hM : Mdl cy ad a kp bt sz sheets ke km w2) {H : Heap} {locs : List Loc} {ls : Array Slot} (hP : va_P D vwCl (w ++ w2) H) (hD : va_D (fun q : Nat => s.heap.size ≤ q) (w ++ w2)) (hS : va_S (fun q : Nat => s.heap.size ≤ q) s.heap H locs) (hl : lv_has ls 4 [(3, .int (nI i)), (2, .ref (ad 0)), (1, .ref d0), (0, .ref b)]) (hend : ∀ (a kp bt sz : Nat → Nat) (sheets : Nat → Int32) (ke km : Nat) (w w2 : va_W) (H : Heap) (locs : List Loc) (cs sl : Nat), IvD cy d0 a kp bt sz sheets ke km w → Mdl cy ad a kp bt sz sheets ke km w2 → va_P D vwCl (w2 ++ w) H → va_D (fun q : Nat => s.heap.size ≤ q) (w2 ++ w) → va_S (fun q : Nat => s.heap.size ≤ q) s.heap H locs → cs ≤ 107 + i → sl ≤ 15056 + 8 * i → W p l e room_1 s m #[Value.ref b] below meth c H locs cs sl (lw_Z below #[Value.ref b] s) (F0 m 1345 ls [])) : W p l e room_1 s m #[Value.ref b] below meth c H locs (100 + i) (15000 + 8 * i) (lw_Z below #[Value.ref b] s) (F0 m 1285 ls []) := by
  obtain ⟨hx, hb, hr, hml, hown, hts, hX, hbl, hlocks, hgv⟩ := C0
  have htsL : ∀ w ∈ wsL_law, w.before #[Value.ref b] s = true := fun w h => hts w (wsL_law_in w h)
  have hown : s.vm.findClass RL = some m.cls := hown
  have hA : ∀ q : Nat, s.heap.size ≤ q → (fun q : Nat => s.heap.size ≤ q) q := fun _ h => h
  have hbA : ¬ (fun q : Nat => s.heap.size ≤ q) b := Nat.not_le.mpr hbl
  have hKm : va_K D vwCl (mT (cy 0) (cy 1)) s := hK.sub [0, 1] rfl
  obtain ⟨hok, he20, hm20, hsz⟩ := IvD_f hI
  obtain ⟨k0, fs0, hat⟩ := IvD_at hI
  obtain ⟨fs2, hat2⟩ := Mdl_at hM
  refine lv_aload_n hx hb dL_law_1285 rfl (lv_at hl 2 rfl) ?_
  refine lv_aload_n hx hb dL_law_1286 rfl (lv_at hl 3 rfl) ?_
  refine lv_iload_n hx hb dL_law_1287 rfl (lv_at hl 0 rfl) ?_
  refine lv_iconst (v := (nI (1))) hx hb dL_law_1288 (by decide) ?_
  refine ln_iadd hx hb dL_law_1289 ?_
  refine va_sld hx hb hX hbl hbA hS (vp_in_nI (show i + 1 < L by omega) (by omega)) dL_law_1290 ?_
  refine ln_eqi (y := xs (i + 1)) (by rw [nI_clamp (by omega)]) ?_
  refine kq_Vl (As := [.int (xs (i + 1))]) (rest := []) (w := w) (wr := w2) (ci := 11) (k0 := k0) ⟨hx, hb, hml, hown, htsL⟩ (ik_text l D hI (xs (i + 1))) (cwV 1 htsL gL_law_X11_text rfl rfl rfl (by decide +kernel) ⟨Nat.le_of_ble_eq_true rfl, Nat.le_of_ble_eq_true rfl⟩) rfl hat hP hK hD hN hka hS hA rfl hl.1 rfl (Nat.le_of_ble_eq_true rfl) dL_law_1291 ⟨show 100 + i + 0 ≤ 600000 by omega, show 15000 + 8 * i + 0 ≤ 7302250 by omega⟩ (fun r1 w1 H locs hq1 hP hD hS => ?_)
  have hP := hP.perm (List.perm_append_comm (l₁ := w1) (l₂ := w2))
  have hD := hD.perm (List.perm_append_comm (l₁ := w1) (l₂ := w2))
  refine lv_pop2_2 hx hb dL_law_1294 rfl ?_
  refine lv_aload_n hx hb dL_law_1295 rfl (lv_at hl 1 rfl) ?_
  refine lv_aload_n hx hb dL_law_1296 rfl (lv_at hl 3 rfl) ?_
  refine lv_iload_n hx hb dL_law_1297 rfl (lv_at hl 0 rfl) ?_
  refine lv_iconst (v := (nI (1))) hx hb dL_law_1298 (by decide) ?_
  refine ln_iadd hx hb dL_law_1299 ?_
  refine va_sld hx hb hX hbl hbA hS (vp_in_nI (show i + 1 < L by omega) (by omega)) dL_law_1300 ?_
  refine ln_eqi (y := xs (i + 1)) (by rw [nI_clamp (by omega)]) ?_
  refine fr_Vl (As := [.int (xs (i + 1))]) (rest := []) (w := w2) (wr := w1) (ci := 12) (k0 := 0) ⟨hx, hb, hml, hown, htsL⟩ (mk_text l D hM hok he20 hm20 hsz (xs (i + 1))) (cwV 1 htsL gL_law_X12_text rfl rfl rfl (by decide +kernel) ⟨Nat.le_of_ble_eq_true rfl, Nat.le_of_ble_eq_true rfl⟩) rfl hat2 hP hKm hD hS hA rfl hl.1 rfl (Nat.le_of_ble_eq_true rfl) dL_law_1301 ⟨show 100 + i + 0 + 0 ≤ 600000 by omega, show 15000 + 8 * i + 0 + 0 ≤ 7302250 by omega⟩ (fun r2 w3 H locs hq2 hP hD hS => ?_)
  obtain ⟨hr12, a9, kp9, bt9, sz9, sh9, ke9, km9, k1, k2⟩ := jn_text hok (fun i hi => (hsz i hi).1) hq1 hq2
  refine lv_pop2_2 hx hb dL_law_1304 rfl ?_
  refine lv_goto (tgt := 1345) hx hb dL_law_1305 (by decide) ?_
  exact hend a9 kp9 bt9 sz9 sh9 ke9 km9 w1 w3 _ _ _ _ k1 k2 hP hD hS (by omega) (by omega)
set_option maxHeartbeats 4000000 in
set_option maxRecDepth 100000 in
theorem law_28 (l : Launch) {p : Program} {e : Env} {s : State} {m : MethodId} {below : List Frame} {meth : Method} {c : Code} {b L : Nat} {xs : Nat → Int32} (C0 : lw_At p s m meth c b L xs) {D : va_G} {cy : Nat → ClassId} (hK : va_K D vwCl (cT cy) s) (hN : nst s) (hka : ka (fun q : Nat => s.heap.size ≤ q) s s.heap) {i : Nat} (hi : i + 7 ≤ L) (hL : L ≤ 3584) {d0 : Nat} {ad : Nat → Nat} {a kp bt sz : Nat → Nat} {sheets : Nat → Int32} {ke km : Nat} {w w2 : va_W} (hI : IvD cy d0 a kp bt sz sheets ke km w) (hM : Mdl cy ad a kp bt sz sheets ke km w2) {H : Heap} {locs : List Loc} {ls : Array Slot} (hP : va_P D vwCl (w ++ w2) H) (hD : va_D (fun q : Nat => s.heap.size ≤ q) (w ++ w2)) (hS : va_S (fun q : Nat => s.heap.size ≤ q) s.heap H locs) (hl : lv_has ls 4 [(3, .int (nI i)), (2, .ref (ad 0)), (1, .ref d0), (0, .ref b)]) (hend : ∀ (a kp bt sz : Nat → Nat) (sheets : Nat → Int32) (ke km : Nat) (w w2 : va_W) (H : Heap) (locs : List Loc) (cs sl : Nat), IvD cy d0 a kp bt sz sheets ke km w → Mdl cy ad a kp bt sz sheets ke km w2 → va_P D vwCl (w2 ++ w) H → va_D (fun q : Nat => s.heap.size ≤ q) (w2 ++ w) → va_S (fun q : Nat => s.heap.size ≤ q) s.heap H locs → cs ≤ 107 + i → sl ≤ 15056 + 8 * i → W p l e room_1 s m #[Value.ref b] below meth c H locs cs sl (lw_Z below #[Value.ref b] s) (F0 m 1345 ls [])) : W p l e room_1 s m #[Value.ref b] below meth c H locs (100 + i) (15000 + 8 * i) (lw_Z below #[Value.ref b] s) (F0 m 1308 ls []) := by
  obtain ⟨hx, hb, hr, hml, hown, hts, hX, hbl, hlocks, hgv⟩ := C0
  have htsL : ∀ w ∈ wsL_law, w.before #[Value.ref b] s = true := fun w h => hts w (wsL_law_in w h)
  have hown : s.vm.findClass RL = some m.cls := hown
  have hA : ∀ q : Nat, s.heap.size ≤ q → (fun q : Nat => s.heap.size ≤ q) q := fun _ h => h
  have hbA : ¬ (fun q : Nat => s.heap.size ≤ q) b := Nat.not_le.mpr hbl
  have hKm : va_K D vwCl (mT (cy 0) (cy 1)) s := hK.sub [0, 1] rfl
  obtain ⟨hok, he20, hm20, hsz⟩ := IvD_f hI
  obtain ⟨k0, fs0, hat⟩ := IvD_at hI
  obtain ⟨fs2, hat2⟩ := Mdl_at hM
  refine lv_aload_n hx hb dL_law_1308 rfl (lv_at hl 2 rfl) ?_
  refine kq_Vl (As := []) (rest := []) (w := w) (wr := w2) (ci := 11) (k0 := k0) ⟨hx, hb, hml, hown, htsL⟩ (ik_undo l D hI ) (cwV 0 htsL gL_law_X11_undo rfl rfl rfl (by decide +kernel) ⟨Nat.le_of_ble_eq_true rfl, Nat.le_of_ble_eq_true rfl⟩) rfl hat hP hK hD hN hka hS hA rfl hl.1 rfl (Nat.le_of_ble_eq_true rfl) dL_law_1309 ⟨show 100 + i + 0 ≤ 600000 by omega, show 15000 + 8 * i + 0 ≤ 7302250 by omega⟩ (fun r1 w1 H locs hq1 hP hD hS => ?_)
  have hP := hP.perm (List.perm_append_comm (l₁ := w1) (l₂ := w2))
  have hD := hD.perm (List.perm_append_comm (l₁ := w1) (l₂ := w2))
  refine lv_aload_n hx hb dL_law_1312 rfl (lv_at hl 1 rfl) ?_
  refine fr_Vl (As := []) (rest := [.long r1]) (w := w2) (wr := w1) (ci := 12) (k0 := 0) ⟨hx, hb, hml, hown, htsL⟩ (mk_undo l D hM hok he20 hm20 hsz ) (cwV 0 htsL gL_law_X12_undo rfl rfl rfl (by decide +kernel) ⟨Nat.le_of_ble_eq_true rfl, Nat.le_of_ble_eq_true rfl⟩) rfl hat2 hP hKm hD hS hA rfl hl.1 rfl (Nat.le_of_ble_eq_true rfl) dL_law_1313 ⟨show 100 + i + 0 + 0 ≤ 600000 by omega, show 15000 + 8 * i + 0 + 0 ≤ 7302250 by omega⟩ (fun r2 w3 H locs hq2 hP hD hS => ?_)
  obtain ⟨hr12, a9, kp9, bt9, sz9, sh9, ke9, km9, k1, k2⟩ := jn_undo hok (fun i hi => (hsz i hi).1) hq1 hq2
  refine W.lcmp hx hb dL_law_1316 ?_
  refine lv_if_eq (tgt := 1345) hx hb dL_law_1317 (by decide) (fun c9 => ?_) (fun c9 => ?_)
  · exact hend a9 kp9 bt9 sz9 sh9 ke9 km9 w1 w3 _ _ _ _ k1 k2 hP hD hS (by omega) (by omega)
  · exact absurd ((lg_cmp_eq _ _).mpr hr12) c9
set_option maxHeartbeats 4000000 in
set_option maxRecDepth 100000 in
theorem law_29 (l : Launch) {p : Program} {e : Env} {s : State} {m : MethodId} {below : List Frame} {meth : Method} {c : Code} {b L : Nat} {xs : Nat → Int32} (C0 : lw_At p s m meth c b L xs) {D : va_G} {cy : Nat → ClassId} (hK : va_K D vwCl (cT cy) s) (hN : nst s) (hka : ka (fun q : Nat => s.heap.size ≤ q) s s.heap) {i : Nat} (hi : i + 7 ≤ L) (hL : L ≤ 3584) {d0 : Nat} {ad : Nat → Nat} {a kp bt sz : Nat → Nat} {sheets : Nat → Int32} {ke km : Nat} {w w2 : va_W} (hI : IvD cy d0 a kp bt sz sheets ke km w) (hM : Mdl cy ad a kp bt sz sheets ke km w2) {H : Heap} {locs : List Loc} {ls : Array Slot} (hP : va_P D vwCl (w ++ w2) H) (hD : va_D (fun q : Nat => s.heap.size ≤ q) (w ++ w2)) (hS : va_S (fun q : Nat => s.heap.size ≤ q) s.heap H locs) (hl : lv_has ls 4 [(3, .int (nI i)), (2, .ref (ad 0)), (1, .ref d0), (0, .ref b)]) (hend : ∀ (a kp bt sz : Nat → Nat) (sheets : Nat → Int32) (ke km : Nat) (w w2 : va_W) (H : Heap) (locs : List Loc) (cs sl : Nat), IvD cy d0 a kp bt sz sheets ke km w → Mdl cy ad a kp bt sz sheets ke km w2 → va_P D vwCl (w2 ++ w) H → va_D (fun q : Nat => s.heap.size ≤ q) (w2 ++ w) → va_S (fun q : Nat => s.heap.size ≤ q) s.heap H locs → cs ≤ 107 + i → sl ≤ 15056 + 8 * i → W p l e room_1 s m #[Value.ref b] below meth c H locs cs sl (lw_Z below #[Value.ref b] s) (F0 m 1345 ls [])) : W p l e room_1 s m #[Value.ref b] below meth c H locs (100 + i) (15000 + 8 * i) (lw_Z below #[Value.ref b] s) (F0 m 1322 ls []) := by
  obtain ⟨hx, hb, hr, hml, hown, hts, hX, hbl, hlocks, hgv⟩ := C0
  have htsL : ∀ w ∈ wsL_law, w.before #[Value.ref b] s = true := fun w h => hts w (wsL_law_in w h)
  have hown : s.vm.findClass RL = some m.cls := hown
  have hA : ∀ q : Nat, s.heap.size ≤ q → (fun q : Nat => s.heap.size ≤ q) q := fun _ h => h
  have hbA : ¬ (fun q : Nat => s.heap.size ≤ q) b := Nat.not_le.mpr hbl
  have hKm : va_K D vwCl (mT (cy 0) (cy 1)) s := hK.sub [0, 1] rfl
  obtain ⟨hok, he20, hm20, hsz⟩ := IvD_f hI
  obtain ⟨k0, fs0, hat⟩ := IvD_at hI
  obtain ⟨fs2, hat2⟩ := Mdl_at hM
  refine lv_aload_n hx hb dL_law_1322 rfl (lv_at hl 2 rfl) ?_
  refine lv_aload_n hx hb dL_law_1323 rfl (lv_at hl 3 rfl) ?_
  refine lv_iload_n hx hb dL_law_1324 rfl (lv_at hl 0 rfl) ?_
  refine lv_iconst (v := (nI (1))) hx hb dL_law_1325 (by decide) ?_
  refine ln_iadd hx hb dL_law_1326 ?_
  refine va_sld hx hb hX hbl hbA hS (vp_in_nI (show i + 1 < L by omega) (by omega)) dL_law_1327 ?_
  refine ln_eqi (y := xs (i + 1)) (by rw [nI_clamp (by omega)]) ?_
  refine kq_Vl (As := [.int (xs (i + 1))]) (rest := []) (w := w) (wr := w2) (ci := 11) (k0 := k0) ⟨hx, hb, hml, hown, htsL⟩ (ia_all l D hI (xs (i + 1))) (cwV 1 htsL gL_law_X11_all rfl rfl rfl (by decide +kernel) ⟨Nat.le_of_ble_eq_true rfl, Nat.le_of_ble_eq_true rfl⟩) rfl hat hP hK hD hN hka hS hA rfl hl.1 rfl (Nat.le_of_ble_eq_true rfl) dL_law_1328 ⟨show 100 + i + 0 ≤ 600000 by omega, show 15000 + 8 * i + 0 ≤ 7302250 by omega⟩ (fun r1 w1 H locs hq1 hP hD hS => ?_)
  have hP := hP.perm (List.perm_append_comm (l₁ := w1) (l₂ := w2))
  have hD := hD.perm (List.perm_append_comm (l₁ := w1) (l₂ := w2))
  refine lv_pop2_2 hx hb dL_law_1331 rfl ?_
  refine lv_aload_n hx hb dL_law_1332 rfl (lv_at hl 1 rfl) ?_
  refine lv_aload_n hx hb dL_law_1333 rfl (lv_at hl 3 rfl) ?_
  refine lv_iload_n hx hb dL_law_1334 rfl (lv_at hl 0 rfl) ?_
  refine lv_iconst (v := (nI (1))) hx hb dL_law_1335 (by decide) ?_
  refine ln_iadd hx hb dL_law_1336 ?_
  refine va_sld hx hb hX hbl hbA hS (vp_in_nI (show i + 1 < L by omega) (by omega)) dL_law_1337 ?_
  refine ln_eqi (y := xs (i + 1)) (by rw [nI_clamp (by omega)]) ?_
  refine fr_Vl (As := [.int (xs (i + 1))]) (rest := []) (w := w2) (wr := w1) (ci := 12) (k0 := 0) ⟨hx, hb, hml, hown, htsL⟩ (ma_all l D hM hok he20 hm20 hsz (xs (i + 1))) (cwV 1 htsL gL_law_X12_all rfl rfl rfl (by decide +kernel) ⟨Nat.le_of_ble_eq_true rfl, Nat.le_of_ble_eq_true rfl⟩) rfl hat2 hP hKm hD hS hA rfl hl.1 rfl (Nat.le_of_ble_eq_true rfl) dL_law_1338 ⟨show 100 + i + 0 + 0 ≤ 600000 by omega, show 15000 + 8 * i + 0 + 0 ≤ 7302250 by omega⟩ (fun r2 w3 H locs hq2 hP hD hS => ?_)
  refine lv_pop2_2 hx hb dL_law_1341 rfl ?_
  refine lv_goto (tgt := 1345) hx hb dL_law_1342 (by decide) ?_
  exact hend a kp bt sz sheets ke km w1 w3 _ _ _ _ hq1 hq2 hP hD hS (by omega) (by omega)
