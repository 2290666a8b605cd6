set_option maxHeartbeats 4000000 in
set_option maxRecDepth 100000 in
theorem cM_in (l : Launch) (D : va_G) (tys : List (ClassId × FieldType)) (v : Int32) (lo : Int32) (hi : Int32)  : mq_i l D tys yX12_in wsX12_in 0 0 0 0 [.int (v), .int (lo), .int (hi)] [] (fun r _ => r = bI (lo ≤ v ∧ v ≤ hi)) := by
  refine mq_z_of (cc := cX12_in) (maxL := 3) (by decide) rfl (Nat.le_of_ble_eq_true rfl) ?_
  intro p e s m args below meth c A Q ls hx hb hts hown hml hnm hA hP hK hD hS hl hret
  have hown : s.vm.findClass RX12 = some m.cls := hown
  have hl : lv_has ls 3 [(0, .int (v)), (1, .int (lo)), (2, .int (hi))] := hl
  refine lv_iload_n hx hb dX12_in_0 rfl (lv_at hl 0 rfl) ?_
  refine lv_iload_n hx hb dX12_in_1 rfl (lv_at hl 1 rfl) ?_
  refine lv_icmp_lt (tgt := 14) hx hb dX12_in_2 (by decide) (fun c1 => ?_) (fun c1 => ?_)
  · refine lv_iconst (v := (nI (0))) hx hb dX12_in_14 (by decide) ?_
    exact hret _ _ _ _ _ _ rfl (bI_f' (fun h => absurd h.1 (Int32.not_le.mpr c1))) hP hD hS dX12_in_15
  · refine lv_iload_n hx hb dX12_in_5 rfl (lv_at hl 0 rfl) ?_
    refine lv_iload_n hx hb dX12_in_6 rfl (lv_at hl 2 rfl) ?_
    refine lv_icmp_gt (tgt := 14) hx hb dX12_in_7 (by decide) (fun c2 => ?_) (fun c2 => ?_)
    · refine lv_iconst (v := (nI (0))) hx hb dX12_in_14 (by decide) ?_
      exact hret _ _ _ _ _ _ rfl (bI_f' (fun h => absurd h.2 (Int32.not_le.mpr c2))) hP hD hS dX12_in_15
    · refine lv_iconst (v := (nI (1))) hx hb dX12_in_10 (by decide) ?_
      refine lv_goto (tgt := 15) hx hb dX12_in_11 (by decide) ?_
      exact hret _ _ _ _ _ _ rfl (bI_t' ⟨Int32.not_lt.mp c1, Int32.not_lt.mp c2⟩) hP hD hS dX12_in_15
set_option maxHeartbeats 4000000 in
set_option maxRecDepth 100000 in
theorem cM_isNumber (l : Launch) (D : va_G) (tys : List (ClassId × FieldType)) (v : Int32)  : mq_i l D tys yX12_isNumber wsX12_isNumber 1 0 0 22 [.int (v)] [] (fun r _ => r = bI (rg 0 999 v)) := by
  refine mq_z_of (cc := cX12_isNumber) (maxL := 1) (by decide) rfl (Nat.le_of_ble_eq_true rfl) ?_
  intro p e s m args below meth c A Q ls hx hb hts hown hml hnm hA hP hK hD hS hl hret
  have hown : s.vm.findClass RX12 = some m.cls := hown
  have hl : lv_has ls 1 [(0, .int (v))] := hl
  refine lv_iload_n hx hb dX12_isNumber_0 rfl (lv_at hl 0 rfl) ?_
  refine lv_iconst (v := (nI (0))) hx hb dX12_isNumber_1 (by decide) ?_
  refine lv_sipush (v := (nI (999))) hx hb dX12_isNumber_2 (by decide) ?_
  refine mq_Si (As := [.int (v), .int (nI (0)), .int (nI (999))]) (rest := []) ⟨hx, hb, hml, hown, hts⟩ (cM_in l D _ (v) (nI (0)) (nI (999)) ) (cwS 3 hts gX12_isNumber_X12_in rfl rfl rfl (by decide +kernel) ⟨Nat.le_of_ble_eq_true rfl, Nat.le_of_ble_eq_true rfl⟩) hP hK hS hA rfl hl.1 rfl (Nat.le_of_ble_eq_true rfl) dX12_isNumber_5 ⟨Nat.le_of_ble_eq_true rfl, Nat.le_of_ble_eq_true rfl⟩ (fun r w1 H locs hq hP hS => ?_)
  subst hq
  exact hret _ _ _ _ _ _ bI_nar rfl hP hD hS dX12_isNumber_8
set_option maxHeartbeats 4000000 in
set_option maxRecDepth 100000 in
theorem cM_isSheet (l : Launch) (D : va_G) (tys : List (ClassId × FieldType)) (v : Int32)  : mq_i l D tys yX12_isSheet wsX12_isSheet 1 0 0 22 [.int (v)] [] (fun r _ => r = bI (rg 0 3 v)) := by
  refine mq_z_of (cc := cX12_isSheet) (maxL := 1) (by decide) rfl (Nat.le_of_ble_eq_true rfl) ?_
  intro p e s m args below meth c A Q ls hx hb hts hown hml hnm hA hP hK hD hS hl hret
  have hown : s.vm.findClass RX12 = some m.cls := hown
  have hl : lv_has ls 1 [(0, .int (v))] := hl
  refine lv_iload_n hx hb dX12_isSheet_0 rfl (lv_at hl 0 rfl) ?_
  refine lv_iconst (v := (nI (0))) hx hb dX12_isSheet_1 (by decide) ?_
  refine lv_iconst (v := (nI (3))) hx hb dX12_isSheet_2 (by decide) ?_
  refine mq_Si (As := [.int (v), .int (nI (0)), .int (nI (3))]) (rest := []) ⟨hx, hb, hml, hown, hts⟩ (cM_in l D _ (v) (nI (0)) (nI (3)) ) (cwS 3 hts gX12_isSheet_X12_in rfl rfl rfl (by decide +kernel) ⟨Nat.le_of_ble_eq_true rfl, Nat.le_of_ble_eq_true rfl⟩) hP hK hS hA rfl hl.1 rfl (Nat.le_of_ble_eq_true rfl) dX12_isSheet_3 ⟨Nat.le_of_ble_eq_true rfl, Nat.le_of_ble_eq_true rfl⟩ (fun r w1 H locs hq hP hS => ?_)
  subst hq
  exact hret _ _ _ _ _ _ bI_nar rfl hP hD hS dX12_isSheet_6
set_option maxHeartbeats 4000000 in
set_option maxRecDepth 100000 in
theorem cM_isSign (l : Launch) (D : va_G) (tys : List (ClassId × FieldType)) (v : Int32)  : mq_i l D tys yX12_isSign wsX12_isSign 1 0 0 22 [.int (v)] [] (fun r _ => r = bI (rg 1 4 v ∨ rg 10 24 v)) := by
  refine mq_z_of (cc := cX12_isSign) (maxL := 1) (by decide) rfl (Nat.le_of_ble_eq_true rfl) ?_
  intro p e s m args below meth c A Q ls hx hb hts hown hml hnm hA hP hK hD hS hl hret
  have hown : s.vm.findClass RX12 = some m.cls := hown
  have hl : lv_has ls 1 [(0, .int (v))] := hl
  refine lv_iload_n hx hb dX12_isSign_0 rfl (lv_at hl 0 rfl) ?_
  refine lv_iconst (v := (nI (1))) hx hb dX12_isSign_1 (by decide) ?_
  refine lv_iconst (v := (nI (4))) hx hb dX12_isSign_2 (by decide) ?_
  refine mq_Si (As := [.int (v), .int (nI (1)), .int (nI (4))]) (rest := []) ⟨hx, hb, hml, hown, hts⟩ (cM_in l D _ (v) (nI (1)) (nI (4)) ) (cwS 3 hts gX12_isSign_X12_in rfl rfl rfl (by decide +kernel) ⟨Nat.le_of_ble_eq_true rfl, Nat.le_of_ble_eq_true rfl⟩) hP hK hS hA rfl hl.1 rfl (Nat.le_of_ble_eq_true rfl) dX12_isSign_3 ⟨Nat.le_of_ble_eq_true rfl, Nat.le_of_ble_eq_true rfl⟩ (fun r w1 H locs hq hP hS => ?_)
  subst hq
  refine lb_if_ne (tgt := 20) hx hb dX12_isSign_6 (by decide) (fun c1 => ?_) (fun c1 => ?_)
  · refine lv_iconst (v := (nI (1))) hx hb dX12_isSign_20 (by decide) ?_
    refine lv_goto (tgt := 25) hx hb dX12_isSign_21 (by decide) ?_
    exact hret _ _ _ _ _ _ rfl (bI_t' (Or.inl c1)) hP hD hS dX12_isSign_25
  · refine lv_iload_n hx hb dX12_isSign_9 rfl (lv_at hl 0 rfl) ?_
    refine lv_bipush (v := (nI (10))) hx hb dX12_isSign_10 (by decide) ?_
    refine lv_bipush (v := (nI (24))) hx hb dX12_isSign_12 (by decide) ?_
    refine mq_Si (As := [.int (v), .int (nI (10)), .int (nI (24))]) (rest := []) ⟨hx, hb, hml, hown, hts⟩ (cM_in l D _ (v) (nI (10)) (nI (24)) ) (cwS 3 hts gX12_isSign_X12_in rfl rfl rfl (by decide +kernel) ⟨Nat.le_of_ble_eq_true rfl, Nat.le_of_ble_eq_true rfl⟩) hP hK hS hA rfl hl.1 rfl (Nat.le_of_ble_eq_true rfl) dX12_isSign_14 ⟨Nat.le_of_ble_eq_true rfl, Nat.le_of_ble_eq_true rfl⟩ (fun r w1 H locs hq hP hS => ?_)
    subst hq
    refine lb_if_eq (tgt := 24) hx hb dX12_isSign_17 (by decide) (fun c2 => ?_) (fun c2 => ?_)
    · refine lv_iconst (v := (nI (0))) hx hb dX12_isSign_24 (by decide) ?_
      exact hret _ _ _ _ _ _ rfl (bI_f' (fun h => h.elim c1 c2)) hP hD hS dX12_isSign_25
    · refine lv_iconst (v := (nI (1))) hx hb dX12_isSign_20 (by decide) ?_
      refine lv_goto (tgt := 25) hx hb dX12_isSign_21 (by decide) ?_
      exact hret _ _ _ _ _ _ rfl (bI_t' (Or.inr c2)) hP hD hS dX12_isSign_25
set_option maxHeartbeats 4000000 in
set_option maxRecDepth 100000 in
theorem cM_isWeather (l : Launch) (D : va_G) (tys : List (ClassId × FieldType)) (u : Int32) (v : Int32)  : mq_i l D tys yX12_isWeather wsX12_isWeather 1 0 0 22 [.int (u), .int (v)] [] (fun r _ => r = bI (rg 0 3 u ∧ rg 0 3 v)) := by
  refine mq_z_of (cc := cX12_isWeather) (maxL := 2) (by decide) rfl (Nat.le_of_ble_eq_true rfl) ?_
  intro p e s m args below meth c A Q ls hx hb hts hown hml hnm hA hP hK hD hS hl hret
  have hown : s.vm.findClass RX12 = some m.cls := hown
  have hl : lv_has ls 2 [(0, .int (u)), (1, .int (v))] := hl
  refine lv_iload_n hx hb dX12_isWeather_0 rfl (lv_at hl 0 rfl) ?_
  refine lv_iconst (v := (nI (0))) hx hb dX12_isWeather_1 (by decide) ?_
  refine lv_iconst (v := (nI (3))) hx hb dX12_isWeather_2 (by decide) ?_
  refine mq_Si (As := [.int (u), .int (nI (0)), .int (nI (3))]) (rest := []) ⟨hx, hb, hml, hown, hts⟩ (cM_in l D _ (u) (nI (0)) (nI (3)) ) (cwS 3 hts gX12_isWeather_X12_in rfl rfl rfl (by decide +kernel) ⟨Nat.le_of_ble_eq_true rfl, Nat.le_of_ble_eq_true rfl⟩) hP hK hS hA rfl hl.1 rfl (Nat.le_of_ble_eq_true rfl) dX12_isWeather_3 ⟨Nat.le_of_ble_eq_true rfl, Nat.le_of_ble_eq_true rfl⟩ (fun r w1 H locs hq hP hS => ?_)
  subst hq
  refine lb_if_eq (tgt := 22) hx hb dX12_isWeather_6 (by decide) (fun c1 => ?_) (fun c1 => ?_)
  · refine lv_iconst (v := (nI (0))) hx hb dX12_isWeather_22 (by decide) ?_
    exact hret _ _ _ _ _ _ rfl (bI_f' (fun h => c1 h.1)) hP hD hS dX12_isWeather_23
  · refine lv_iload_n hx hb dX12_isWeather_9 rfl (lv_at hl 1 rfl) ?_
    refine lv_iconst (v := (nI (0))) hx hb dX12_isWeather_10 (by decide) ?_
    refine lv_iconst (v := (nI (3))) hx hb dX12_isWeather_11 (by decide) ?_
    refine mq_Si (As := [.int (v), .int (nI (0)), .int (nI (3))]) (rest := []) ⟨hx, hb, hml, hown, hts⟩ (cM_in l D _ (v) (nI (0)) (nI (3)) ) (cwS 3 hts gX12_isWeather_X12_in rfl rfl rfl (by decide +kernel) ⟨Nat.le_of_ble_eq_true rfl, Nat.le_of_ble_eq_true rfl⟩) hP hK hS hA rfl hl.1 rfl (Nat.le_of_ble_eq_true rfl) dX12_isWeather_12 ⟨Nat.le_of_ble_eq_true rfl, Nat.le_of_ble_eq_true rfl⟩ (fun r w1 H locs hq hP hS => ?_)
    subst hq
    refine lb_if_eq (tgt := 22) hx hb dX12_isWeather_15 (by decide) (fun c2 => ?_) (fun c2 => ?_)
    · refine lv_iconst (v := (nI (0))) hx hb dX12_isWeather_22 (by decide) ?_
      exact hret _ _ _ _ _ _ rfl (bI_f' (fun h => c2 h.2)) hP hD hS dX12_isWeather_23
    · refine lv_iconst (v := (nI (1))) hx hb dX12_isWeather_18 (by decide) ?_
      refine lv_goto (tgt := 23) hx hb dX12_isWeather_19 (by decide) ?_
      exact hret _ _ _ _ _ _ rfl (bI_t' ⟨c1, c2⟩) hP hD hS dX12_isWeather_23
set_option maxHeartbeats 4000000 in
set_option maxRecDepth 100000 in
theorem cM_isRing (l : Launch) (D : va_G) (tys : List (ClassId × FieldType)) (k : Nat) (hk : k < 4) : mq_i l D tys yX12_isRing wsX12_isRing 0 0 0 0 [.int (nI (k))] [] (fun r _ => r = bI (k = 1 ∨ k = 3)) := by
  refine mq_z_of (cc := cX12_isRing) (maxL := 1) (by decide) rfl (Nat.le_of_ble_eq_true rfl) ?_
  intro p e s m args below meth c A Q ls hx hb hts hown hml hnm hA hP hK hD hS hl hret
  have hown : s.vm.findClass RX12 = some m.cls := hown
  have hl : lv_has ls 1 [(0, .int (nI (k)))] := hl
  refine lv_iload_n hx hb dX12_isRing_0 rfl (lv_at hl 0 rfl) ?_
  refine lv_iconst (v := (nI (1))) hx hb dX12_isRing_1 (by decide) ?_
  refine ln_icmp_eq (tgt := 10) hx hb dX12_isRing_2 (by decide) (by omega) (by omega) (fun c1 => ?_) (fun c1 => ?_)
  · refine lv_iconst (v := (nI (1))) hx hb dX12_isRing_10 (by decide) ?_
    refine lv_goto (tgt := 15) hx hb dX12_isRing_11 (by decide) ?_
    exact hret _ _ _ _ _ _ rfl (bI_t' (by omega)) hP hD hS dX12_isRing_15
  · refine lv_iload_n hx hb dX12_isRing_5 rfl (lv_at hl 0 rfl) ?_
    refine lv_iconst (v := (nI (3))) hx hb dX12_isRing_6 (by decide) ?_
    refine ln_icmp_ne (tgt := 14) hx hb dX12_isRing_7 (by decide) (by omega) (by omega) (fun c2 => ?_) (fun c2 => ?_)
    · refine lv_iconst (v := (nI (0))) hx hb dX12_isRing_14 (by decide) ?_
      exact hret _ _ _ _ _ _ rfl (bI_f' (by omega)) hP hD hS dX12_isRing_15
    · refine lv_iconst (v := (nI (1))) hx hb dX12_isRing_10 (by decide) ?_
      refine lv_goto (tgt := 15) hx hb dX12_isRing_11 (by decide) ?_
      exact hret _ _ _ _ _ _ rfl (bI_t' (by omega)) hP hD hS dX12_isRing_15
set_option maxHeartbeats 4000000 in
set_option maxRecDepth 100000 in
theorem cM_showAt (l : Launch) (D : va_G) (tys : List (ClassId × FieldType)) (so : Nat) (cr : Nat) (dr : Nat)  : mq_i l D tys yX12_showAt wsX12_showAt 0 0 0 0 [.int (nI (so)), .int (nI (cr)), .int (nI (dr))] [] (fun r _ => r = nI (470 + 2 * (16 * so + 4 * cr + dr))) := by
  refine mq_i_of (cc := cX12_showAt) (maxL := 3) (by decide) rfl (Nat.le_of_ble_eq_true rfl) ?_
  intro p e s m args below meth c A Q ls hx hb hts hown hml hnm hA hP hK hD hS hl hret
  have hown : s.vm.findClass RX12 = some m.cls := hown
  have hl : lv_has ls 3 [(0, .int (nI (so))), (1, .int (nI (cr))), (2, .int (nI (dr)))] := hl
  refine lv_sipush (v := (nI (470))) hx hb dX12_showAt_0 (by decide) ?_
  refine lv_iconst (v := (nI (2))) hx hb dX12_showAt_3 (by decide) ?_
  refine lv_bipush (v := (nI (16))) hx hb dX12_showAt_4 (by decide) ?_
  refine lv_iload_n hx hb dX12_showAt_6 rfl (lv_at hl 0 rfl) ?_
  refine ln_imul hx hb dX12_showAt_7 ?_
  refine lv_iconst (v := (nI (4))) hx hb dX12_showAt_8 (by decide) ?_
  refine lv_iload_n hx hb dX12_showAt_9 rfl (lv_at hl 1 rfl) ?_
  refine ln_imul hx hb dX12_showAt_10 ?_
  refine ln_iadd hx hb dX12_showAt_11 ?_
  refine lv_iload_n hx hb dX12_showAt_12 rfl (lv_at hl 2 rfl) ?_
  refine ln_iadd hx hb dX12_showAt_13 ?_
  refine ln_imul hx hb dX12_showAt_14 ?_
  refine ln_iadd hx hb dX12_showAt_15 ?_
  exact hret _ _ _ _ _ _ rfl hP hD hS dX12_showAt_16
set_option maxHeartbeats 4000000 in
set_option maxRecDepth 100000 in
theorem cM_finds (l : Launch) (D : va_G) (ad : Nat → Nat) (cI cJ : ClassId) (a kp bt sz : Nat → Nat) (sheets : Nat → Int32) (go ro : Nat → Nat) (car : Nat → Int32) (ke km fi gm bs bu : Nat) (n1 n2 n3 n4 n5 n6 n7 : Int64) (px py db : Nat → Int64) (x : Int64)  : mq_l l D (mT cI cJ) yX12_finds wsX12_finds 0 0 0 0 [.ref (ad 0), .long (x)] (mW ad cI cJ a kp bt sz sheets go ro car ke km fi gm bs bu n1 n2 n3 n4 n5 n6 n7 px py db) (fun r w1 => r = x ∧ w1 = mW ad cI cJ a kp bt sz sheets go ro car ke km (fi + 1) gm bs bu n1 n2 n3 n4 n5 n6 n7 px py db) := by
  refine mq_l_of (cc := cX12_finds) (maxL := 3) (by decide) rfl (Nat.le_of_ble_eq_true rfl) ?_
  intro p e s m args below meth c A Q ls hx hb hts hown hml hnm hA hP hK hD hS hl hret
  have hown : s.vm.findClass RX12 = some m.cls := hown
  have hinX12 : ∀ w ∈ u_ws RX12 TX12 24, w ∈ wsX12_finds := by decide +kernel
  have hl : lv_has ls 3 [(0, .ref (ad 0)), (1, .long (x))] := hl
  refine lv_aload_n hx hb dX12_finds_0 rfl (lv_at hl 0 rfl) ?_
  refine lv_dup hx hb dX12_finds_1 rfl ?_
  refine va_get (D := D) (ci := 12) (v := .int (nI (fi))) (C := RX12) (T := TX12) (N := 24) hx hb hts hinX12 hown hK hP 0 rfl rfl 4 (by decide) (hts (.fieldLink RX12 44 "CornDeskModel" "findings" "I") (by decide +kernel)) (fun _ h9 => h9) rfl dX12_finds_2 ?_
  refine lv_iconst (v := (nI (1))) hx hb dX12_finds_5 (by decide) ?_
  refine ln_iadd hx hb dX12_finds_6 ?_
  refine va_put (D := D) (ci := 12) (v := .int (nI (fi + 1))) (ty := .int) (C := RX12) (T := TX12) (N := 24) hx hb hts hinX12 tyX12 tyX12_ok nmX12 hown hK hP hD hS 0 rfl rfl 4 (by decide) (hts (.fieldLink RX12 44 "CornDeskModel" "findings" "I") (by decide +kernel)) (fun _ h9 => h9) rfl (by decide +kernel) rfl rfl (Nat.le_of_ble_eq_true rfl) dX12_finds_7 (fun H locs hP hD hS => ?_)
  have hP : va_P D vwCl (mW ad cI cJ a kp bt sz sheets go ro car ke km (fi + 1) gm bs bu n1 n2 n3 n4 n5 n6 n7 px py db) H := hP
  have hD : va_D A (mW ad cI cJ a kp bt sz sheets go ro car ke km (fi + 1) gm bs bu n1 n2 n3 n4 n5 n6 n7 px py db) := hD
  refine lv_lload_n hx hb dX12_finds_10 rfl (lv_at hl 1 rfl) ?_
  exact hret _ _ _ _ _ _ ⟨rfl, rfl⟩ hP hD hS dX12_finds_11
set_option maxHeartbeats 4000000 in
set_option maxRecDepth 100000 in
theorem cM_isPicture (l : Launch) (D : va_G) (ad : Nat → Nat) (cI cJ : ClassId) (a kp bt sz : Nat → Nat) (sheets : Nat → Int32) (go ro : Nat → Nat) (car : Nat → Int32) (ke km fi gm bs bu : Nat) (n1 n2 n3 n4 n5 n6 n7 : Int64) (px py db : Nat → Int64) (x : Int32) (hn : a 0 < 2 ^ 30) : mq_i l D (mT cI cJ) yX12_isPicture wsX12_isPicture 1 0 0 22 [.ref (ad 0), .int (x)] (mW ad cI cJ a kp bt sz sheets go ro car ke km fi gm bs bu n1 n2 n3 n4 n5 n6 n7 px py db) (fun r w1 => r = bI (ix (a 0) x) ∧ w1 = mW ad cI cJ a kp bt sz sheets go ro car ke km fi gm bs bu n1 n2 n3 n4 n5 n6 n7 px py db) := by
  refine mq_z_of (cc := cX12_isPicture) (maxL := 2) (by decide) rfl (Nat.le_of_ble_eq_true rfl) ?_
  intro p e s m args below meth c A Q ls hx hb hts hown hml hnm hA hP hK hD hS hl hret
  have hown : s.vm.findClass RX12 = some m.cls := hown
  have hinX12 : ∀ w ∈ u_ws RX12 TX12 24, w ∈ wsX12_isPicture := by decide +kernel
  have hl : lv_has ls 2 [(0, .ref (ad 0)), (1, .int (x))] := hl
  refine lv_iload_n hx hb dX12_isPicture_0 rfl (lv_at hl 1 rfl) ?_
  refine lv_iconst (v := (nI (0))) hx hb dX12_isPicture_1 (by decide) ?_
  refine lv_aload_n hx hb dX12_isPicture_2 rfl (lv_at hl 0 rfl) ?_
  refine va_get (D := D) (ci := 12) (v := .ref (ad 1)) (C := RX12) (T := TX12) (N := 24) hx hb hts hinX12 hown hK hP 0 rfl rfl 0 (by decide) (hts (.fieldLink RX12 9 "CornDeskModel" "now" "[I") (by decide +kernel)) (fun _ h9 => h9) rfl dX12_isPicture_3 ?_
  refine lv_iconst (v := (nI (0))) hx hb dX12_isPicture_6 (by decide) ?_
  refine ln_iald hx hb hK hP 1 0 rfl rfl (by decide) (by omega) dX12_isPicture_7 ?_
  refine lv_iconst (v := (nI (1))) hx hb dX12_isPicture_8 (by decide) ?_
  refine lv_isub hx hb dX12_isPicture_9 ?_
  refine mq_Si (As := [.int (x), .int (nI (0)), .int ((nI (a (0))) - (nI (1)))]) (rest := []) ⟨hx, hb, hml, hown, hts⟩ (cM_in l D _ (x) (nI (0)) ((nI (a (0))) - (nI (1))) ) (cwS 3 hts gX12_isPicture_X12_in rfl rfl rfl (by decide +kernel) ⟨Nat.le_of_ble_eq_true rfl, Nat.le_of_ble_eq_true rfl⟩) hP hK hS hA rfl hl.1 rfl (Nat.le_of_ble_eq_true rfl) dX12_isPicture_10 ⟨Nat.le_of_ble_eq_true rfl, Nat.le_of_ble_eq_true rfl⟩ (fun r w1 H locs hq hP hS => ?_)
  subst hq
  exact hret _ _ _ _ _ _ bI_nar ⟨bI_cong (ix_le hn), rfl⟩ hP hD hS dX12_isPicture_13
set_option maxHeartbeats 4000000 in
set_option maxRecDepth 100000 in
theorem cM_isMark (l : Launch) (D : va_G) (ad : Nat → Nat) (cI cJ : ClassId) (a kp bt sz : Nat → Nat) (sheets : Nat → Int32) (go ro : Nat → Nat) (car : Nat → Int32) (ke km fi gm bs bu : Nat) (n1 n2 n3 n4 n5 n6 n7 : Int64) (px py db : Nat → Int64) (x : Int32) (hn : a 1 < 2 ^ 30) : mq_i l D (mT cI cJ) yX12_isMark wsX12_isMark 1 0 0 22 [.ref (ad 0), .int (x)] (mW ad cI cJ a kp bt sz sheets go ro car ke km fi gm bs bu n1 n2 n3 n4 n5 n6 n7 px py db) (fun r w1 => r = bI (ix (a 1) x) ∧ w1 = mW ad cI cJ a kp bt sz sheets go ro car ke km fi gm bs bu n1 n2 n3 n4 n5 n6 n7 px py db) := by
  refine mq_z_of (cc := cX12_isMark) (maxL := 2) (by decide) rfl (Nat.le_of_ble_eq_true rfl) ?_
  intro p e s m args below meth c A Q ls hx hb hts hown hml hnm hA hP hK hD hS hl hret
  have hown : s.vm.findClass RX12 = some m.cls := hown
  have hinX12 : ∀ w ∈ u_ws RX12 TX12 24, w ∈ wsX12_isMark := by decide +kernel
  have hl : lv_has ls 2 [(0, .ref (ad 0)), (1, .int (x))] := hl
  refine lv_iload_n hx hb dX12_isMark_0 rfl (lv_at hl 1 rfl) ?_
  refine lv_iconst (v := (nI (0))) hx hb dX12_isMark_1 (by decide) ?_
  refine lv_aload_n hx hb dX12_isMark_2 rfl (lv_at hl 0 rfl) ?_
  refine va_get (D := D) (ci := 12) (v := .ref (ad 1)) (C := RX12) (T := TX12) (N := 24) hx hb hts hinX12 hown hK hP 0 rfl rfl 0 (by decide) (hts (.fieldLink RX12 9 "CornDeskModel" "now" "[I") (by decide +kernel)) (fun _ h9 => h9) rfl dX12_isMark_3 ?_
  refine lv_iconst (v := (nI (1))) hx hb dX12_isMark_6 (by decide) ?_
  refine ln_iald hx hb hK hP 1 0 rfl rfl (by decide) (by omega) dX12_isMark_7 ?_
  refine lv_iconst (v := (nI (1))) hx hb dX12_isMark_8 (by decide) ?_
  refine lv_isub hx hb dX12_isMark_9 ?_
  refine mq_Si (As := [.int (x), .int (nI (0)), .int ((nI (a (1))) - (nI (1)))]) (rest := []) ⟨hx, hb, hml, hown, hts⟩ (cM_in l D _ (x) (nI (0)) ((nI (a (1))) - (nI (1))) ) (cwS 3 hts gX12_isMark_X12_in rfl rfl rfl (by decide +kernel) ⟨Nat.le_of_ble_eq_true rfl, Nat.le_of_ble_eq_true rfl⟩) hP hK hS hA rfl hl.1 rfl (Nat.le_of_ble_eq_true rfl) dX12_isMark_10 ⟨Nat.le_of_ble_eq_true rfl, Nat.le_of_ble_eq_true rfl⟩ (fun r w1 H locs hq hP hS => ?_)
  subst hq
  exact hret _ _ _ _ _ _ bI_nar ⟨bI_cong (ix_le hn), rfl⟩ hP hD hS dX12_isMark_13
set_option maxHeartbeats 4000000 in
set_option maxRecDepth 100000 in
theorem cM_isField (l : Launch) (D : va_G) (ad : Nat → Nat) (cI cJ : ClassId) (a kp bt sz : Nat → Nat) (sheets : Nat → Int32) (go ro : Nat → Nat) (car : Nat → Int32) (ke km fi gm bs bu : Nat) (n1 n2 n3 n4 n5 n6 n7 : Int64) (px py db : Nat → Int64) (x : Int32) (hn : a 3 < 2 ^ 30) : mq_i l D (mT cI cJ) yX12_isField wsX12_isField 1 0 0 22 [.ref (ad 0), .int (x)] (mW ad cI cJ a kp bt sz sheets go ro car ke km fi gm bs bu n1 n2 n3 n4 n5 n6 n7 px py db) (fun r w1 => r = bI (ix (a 3) x) ∧ w1 = mW ad cI cJ a kp bt sz sheets go ro car ke km fi gm bs bu n1 n2 n3 n4 n5 n6 n7 px py db) := by
  refine mq_z_of (cc := cX12_isField) (maxL := 2) (by decide) rfl (Nat.le_of_ble_eq_true rfl) ?_
  intro p e s m args below meth c A Q ls hx hb hts hown hml hnm hA hP hK hD hS hl hret
  have hown : s.vm.findClass RX12 = some m.cls := hown
  have hinX12 : ∀ w ∈ u_ws RX12 TX12 24, w ∈ wsX12_isField := by decide +kernel
  have hl : lv_has ls 2 [(0, .ref (ad 0)), (1, .int (x))] := hl
  refine lv_iload_n hx hb dX12_isField_0 rfl (lv_at hl 1 rfl) ?_
  refine lv_iconst (v := (nI (0))) hx hb dX12_isField_1 (by decide) ?_
  refine lv_aload_n hx hb dX12_isField_2 rfl (lv_at hl 0 rfl) ?_
  refine va_get (D := D) (ci := 12) (v := .ref (ad 1)) (C := RX12) (T := TX12) (N := 24) hx hb hts hinX12 hown hK hP 0 rfl rfl 0 (by decide) (hts (.fieldLink RX12 9 "CornDeskModel" "now" "[I") (by decide +kernel)) (fun _ h9 => h9) rfl dX12_isField_3 ?_
  refine lv_iconst (v := (nI (3))) hx hb dX12_isField_6 (by decide) ?_
  refine ln_iald hx hb hK hP 1 0 rfl rfl (by decide) (by omega) dX12_isField_7 ?_
  refine lv_iconst (v := (nI (1))) hx hb dX12_isField_8 (by decide) ?_
  refine lv_isub hx hb dX12_isField_9 ?_
  refine mq_Si (As := [.int (x), .int (nI (0)), .int ((nI (a (3))) - (nI (1)))]) (rest := []) ⟨hx, hb, hml, hown, hts⟩ (cM_in l D _ (x) (nI (0)) ((nI (a (3))) - (nI (1))) ) (cwS 3 hts gX12_isField_X12_in rfl rfl rfl (by decide +kernel) ⟨Nat.le_of_ble_eq_true rfl, Nat.le_of_ble_eq_true rfl⟩) hP hK hS hA rfl hl.1 rfl (Nat.le_of_ble_eq_true rfl) dX12_isField_10 ⟨Nat.le_of_ble_eq_true rfl, Nat.le_of_ble_eq_true rfl⟩ (fun r w1 H locs hq hP hS => ?_)
  subst hq
  exact hret _ _ _ _ _ _ bI_nar ⟨bI_cong (ix_le hn), rfl⟩ hP hD hS dX12_isField_13
set_option maxHeartbeats 4000000 in
set_option maxRecDepth 100000 in
theorem cM_ofMark (l : Launch) (D : va_G) (ad : Nat → Nat) (cI cJ : ClassId) (a kp bt sz : Nat → Nat) (sheets : Nat → Int32) (go ro : Nat → Nat) (car : Nat → Int32) (ke km fi gm bs bu : Nat) (n1 n2 n3 n4 n5 n6 n7 : Int64) (px py db : Nat → Int64) (mi : Nat) (qi : Nat) (hi : 202 + 6 * mi + qi < 598) : mq_i l D (mT cI cJ) yX12_ofMark wsX12_ofMark 0 0 0 0 [.ref (ad 0), .int (nI (mi)), .int (nI (qi))] (mW ad cI cJ a kp bt sz sheets go ro car ke km fi gm bs bu n1 n2 n3 n4 n5 n6 n7 px py db) (fun r w1 => r = nI (a (202 + 6 * mi + qi)) ∧ w1 = mW ad cI cJ a kp bt sz sheets go ro car ke km fi gm bs bu n1 n2 n3 n4 n5 n6 n7 px py db) := by
  refine mq_i_of (cc := cX12_ofMark) (maxL := 3) (by decide) rfl (Nat.le_of_ble_eq_true rfl) ?_
  intro p e s m args below meth c A Q ls hx hb hts hown hml hnm hA hP hK hD hS hl hret
  have hown : s.vm.findClass RX12 = some m.cls := hown
  have hinX12 : ∀ w ∈ u_ws RX12 TX12 24, w ∈ wsX12_ofMark := by decide +kernel
  have hl : lv_has ls 3 [(0, .ref (ad 0)), (1, .int (nI (mi))), (2, .int (nI (qi)))] := hl
  refine lv_aload_n hx hb dX12_ofMark_0 rfl (lv_at hl 0 rfl) ?_
  refine va_get (D := D) (ci := 12) (v := .ref (ad 1)) (C := RX12) (T := TX12) (N := 24) hx hb hts hinX12 hown hK hP 0 rfl rfl 0 (by decide) (hts (.fieldLink RX12 9 "CornDeskModel" "now" "[I") (by decide +kernel)) (fun _ h9 => h9) rfl dX12_ofMark_1 ?_
  refine lv_sipush (v := (nI (202))) hx hb dX12_ofMark_4 (by decide) ?_
  refine lv_bipush (v := (nI (6))) hx hb dX12_ofMark_7 (by decide) ?_
  refine lv_iload_n hx hb dX12_ofMark_9 rfl (lv_at hl 1 rfl) ?_
  refine ln_imul hx hb dX12_ofMark_10 ?_
  refine ln_iadd hx hb dX12_ofMark_11 ?_
  refine lv_iload_n hx hb dX12_ofMark_12 rfl (lv_at hl 2 rfl) ?_
  refine ln_iadd hx hb dX12_ofMark_13 ?_
  refine ln_iald hx hb hK hP 1 0 rfl rfl (by decide) (by omega) dX12_ofMark_14 ?_
  exact hret _ _ _ _ _ _ ⟨rfl, rfl⟩ hP hD hS dX12_ofMark_15
set_option maxHeartbeats 4000000 in
set_option maxRecDepth 100000 in
theorem cM_ofField (l : Launch) (D : va_G) (ad : Nat → Nat) (cI cJ : ClassId) (a kp bt sz : Nat → Nat) (sheets : Nat → Int32) (go ro : Nat → Nat) (car : Nat → Int32) (ke km fi gm bs bu : Nat) (n1 n2 n3 n4 n5 n6 n7 : Int64) (px py db : Nat → Int64) (mi : Nat) (qi : Nat) (hi : 334 + 5 * mi + qi < 598) : mq_i l D (mT cI cJ) yX12_ofField wsX12_ofField 0 0 0 0 [.ref (ad 0), .int (nI (mi)), .int (nI (qi))] (mW ad cI cJ a kp bt sz sheets go ro car ke km fi gm bs bu n1 n2 n3 n4 n5 n6 n7 px py db) (fun r w1 => r = nI (a (334 + 5 * mi + qi)) ∧ w1 = mW ad cI cJ a kp bt sz sheets go ro car ke km fi gm bs bu n1 n2 n3 n4 n5 n6 n7 px py db) := by
  refine mq_i_of (cc := cX12_ofField) (maxL := 3) (by decide) rfl (Nat.le_of_ble_eq_true rfl) ?_
  intro p e s m args below meth c A Q ls hx hb hts hown hml hnm hA hP hK hD hS hl hret
  have hown : s.vm.findClass RX12 = some m.cls := hown
  have hinX12 : ∀ w ∈ u_ws RX12 TX12 24, w ∈ wsX12_ofField := by decide +kernel
  have hl : lv_has ls 3 [(0, .ref (ad 0)), (1, .int (nI (mi))), (2, .int (nI (qi)))] := hl
  refine lv_aload_n hx hb dX12_ofField_0 rfl (lv_at hl 0 rfl) ?_
  refine va_get (D := D) (ci := 12) (v := .ref (ad 1)) (C := RX12) (T := TX12) (N := 24) hx hb hts hinX12 hown hK hP 0 rfl rfl 0 (by decide) (hts (.fieldLink RX12 9 "CornDeskModel" "now" "[I") (by decide +kernel)) (fun _ h9 => h9) rfl dX12_ofField_1 ?_
  refine lv_sipush (v := (nI (334))) hx hb dX12_ofField_4 (by decide) ?_
  refine lv_iconst (v := (nI (5))) hx hb dX12_ofField_7 (by decide) ?_
  refine lv_iload_n hx hb dX12_ofField_8 rfl (lv_at hl 1 rfl) ?_
  refine ln_imul hx hb dX12_ofField_9 ?_
  refine ln_iadd hx hb dX12_ofField_10 ?_
  refine lv_iload_n hx hb dX12_ofField_11 rfl (lv_at hl 2 rfl) ?_
  refine ln_iadd hx hb dX12_ofField_12 ?_
  refine ln_iald hx hb hK hP 1 0 rfl rfl (by decide) (by omega) dX12_ofField_13 ?_
  exact hret _ _ _ _ _ _ ⟨rfl, rfl⟩ hP hD hS dX12_ofField_14
