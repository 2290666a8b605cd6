theorem rg_out {a b : Nat} {v : Int32} (h : ¬ rg a b v) (ha : a < 2 ^ 31) (hb : b < 2 ^ 31) : v.toInt < (a : Int) ∨ (b : Int) < v.toInt := by
  rcases Classical.em (v.toInt < (a : Int)) with q | q
  · exact Or.inl q
  · refine Or.inr (Int.not_le.mp fun q2 => h ⟨Int32.le_iff_toInt_le.mpr ?_, Int32.le_iff_toInt_le.mpr ?_⟩)
    · rw [nI_toInt ha]; omega
    · rw [nI_toInt hb]; omega
set_option maxHeartbeats 4000000 in
set_option maxRecDepth 100000 in
theorem cM_all (l : Launch) (D : va_G) (ad : Nat → Nat) (cI cJ : ClassId) (a kp bt sz : Nat → Nat) (sheets : Nat → Int32) (go ro : Nat → Nat) (car : Nat → Int32) (ke km fi gm bs bu : Nat) (n1 n2 n3 n4 n5 n6 n7 : Int64) (px py db : Nat → Int64) (x : Int32)  : mq_l l D (mT cI cJ) yX12_all wsX12_all 1 0 0 22 [.ref (ad 0), .int (x)] (mW ad cI cJ a kp bt sz sheets go ro car ke km fi gm bs bu n1 n2 n3 n4 n5 n6 n7 px py db) (fun r w1 => (rg 0 4 x → (x = nI 0 → r = (nI (a 0)).toInt64 ∧ w1 = mW ad cI cJ a kp bt sz sheets go ro car ke km fi gm bs bu n1 n2 n3 n4 n5 n6 n7 px py db) ∧ (x = nI 1 → r = (nI (a 1)).toInt64 ∧ w1 = mW ad cI cJ a kp bt sz sheets go ro car ke km fi gm bs bu n1 n2 n3 n4 n5 n6 n7 px py db) ∧ (x = nI 2 → r = (nI (a 3)).toInt64 ∧ w1 = mW ad cI cJ a kp bt sz sheets go ro car ke km fi gm bs bu n1 n2 n3 n4 n5 n6 n7 px py db) ∧ (x = nI 3 → r = (nI (a 2)).toInt64 ∧ w1 = mW ad cI cJ a kp bt sz sheets go ro car ke km fi gm bs bu n1 n2 n3 n4 n5 n6 n7 px py db) ∧ (x = nI 4 → r = (nI (fi)).toInt64 ∧ w1 = mW ad cI cJ a kp bt sz sheets go ro car ke km fi gm bs bu n1 n2 n3 n4 n5 n6 n7 px py db)) ∧ (¬ rg 0 4 x → r = -1000000001 ∧ w1 = mW ad cI cJ a kp bt sz sheets go ro car ke km (fi + 1) gm bs bu n1 n2 n3 n4 n5 n6 n7 px py db)) := by
  refine mq_l_of (cc := cX12_all) (maxL := 2) (by decide) rfl (Nat.le_of_ble_eq_true rfl) ?_
  intro p e s m args below meth c A Q ls hx hb hts hown hml hnm hA hP hK hD hS hl hret
  have hown : s.vm.findClass RX12 = some m.cls := hown
  have hinX12 : ∀ w ∈ u_ws RX12 TX12 24, w ∈ wsX12_all := by decide +kernel
  have hl : lv_has ls 2 [(0, .ref (ad 0)), (1, .int (x))] := hl
  refine lv_iload_n hx hb dX12_all_0 rfl (lv_at hl 1 rfl) ?_
  by_cases hr : rg 0 4 x
  · obtain ⟨j, hj1, hj2, rfl⟩ := rg_of hr (by decide) (by decide)
    rcases (show j = 0 ∨ j = 1 ∨ j = 2 ∨ j = 3 ∨ j = 4 by omega) with rfl | rfl | rfl | rfl | rfl
    · refine lv_tableIn (off := 35) (tgt := 36) hx hb dX12_all_1 (by decide) (by decide) (by decide) (by decide) ?_
      refine lv_aload_n hx hb dX12_all_36 rfl (lv_at hl 0 rfl) ?_
      refine va_get (D := D) (ci := 12) (v := .ref (ad 1)) (C := RX12) (T := TX12) (N := 24) hx hb hts hinX12 hown hK hP 0 rfl rfl 0 (by decide) (hts (.fieldLink RX12 9 "CornDeskModel" "now" "[I") (by decide +kernel)) (fun _ h9 => h9) rfl dX12_all_37 ?_
      refine lv_iconst (v := (nI (0))) hx hb dX12_all_40 (by decide) ?_
      refine ln_iald hx hb hK hP 1 0 rfl rfl (by decide) (by omega) dX12_all_41 ?_
      refine lv_i2l hx hb dX12_all_42 rfl ?_
      exact hret _ _ _ _ _ _ ⟨fun _ => ⟨fun _ => ⟨rfl, rfl⟩, fun h => absurd h (by decide), fun h => absurd h (by decide), fun h => absurd h (by decide), fun h => absurd h (by decide)⟩, fun h => absurd (rg_nI (by decide) (by decide) (by decide)) h⟩ hP hD hS dX12_all_43
    · refine lv_tableIn (off := 43) (tgt := 44) hx hb dX12_all_1 (by decide) (by decide) (by decide) (by decide) ?_
      refine lv_aload_n hx hb dX12_all_44 rfl (lv_at hl 0 rfl) ?_
      refine va_get (D := D) (ci := 12) (v := .ref (ad 1)) (C := RX12) (T := TX12) (N := 24) hx hb hts hinX12 hown hK hP 0 rfl rfl 0 (by decide) (hts (.fieldLink RX12 9 "CornDeskModel" "now" "[I") (by decide +kernel)) (fun _ h9 => h9) rfl dX12_all_45 ?_
      refine lv_iconst (v := (nI (1))) hx hb dX12_all_48 (by decide) ?_
      refine ln_iald hx hb hK hP 1 0 rfl rfl (by decide) (by omega) dX12_all_49 ?_
      refine lv_i2l hx hb dX12_all_50 rfl ?_
      exact hret _ _ _ _ _ _ ⟨fun _ => ⟨fun h => absurd h (by decide), fun _ => ⟨rfl, rfl⟩, fun h => absurd h (by decide), fun h => absurd h (by decide), fun h => absurd h (by decide)⟩, fun h => absurd (rg_nI (by decide) (by decide) (by decide)) h⟩ hP hD hS dX12_all_51
    · refine lv_tableIn (off := 51) (tgt := 52) hx hb dX12_all_1 (by decide) (by decide) (by decide) (by decide) ?_
      refine lv_aload_n hx hb dX12_all_52 rfl (lv_at hl 0 rfl) ?_
      refine va_get (D := D) (ci := 12) (v := .ref (ad 1)) (C := RX12) (T := TX12) (N := 24) hx hb hts hinX12 hown hK hP 0 rfl rfl 0 (by decide) (hts (.fieldLink RX12 9 "CornDeskModel" "now" "[I") (by decide +kernel)) (fun _ h9 => h9) rfl dX12_all_53 ?_
      refine lv_iconst (v := (nI (3))) hx hb dX12_all_56 (by decide) ?_
      refine ln_iald hx hb hK hP 1 0 rfl rfl (by decide) (by omega) dX12_all_57 ?_
      refine lv_i2l hx hb dX12_all_58 rfl ?_
      exact hret _ _ _ _ _ _ ⟨fun _ => ⟨fun h => absurd h (by decide), fun h => absurd h (by decide), fun _ => ⟨rfl, rfl⟩, fun h => absurd h (by decide), fun h => absurd h (by decide)⟩, fun h => absurd (rg_nI (by decide) (by decide) (by decide)) h⟩ hP hD hS dX12_all_59
    · refine lv_tableIn (off := 59) (tgt := 60) hx hb dX12_all_1 (by decide) (by decide) (by decide) (by decide) ?_
      refine lv_aload_n hx hb dX12_all_60 rfl (lv_at hl 0 rfl) ?_
      refine va_get (D := D) (ci := 12) (v := .ref (ad 1)) (C := RX12) (T := TX12) (N := 24) hx hb hts hinX12 hown hK hP 0 rfl rfl 0 (by decide) (hts (.fieldLink RX12 9 "CornDeskModel" "now" "[I") (by decide +kernel)) (fun _ h9 => h9) rfl dX12_all_61 ?_
      refine lv_iconst (v := (nI (2))) hx hb dX12_all_64 (by decide) ?_
      refine ln_iald hx hb hK hP 1 0 rfl rfl (by decide) (by omega) dX12_all_65 ?_
      refine lv_i2l hx hb dX12_all_66 rfl ?_
      exact hret _ _ _ _ _ _ ⟨fun _ => ⟨fun h => absurd h (by decide), fun h => absurd h (by decide), fun h => absurd h (by decide), fun _ => ⟨rfl, rfl⟩, fun h => absurd h (by decide)⟩, fun h => absurd (rg_nI (by decide) (by decide) (by decide)) h⟩ hP hD hS dX12_all_67
    · refine lv_tableIn (off := 67) (tgt := 68) hx hb dX12_all_1 (by decide) (by decide) (by decide) (by decide) ?_
      refine lv_aload_n hx hb dX12_all_68 rfl (lv_at hl 0 rfl) ?_
      refine va_get (D := D) (ci := 12) (v := .int (nI (fi))) (C := RX12) (T := TX12) (N := 24) hx hb hts hinX12 hown hK hP 0 rfl rfl 4 (by decide) (hts (.fieldLink RX12 44 "CornDeskModel" "findings" "I") (by decide +kernel)) (fun _ h9 => h9) rfl dX12_all_69 ?_
      refine lv_i2l hx hb dX12_all_72 rfl ?_
      exact hret _ _ _ _ _ _ ⟨fun _ => ⟨fun h => absurd h (by decide), fun h => absurd h (by decide), fun h => absurd h (by decide), fun h => absurd h (by decide), fun _ => ⟨rfl, rfl⟩⟩, fun h => absurd (rg_nI (by decide) (by decide) (by decide)) h⟩ hP hD hS dX12_all_73
  · refine lv_tableOut (tgt := 74) hx hb dX12_all_1 (rg_out hr (by decide) (by decide)) (by decide) ?_
    refine lv_aload_n hx hb dX12_all_74 rfl (lv_at hl 0 rfl) ?_
    refine lv_ldc2 (v := (-1000000001)) hx hb hown (hts (.constantLong RX12 76 (-1000000001)) (by decide +kernel)) dX12_all_75 ?_
    refine mq_Vl (As := [.long ((-1000000001))]) (rest := []) (ci := 12) (k0 := 0) ⟨hx, hb, hml, hown, hts⟩ (cM_finds l D ad cI cJ a kp bt sz sheets go ro car ke km fi gm bs bu n1 n2 n3 n4 n5 n6 n7 px py db ((-1000000001)) ) (cwV 1 hts gX12_all_X12_finds rfl rfl rfl (by decide +kernel) ⟨Nat.le_of_ble_eq_true rfl, Nat.le_of_ble_eq_true rfl⟩) rfl rfl hP hK hD hS hA rfl hl.1 rfl (Nat.le_of_ble_eq_true rfl) dX12_all_78 ⟨Nat.le_of_ble_eq_true rfl, Nat.le_of_ble_eq_true rfl⟩ (fun r w1 H locs hq hP hD hS => ?_)
    obtain ⟨rfl, rfl⟩ := hq
    exact hret _ _ _ _ _ _ ⟨fun h => absurd h hr, fun _ => ⟨rfl, rfl⟩⟩ hP hD hS dX12_all_81
set_option maxHeartbeats 4000000 in
set_option maxRecDepth 100000 in
theorem cM_sheet (l : Launch) (D : va_G) (ad : Nat → Nat) (cI cJ : ClassId) (a kp bt sz : Nat → Nat) (sheets : Nat → Int32) (go ro : Nat → Nat) (car : Nat → Int32) (ke km fi gm bs bu : Nat) (n1 n2 n3 n4 n5 n6 n7 : Int64) (px py db : Nat → Int64) (x : Int32) (y : Int32) (z : Int32)  : mq_l l D (mT cI cJ) yX12_sheet wsX12_sheet 2 0 0 42 [.ref (ad 0), .int (x), .int (y), .int (z)] (mW ad cI cJ a kp bt sz sheets go ro car ke km fi gm bs bu n1 n2 n3 n4 n5 n6 n7 px py db) (fun r w1 => ((¬ ∃ s' b : Nat, (x = nI s' ∧ y = nI b) ∧ (s' ≤ 3 ∧ (b = 0 ∨ b = 8 ∨ b = 16 ∨ b = 32))) ∧ r = -1000000001 ∧ w1 = mW ad cI cJ a kp bt sz sheets go ro car ke km (fi + 1) gm bs bu n1 n2 n3 n4 n5 n6 n7 px py db) ∨ (∃ s' b : Nat, (x = nI s' ∧ y = nI b) ∧ (s' ≤ 3 ∧ (b = 0 ∨ b = 8 ∨ b = 16 ∨ b = 32)) ∧ ((¬ 0 ≤ z ∧ r = -1000000003 ∧ w1 = mW ad cI cJ a kp bt sz sheets go ro car ke km (fi + 1) gm bs bu n1 n2 n3 n4 n5 n6 n7 px py db) ∨ (0 ≤ z ∧ ¬ z ≤ nI 16 ∧ r = -1000000001 ∧ w1 = mW ad cI cJ a kp bt sz sheets go ro car ke km (fi + 1) gm bs bu n1 n2 n3 n4 n5 n6 n7 px py db) ∨ (∃ n' : Nat, z = nI n' ∧ n' ≤ 16 ∧ r = (nI (if b = 0 then 0 else n')).toInt64 ∧ w1 = mW ad cI cJ a kp (upN bt s' b) (upN sz s' (if b = 0 then 0 else n')) (cpI sheets (fun _ => nI 0) (16 * s') 16) go ro car ke km fi gm bs bu n1 n2 n3 n4 n5 n6 n7 px py db)))) := by
  refine mq_l_of (cc := cX12_sheet) (maxL := 5) (by decide) rfl (Nat.le_of_ble_eq_true rfl) ?_
  intro p e s m args below meth c A Q ls hx hb hts hown hml hnm hA hP hK hD hS hl hret
  have hown : s.vm.findClass RX12 = some m.cls := hown
  have hinX12 : ∀ w ∈ u_ws RX12 TX12 24, w ∈ wsX12_sheet := by decide +kernel
  have hl : lv_has ls 5 [(0, .ref (ad 0)), (1, .int (x)), (2, .int (y)), (3, .int (z))] := hl
  refine lv_iload_n hx hb dX12_sheet_0 rfl (lv_at hl 1 rfl) ?_
  refine mq_Si (As := [.int (x)]) (rest := []) ⟨hx, hb, hml, hown, hts⟩ (cM_isSheet l D _ (x) ) (cwS 1 hts gX12_sheet_X12_isSheet rfl rfl rfl (by decide +kernel) ⟨Nat.le_of_ble_eq_true rfl, Nat.le_of_ble_eq_true rfl⟩) hP hK hS hA rfl hl.1 rfl (Nat.le_of_ble_eq_true rfl) dX12_sheet_1 ⟨Nat.le_of_ble_eq_true rfl, Nat.le_of_ble_eq_true rfl⟩ (fun r w1 H locs hq hP hS => ?_)
  subst hq
  refine lb_if_eq (tgt := 29) hx hb dX12_sheet_4 (by decide) (fun c1 => ?_) (fun c1 => ?_)
  · refine lv_aload_n hx hb dX12_sheet_29 rfl (lv_at hl 0 rfl) ?_
    refine lv_ldc2 (v := (-1000000001)) hx hb hown (hts (.constantLong RX12 76 (-1000000001)) (by decide +kernel)) dX12_sheet_30 ?_
    refine mq_Vl (As := [.long ((-1000000001))]) (rest := []) (ci := 12) (k0 := 0) ⟨hx, hb, hml, hown, hts⟩ (cM_finds l D ad cI cJ a kp bt sz sheets go ro car ke km fi gm bs bu n1 n2 n3 n4 n5 n6 n7 px py db ((-1000000001)) ) (cwV 1 hts gX12_sheet_X12_finds rfl rfl rfl (by decide +kernel) ⟨Nat.le_of_ble_eq_true rfl, Nat.le_of_ble_eq_true rfl⟩) rfl rfl hP hK hD hS hA rfl hl.1 rfl (Nat.le_of_ble_eq_true rfl) dX12_sheet_33 ⟨Nat.le_of_ble_eq_true rfl, Nat.le_of_ble_eq_true rfl⟩ (fun r w1 H locs hq hP hD hS => ?_)
    obtain ⟨rfl, rfl⟩ := hq
    exact hret _ _ _ _ _ _ (Or.inl ⟨fun hh => by obtain ⟨s', b, ⟨e1, e2⟩, h⟩ := hh; subst e1; subst e2; exact c1 (rg_nI (Nat.zero_le _) h.1 (by decide)), rfl, rfl⟩) hP hD hS dX12_sheet_36
  · obtain ⟨s', -, hs, rfl⟩ := rg_of c1 (by decide) (by decide)
    have tail : ∀ (b : Nat), (y = nI b) → ((b = 0 ∨ b = 8 ∨ b = 16 ∨ b = 32)) → ∀ (H : Heap) (locs : List Loc) (ls : Array Slot), va_P D vwCl (mW ad cI cJ a kp bt sz sheets go ro car ke km fi gm bs bu n1 n2 n3 n4 n5 n6 n7 px py db) H → va_D A (mW ad cI cJ a kp bt sz sheets go ro car ke km fi gm bs bu n1 n2 n3 n4 n5 n6 n7 px py db) → va_S A s.heap H locs → lv_has ls 5 [(2, .int (nI (b))), (0, .ref (ad 0)), (1, .int (nI (s'))), (3, .int (z))] → W p l e (mq_R 2 0 0 42) s m args below meth c H locs 0 0 Q (F0 m 37 ls []) := by
      intro b hb2 hbb H locs ls hP hD hS hl
      refine lv_iload_n hx hb dX12_sheet_37 rfl (lv_at hl 3 rfl) ?_
      refine lv_if_ge (tgt := 49) hx hb dX12_sheet_38 (by decide) (fun c3 => ?_) (fun c3 => ?_)
      · refine lv_iload_n hx hb dX12_sheet_49 rfl (lv_at hl 3 rfl) ?_
        refine lv_bipush (v := (nI (16))) hx hb dX12_sheet_50 (by decide) ?_
        refine lv_icmp_le (tgt := 63) hx hb dX12_sheet_52 (by decide) (fun c4 => ?_) (fun c4 => ?_)
        · have hz : rg 0 16 z := ⟨c3, c4⟩
          obtain ⟨n', -, hn, ez⟩ := rg_of hz (by decide) (by decide)
          rw [ez] at hl
          refine lv_aload_n hx hb dX12_sheet_63 rfl (lv_at hl 1 rfl) ?_
          refine va_get (D := D) (ci := 12) (v := .ref (ad 3)) (C := RX12) (T := TX12) (N := 24) hx hb hts hinX12 hown hK hP 0 rfl rfl 5 (by decide) (hts (.fieldLink RX12 16 "CornDeskModel" "sheetBits" "[I") (by decide +kernel)) (fun _ h9 => h9) rfl dX12_sheet_64 ?_
          refine lv_iload_n hx hb dX12_sheet_67 rfl (lv_at hl 2 rfl) ?_
          refine lv_iload_n hx hb dX12_sheet_68 rfl (lv_at hl 0 rfl) ?_
          refine ln_iastN hx hb hK hP hD hS 3 0 rfl rfl (by decide) (by omega) dX12_sheet_69 (fun H locs hP hD hS => ?_)
          have hP : va_P D vwCl (mW ad cI cJ a kp (upN bt (s') (b)) sz sheets go ro car ke km fi gm bs bu n1 n2 n3 n4 n5 n6 n7 px py db) H := hP
          have hD : va_D A (mW ad cI cJ a kp (upN bt (s') (b)) sz sheets go ro car ke km fi gm bs bu n1 n2 n3 n4 n5 n6 n7 px py db) := hD
          refine lv_aload_n hx hb dX12_sheet_70 rfl (lv_at hl 1 rfl) ?_
          refine va_get (D := D) (ci := 12) (v := .ref (ad 4)) (C := RX12) (T := TX12) (N := 24) hx hb hts hinX12 hown hK hP 0 rfl rfl 6 (by decide) (hts (.fieldLink RX12 19 "CornDeskModel" "sheetSize" "[I") (by decide +kernel)) (fun _ h9 => h9) rfl dX12_sheet_71 ?_
          refine lv_iload_n hx hb dX12_sheet_74 rfl (lv_at hl 2 rfl) ?_
          refine lv_iload_n hx hb dX12_sheet_75 rfl (lv_at hl 0 rfl) ?_
          refine ln_if_ne (tgt := 83) hx hb dX12_sheet_76 (by decide) (by omega) (fun c5 => ?_) (fun c5 => ?_)
          · have es : (if b = 0 then 0 else n') = n' := if_neg (by omega)
            refine lv_iload_n hx hb dX12_sheet_83 rfl (lv_at hl 3 rfl) ?_
            refine ln_iastN hx hb hK hP hD hS 4 0 rfl rfl (by decide) (by omega) dX12_sheet_84 (fun H locs hP hD hS => ?_)
            have hP : va_P D vwCl (mW ad cI cJ a kp (upN bt (s') (b)) (upN sz (s') (n')) sheets go ro car ke km fi gm bs bu n1 n2 n3 n4 n5 n6 n7 px py db) H := hP
            have hD : va_D A (mW ad cI cJ a kp (upN bt (s') (b)) (upN sz (s') (n')) sheets go ro car ke km fi gm bs bu n1 n2 n3 n4 n5 n6 n7 px py db) := hD
            refine lv_iconst (v := (nI (0))) hx hb dX12_sheet_85 (by decide) ?_
            refine lv_istore (lv' := [(4, .int (nI (0))), (2, .int (nI (b))), (0, .ref (ad 0)), (1, .int (nI (s'))), (3, .int (nI (n')))]) hx hb dX12_sheet_86 hl (by decide) rfl (fun ls hl => ?_)
            have lp : ∀ (n : Nat) (k : Nat), (k + n = 16) → ∀ (H : Heap) (locs : List Loc) (ls : Array Slot), va_P D vwCl (mW ad cI cJ a kp (upN bt (s') (b)) (upN sz (s') (n')) (cpI sheets (fun _ => nI 0) (16 * s') k) go ro car ke km fi gm bs bu n1 n2 n3 n4 n5 n6 n7 px py db) H → va_D A (mW ad cI cJ a kp (upN bt (s') (b)) (upN sz (s') (n')) (cpI sheets (fun _ => nI 0) (16 * s') k) go ro car ke km fi gm bs bu n1 n2 n3 n4 n5 n6 n7 px py db) → va_S A s.heap H locs → lv_has ls 5 [(4, .int (nI (k))), (0, .ref (ad 0)), (1, .int (nI (s')))] → W p l e (mq_R 2 0 0 42) s m args below meth c H locs 0 0 Q (F0 m 88 ls []) := by
              intro n
              induction n with
              | zero =>
                intro k hk H locs ls hP hD hS hl
                refine lv_iload hx hb dX12_sheet_88 (lv_at hl 0 rfl) ?_
                refine lv_bipush (v := (nI (16))) hx hb dX12_sheet_90 (by decide) ?_
                refine ln_icmp_ge (tgt := 114) hx hb dX12_sheet_92 (by decide) (by omega) (by omega) (fun c6 => ?_) (fun c6 => ?_)
                · have hk0 : k = 16 := by omega
                  subst hk0
                  refine lv_aload_n hx hb dX12_sheet_114 rfl (lv_at hl 1 rfl) ?_
                  refine va_get (D := D) (ci := 12) (v := .ref (ad 4)) (C := RX12) (T := TX12) (N := 24) hx hb hts hinX12 hown hK hP 0 rfl rfl 6 (by decide) (hts (.fieldLink RX12 19 "CornDeskModel" "sheetSize" "[I") (by decide +kernel)) (fun _ h9 => h9) rfl dX12_sheet_115 ?_
                  refine lv_iload_n hx hb dX12_sheet_118 rfl (lv_at hl 2 rfl) ?_
                  refine ln_iald hx hb hK hP 4 0 rfl rfl (by decide) (by omega) dX12_sheet_119 ?_
                  refine ln_eqi (y := (nI (n'))) (congrArg nI (by simp only [upN, if_true]; (repeat first | rw [if_neg (by omega)] | rw [if_pos (by omega)]))) ?_
                  refine lv_i2l hx hb dX12_sheet_120 rfl ?_
                  exact hret _ _ _ _ _ _ (Or.inr ⟨s', b, ⟨rfl, hb2⟩, ⟨hs, hbb⟩, Or.inr (Or.inr ⟨n', ez, hn, by rw [es], by rw [es]⟩)⟩) hP hD hS dX12_sheet_121
                · exact absurd hk (by omega)
              | succ n ih =>
                intro k hk H locs ls hP hD hS hl
                refine lv_iload hx hb dX12_sheet_88 (lv_at hl 0 rfl) ?_
                refine lv_bipush (v := (nI (16))) hx hb dX12_sheet_90 (by decide) ?_
                refine ln_icmp_ge (tgt := 114) hx hb dX12_sheet_92 (by decide) (by omega) (by omega) (fun c6 => ?_) (fun c6 => ?_)
                · exact absurd hk (by omega)
                · refine lv_aload_n hx hb dX12_sheet_95 rfl (lv_at hl 1 rfl) ?_
                  refine va_get (D := D) (ci := 12) (v := .ref (ad 5)) (C := RX12) (T := TX12) (N := 24) hx hb hts hinX12 hown hK hP 0 rfl rfl 7 (by decide) (hts (.fieldLink RX12 22 "CornDeskModel" "sheets" "[I") (by decide +kernel)) (fun _ h9 => h9) rfl dX12_sheet_96 ?_
                  refine lv_bipush (v := (nI (16))) hx hb dX12_sheet_99 (by decide) ?_
                  refine lv_iload_n hx hb dX12_sheet_101 rfl (lv_at hl 2 rfl) ?_
                  refine ln_imul hx hb dX12_sheet_102 ?_
                  refine lv_iload hx hb dX12_sheet_103 (lv_at hl 0 rfl) ?_
                  refine ln_iadd hx hb dX12_sheet_105 ?_
                  refine lv_iconst (v := (nI (0))) hx hb dX12_sheet_106 (by decide) ?_
                  refine ln_iast hx hb hK hP hD hS 5 0 rfl rfl (by decide) (by omega) dX12_sheet_107 (fun H locs hP hD hS => ?_)
                  have hP : va_P D vwCl (mW ad cI cJ a kp (upN bt (s') (b)) (upN sz (s') (n')) (upd (cpI sheets (fun _ => nI 0) (16 * s') k) ((16) * (s') + k) (nI (0))) go ro car ke km fi gm bs bu n1 n2 n3 n4 n5 n6 n7 px py db) H := hP
                  have hD : va_D A (mW ad cI cJ a kp (upN bt (s') (b)) (upN sz (s') (n')) (upd (cpI sheets (fun _ => nI 0) (16 * s') k) ((16) * (s') + k) (nI (0))) go ro car ke km fi gm bs bu n1 n2 n3 n4 n5 n6 n7 px py db) := hD
                  refine lv_iinc (v := (nI (k + 1))) (lv' := [(4, .int (nI (k + 1))), (0, .ref (ad 0)), (1, .int (nI (s')))]) hx hb dX12_sheet_108 hl (k := 0) rfl (by rw [show (Int32.ofInt 1) = nI 1 from rfl, nI_add]) (by decide) rfl (fun ls hl => ?_)
                  refine lv_goto (tgt := 88) hx hb dX12_sheet_111 (by decide) ?_
                  exact ih (k + 1) (by omega) _ _ _ (by rw [← cpI_s]; exact hP) (by rw [← cpI_s]; exact hD) hS hl
            exact lp (16) (0) (by omega) _ _ _ (by rw [cpI_0]; exact hP) (by rw [cpI_0]; exact hD) hS (lv_sub hl [0, 2, 3] rfl)
          · have es : (if b = 0 then 0 else n') = 0 := if_pos c5
            refine lv_iconst (v := (nI (0))) hx hb dX12_sheet_79 (by decide) ?_
            refine lv_goto (tgt := 84) hx hb dX12_sheet_80 (by decide) ?_
            refine ln_iastN hx hb hK hP hD hS 4 0 rfl rfl (by decide) (by omega) dX12_sheet_84 (fun H locs hP hD hS => ?_)
            have hP : va_P D vwCl (mW ad cI cJ a kp (upN bt (s') (b)) (upN sz (s') (0)) sheets go ro car ke km fi gm bs bu n1 n2 n3 n4 n5 n6 n7 px py db) H := hP
            have hD : va_D A (mW ad cI cJ a kp (upN bt (s') (b)) (upN sz (s') (0)) sheets go ro car ke km fi gm bs bu n1 n2 n3 n4 n5 n6 n7 px py db) := hD
            refine lv_iconst (v := (nI (0))) hx hb dX12_sheet_85 (by decide) ?_
            refine lv_istore (lv' := [(4, .int (nI (0))), (2, .int (nI (b))), (0, .ref (ad 0)), (1, .int (nI (s'))), (3, .int (nI (n')))]) hx hb dX12_sheet_86 hl (by decide) rfl (fun ls hl => ?_)
            have lp : ∀ (n : Nat) (k : Nat), (k + n = 16) → ∀ (H : Heap) (locs : List Loc) (ls : Array Slot), va_P D vwCl (mW ad cI cJ a kp (upN bt (s') (b)) (upN sz (s') (0)) (cpI sheets (fun _ => nI 0) (16 * s') k) go ro car ke km fi gm bs bu n1 n2 n3 n4 n5 n6 n7 px py db) H → va_D A (mW ad cI cJ a kp (upN bt (s') (b)) (upN sz (s') (0)) (cpI sheets (fun _ => nI 0) (16 * s') k) go ro car ke km fi gm bs bu n1 n2 n3 n4 n5 n6 n7 px py db) → va_S A s.heap H locs → lv_has ls 5 [(4, .int (nI (k))), (0, .ref (ad 0)), (1, .int (nI (s')))] → W p l e (mq_R 2 0 0 42) s m args below meth c H locs 0 0 Q (F0 m 88 ls []) := by
              intro n
              induction n with
              | zero =>
                intro k hk H locs ls hP hD hS hl
                refine lv_iload hx hb dX12_sheet_88 (lv_at hl 0 rfl) ?_
                refine lv_bipush (v := (nI (16))) hx hb dX12_sheet_90 (by decide) ?_
                refine ln_icmp_ge (tgt := 114) hx hb dX12_sheet_92 (by decide) (by omega) (by omega) (fun c6 => ?_) (fun c6 => ?_)
                · have hk0 : k = 16 := by omega
                  subst hk0
                  refine lv_aload_n hx hb dX12_sheet_114 rfl (lv_at hl 1 rfl) ?_
                  refine va_get (D := D) (ci := 12) (v := .ref (ad 4)) (C := RX12) (T := TX12) (N := 24) hx hb hts hinX12 hown hK hP 0 rfl rfl 6 (by decide) (hts (.fieldLink RX12 19 "CornDeskModel" "sheetSize" "[I") (by decide +kernel)) (fun _ h9 => h9) rfl dX12_sheet_115 ?_
                  refine lv_iload_n hx hb dX12_sheet_118 rfl (lv_at hl 2 rfl) ?_
                  refine ln_iald hx hb hK hP 4 0 rfl rfl (by decide) (by omega) dX12_sheet_119 ?_
                  refine ln_eqi (y := (nI (0))) (congrArg nI (by simp only [upN, if_true]; (repeat first | rw [if_neg (by omega)] | rw [if_pos (by omega)]))) ?_
                  refine lv_i2l hx hb dX12_sheet_120 rfl ?_
                  exact hret _ _ _ _ _ _ (Or.inr ⟨s', b, ⟨rfl, hb2⟩, ⟨hs, hbb⟩, Or.inr (Or.inr ⟨n', ez, hn, by rw [es], by rw [es]⟩)⟩) hP hD hS dX12_sheet_121
                · exact absurd hk (by omega)
              | succ n ih =>
                intro k hk H locs ls hP hD hS hl
                refine lv_iload hx hb dX12_sheet_88 (lv_at hl 0 rfl) ?_
                refine lv_bipush (v := (nI (16))) hx hb dX12_sheet_90 (by decide) ?_
                refine ln_icmp_ge (tgt := 114) hx hb dX12_sheet_92 (by decide) (by omega) (by omega) (fun c6 => ?_) (fun c6 => ?_)
                · exact absurd hk (by omega)
                · refine lv_aload_n hx hb dX12_sheet_95 rfl (lv_at hl 1 rfl) ?_
                  refine va_get (D := D) (ci := 12) (v := .ref (ad 5)) (C := RX12) (T := TX12) (N := 24) hx hb hts hinX12 hown hK hP 0 rfl rfl 7 (by decide) (hts (.fieldLink RX12 22 "CornDeskModel" "sheets" "[I") (by decide +kernel)) (fun _ h9 => h9) rfl dX12_sheet_96 ?_
                  refine lv_bipush (v := (nI (16))) hx hb dX12_sheet_99 (by decide) ?_
                  refine lv_iload_n hx hb dX12_sheet_101 rfl (lv_at hl 2 rfl) ?_
                  refine ln_imul hx hb dX12_sheet_102 ?_
                  refine lv_iload hx hb dX12_sheet_103 (lv_at hl 0 rfl) ?_
                  refine ln_iadd hx hb dX12_sheet_105 ?_
                  refine lv_iconst (v := (nI (0))) hx hb dX12_sheet_106 (by decide) ?_
                  refine ln_iast hx hb hK hP hD hS 5 0 rfl rfl (by decide) (by omega) dX12_sheet_107 (fun H locs hP hD hS => ?_)
                  have hP : va_P D vwCl (mW ad cI cJ a kp (upN bt (s') (b)) (upN sz (s') (0)) (upd (cpI sheets (fun _ => nI 0) (16 * s') k) ((16) * (s') + k) (nI (0))) go ro car ke km fi gm bs bu n1 n2 n3 n4 n5 n6 n7 px py db) H := hP
                  have hD : va_D A (mW ad cI cJ a kp (upN bt (s') (b)) (upN sz (s') (0)) (upd (cpI sheets (fun _ => nI 0) (16 * s') k) ((16) * (s') + k) (nI (0))) go ro car ke km fi gm bs bu n1 n2 n3 n4 n5 n6 n7 px py db) := hD
                  refine lv_iinc (v := (nI (k + 1))) (lv' := [(4, .int (nI (k + 1))), (0, .ref (ad 0)), (1, .int (nI (s')))]) hx hb dX12_sheet_108 hl (k := 0) rfl (by rw [show (Int32.ofInt 1) = nI 1 from rfl, nI_add]) (by decide) rfl (fun ls hl => ?_)
                  refine lv_goto (tgt := 88) hx hb dX12_sheet_111 (by decide) ?_
                  exact ih (k + 1) (by omega) _ _ _ (by rw [← cpI_s]; exact hP) (by rw [← cpI_s]; exact hD) hS hl
            exact lp (16) (0) (by omega) _ _ _ (by rw [cpI_0]; exact hP) (by rw [cpI_0]; exact hD) hS (lv_sub hl [0, 2, 3] rfl)
        · refine lv_aload_n hx hb dX12_sheet_55 rfl (lv_at hl 1 rfl) ?_
          refine lv_ldc2 (v := (-1000000001)) hx hb hown (hts (.constantLong RX12 76 (-1000000001)) (by decide +kernel)) dX12_sheet_56 ?_
          refine mq_Vl (As := [.long ((-1000000001))]) (rest := []) (ci := 12) (k0 := 0) ⟨hx, hb, hml, hown, hts⟩ (cM_finds l D ad cI cJ a kp bt sz sheets go ro car ke km fi gm bs bu n1 n2 n3 n4 n5 n6 n7 px py db ((-1000000001)) ) (cwV 1 hts gX12_sheet_X12_finds rfl rfl rfl (by decide +kernel) ⟨Nat.le_of_ble_eq_true rfl, Nat.le_of_ble_eq_true rfl⟩) rfl rfl hP hK hD hS hA rfl hl.1 rfl (Nat.le_of_ble_eq_true rfl) dX12_sheet_59 ⟨Nat.le_of_ble_eq_true rfl, Nat.le_of_ble_eq_true rfl⟩ (fun r w1 H locs hq hP hD hS => ?_)
          obtain ⟨rfl, rfl⟩ := hq
          exact hret _ _ _ _ _ _ (Or.inr ⟨s', b, ⟨rfl, hb2⟩, ⟨hs, hbb⟩, Or.inr (Or.inl ⟨c3, c4, rfl, rfl⟩)⟩) hP hD hS dX12_sheet_62
      · refine lv_aload_n hx hb dX12_sheet_41 rfl (lv_at hl 1 rfl) ?_
        refine lv_ldc2 (v := (-1000000003)) hx hb hown (hts (.constantLong RX12 197 (-1000000003)) (by decide +kernel)) dX12_sheet_42 ?_
        refine mq_Vl (As := [.long ((-1000000003))]) (rest := []) (ci := 12) (k0 := 0) ⟨hx, hb, hml, hown, hts⟩ (cM_finds l D ad cI cJ a kp bt sz sheets go ro car ke km fi gm bs bu n1 n2 n3 n4 n5 n6 n7 px py db ((-1000000003)) ) (cwV 1 hts gX12_sheet_X12_finds rfl rfl rfl (by decide +kernel) ⟨Nat.le_of_ble_eq_true rfl, Nat.le_of_ble_eq_true rfl⟩) rfl rfl hP hK hD hS hA rfl hl.1 rfl (Nat.le_of_ble_eq_true rfl) dX12_sheet_45 ⟨Nat.le_of_ble_eq_true rfl, Nat.le_of_ble_eq_true rfl⟩ (fun r w1 H locs hq hP hD hS => ?_)
        obtain ⟨rfl, rfl⟩ := hq
        exact hret _ _ _ _ _ _ (Or.inr ⟨s', b, ⟨rfl, hb2⟩, ⟨hs, hbb⟩, Or.inl ⟨c3, rfl, rfl⟩⟩) hP hD hS dX12_sheet_48
    refine lv_iload_n hx hb dX12_sheet_7 rfl (lv_at hl 2 rfl) ?_
    refine lv_if_eq (tgt := 37) hx hb dX12_sheet_8 (by decide) (fun k0 => ?_) (fun k0 => ?_)
    · have k0 : y = nI 0 := k0
      subst k0
      exact tail (0) (rfl) (by decide) _ _ _ hP hD hS (lv_sub hl [2, 0, 1, 3] rfl)
    · refine lv_iload_n hx hb dX12_sheet_11 rfl (lv_at hl 2 rfl) ?_
      refine lv_bipush (v := (nI (8))) hx hb dX12_sheet_12 (by decide) ?_
      refine lv_icmp_eq (tgt := 37) hx hb dX12_sheet_14 (by decide) (fun k8 => ?_) (fun k8 => ?_)
      · subst k8
        exact tail (8) (rfl) (by decide) _ _ _ hP hD hS (lv_sub hl [2, 0, 1, 3] rfl)
      · refine lv_iload_n hx hb dX12_sheet_17 rfl (lv_at hl 2 rfl) ?_
        refine lv_bipush (v := (nI (16))) hx hb dX12_sheet_18 (by decide) ?_
        refine lv_icmp_eq (tgt := 37) hx hb dX12_sheet_20 (by decide) (fun k16 => ?_) (fun k16 => ?_)
        · subst k16
          exact tail (16) (rfl) (by decide) _ _ _ hP hD hS (lv_sub hl [2, 0, 1, 3] rfl)
        · refine lv_iload_n hx hb dX12_sheet_23 rfl (lv_at hl 2 rfl) ?_
          refine lv_bipush (v := (nI (32))) hx hb dX12_sheet_24 (by decide) ?_
          refine lv_icmp_eq (tgt := 37) hx hb dX12_sheet_26 (by decide) (fun k32 => ?_) (fun k32 => ?_)
          · subst k32
            exact tail (32) (rfl) (by decide) _ _ _ hP hD hS (lv_sub hl [2, 0, 1, 3] rfl)
          · refine lv_aload_n hx hb dX12_sheet_29 rfl (lv_at hl 0 rfl) ?_
            refine lv_ldc2 (v := (-1000000001)) hx hb hown (hts (.constantLong RX12 76 (-1000000001)) (by decide +kernel)) dX12_sheet_30 ?_
            refine mq_Vl (As := [.long ((-1000000001))]) (rest := []) (ci := 12) (k0 := 0) ⟨hx, hb, hml, hown, hts⟩ (cM_finds l D ad cI cJ a kp bt sz sheets go ro car ke km fi gm bs bu n1 n2 n3 n4 n5 n6 n7 px py db ((-1000000001)) ) (cwV 1 hts gX12_sheet_X12_finds rfl rfl rfl (by decide +kernel) ⟨Nat.le_of_ble_eq_true rfl, Nat.le_of_ble_eq_true rfl⟩) rfl rfl hP hK hD hS hA rfl hl.1 rfl (Nat.le_of_ble_eq_true rfl) dX12_sheet_33 ⟨Nat.le_of_ble_eq_true rfl, Nat.le_of_ble_eq_true rfl⟩ (fun r w1 H locs hq hP hD hS => ?_)
            obtain ⟨rfl, rfl⟩ := hq
            exact hret _ _ _ _ _ _ (Or.inl ⟨fun hh => by obtain ⟨s2, b, ⟨e1, e2⟩, h⟩ := hh; subst e2; rcases h.2 with h | h | h | h <;> subst h <;> first | exact k0 rfl | exact k8 rfl | exact k16 rfl | exact k32 rfl, rfl, rfl⟩) hP hD hS dX12_sheet_36
def wdI (b : Nat) (v : Int32) : Int32 := if b = 8 then v.toInt8.toInt32 else if b = 16 then v.toInt16.toInt32 else v
theorem wdI_8 {b : Nat} (v : Int32) (h : b = 8) : wdI b v = v.toInt8.toInt32 := if_pos h
theorem wdI_16 {b : Nat} (v : Int32) (h0 : b ≠ 8) (h : b = 16) : wdI b v = v.toInt16.toInt32 := by rw [wdI, if_neg h0, if_pos h]
theorem wdI_32 {b : Nat} (v : Int32) (h0 : b ≠ 8) (h : b ≠ 16) : wdI b v = v := by rw [wdI, if_neg h0, if_neg h]
theorem lg_gt {x y : Int64} : 0 < lg_cmp x y ↔ y < x := by
  unfold lg_cmp
  by_cases h1 : y < x
  · simp [h1]
  · by_cases h2 : x = y
    · simp [h2]
    · simp [h1, h2]
theorem lg_gtN {a b : Nat} (ha : a < 2 ^ 63) (hb : b < 2 ^ 63) : 0 < lg_cmp (lN a) (lN b) ↔ b < a := by rw [lg_gt, pk_lLT hb ha]
theorem lg_le0 {x y : Int64} : lg_cmp x y ≤ 0 ↔ ¬ 0 < lg_cmp x y := by
  unfold lg_cmp
  by_cases h1 : y < x
  · simp [h1]
  · by_cases h2 : x = y
    · simp [h2]
    · simp [h1, h2]
theorem i2lN {a b : Nat} (ha : a < 2 ^ 31) (hb : b < 2 ^ 31) : (nI a).toInt64 + (nI b).toInt64 = lN (a + b) := by rw [nI_l ha, nI_l hb, lN_add]
theorem cpI_s0 (f g : Nat → Int32) (k : Nat) : upd (cpI f g 0 k) k (g k) = cpI f g 0 (k + 1) := by
  have h := cpI_s f g 0 k
  rw [Nat.zero_add] at h
  exact h
theorem cpI_cong {f g g' : Nat → Int32} {d n : Nat} (h : ∀ j, j < n → g j = g' j) : cpI f g d n = cpI f g' d n := by
  funext j
  simp only [cpI]
  by_cases h2 : d ≤ j ∧ j < d + n
  · rw [if_pos h2, if_pos h2, h _ (by omega)]
  · rw [if_neg h2, if_neg h2]
theorem i32neg {x : Int32} (h : ¬ x < 0) : ∃ j : Nat, j < 2 ^ 31 ∧ x = nI j := nI_of h
set_option maxHeartbeats 4000000 in
set_option maxRecDepth 100000 in
theorem cM_put (l : Launch) (D : va_G) (ad : Nat → Nat) (cI cJ : ClassId) (a kp bt sz : Nat → Nat) (sheets : Nat → Int32) (go ro : Nat → Nat) (car : Nat → Int32) (ke km fi gm bs bu : Nat) (n1 n2 n3 n4 n5 n6 n7 : Int64) (px py db : Nat → Int64) (x : Int32) (y : Int32) (z : Int32) (hsz : ∀ j, j ≤ 3 → sz j ≤ 16) (hbt : ∀ j, j ≤ 3 → bt j = 0 ∨ bt j = 8 ∨ bt j = 16 ∨ bt j = 32) : mq_l l D (mT cI cJ) yX12_put wsX12_put 2 0 0 42 [.ref (ad 0), .int (x), .int (y), .int (z)] (mW ad cI cJ a kp bt sz sheets go ro car ke km fi gm bs bu n1 n2 n3 n4 n5 n6 n7 px py db) (fun r w1 => (¬ rg 0 3 x ∧ r = -1000000001 ∧ w1 = mW ad cI cJ a kp bt sz sheets go ro car ke km (fi + 1) gm bs bu n1 n2 n3 n4 n5 n6 n7 px py db) ∨ (∃ s' : Nat, (x = nI s' ∧ s' ≤ 3) ∧ ((bt s' = 0 ∧ r = -1000000002 ∧ w1 = mW ad cI cJ a kp bt sz sheets go ro car ke km (fi + 1) gm bs bu n1 n2 n3 n4 n5 n6 n7 px py db) ∨ (0 < bt s' ∧ ¬ ix (sz s') y ∧ r = -1000000001 ∧ w1 = mW ad cI cJ a kp bt sz sheets go ro car ke km (fi + 1) gm bs bu n1 n2 n3 n4 n5 n6 n7 px py db) ∨ (0 < bt s' ∧ ∃ i : Nat, y = nI i ∧ i < sz s' ∧ r = 0 ∧ w1 = mW ad cI cJ a kp bt sz (upd sheets (16 * s' + i) (wdI (bt s') z)) go ro car ke km fi gm bs bu n1 n2 n3 n4 n5 n6 n7 px py db)))) := by
  refine mq_l_of (cc := cX12_put) (maxL := 4) (by decide) rfl (Nat.le_of_ble_eq_true rfl) ?_
  intro p e s m args below meth c A Q ls hx hb hts hown hml hnm hA hP hK hD hS hl hret
  have hown : s.vm.findClass RX12 = some m.cls := hown
  have hinX12 : ∀ w ∈ u_ws RX12 TX12 24, w ∈ wsX12_put := by decide +kernel
  have hl : lv_has ls 4 [(0, .ref (ad 0)), (1, .int (x)), (2, .int (y)), (3, .int (z))] := hl
  refine lv_iload_n hx hb dX12_put_0 rfl (lv_at hl 1 rfl) ?_
  refine mq_Si (As := [.int (x)]) (rest := []) ⟨hx, hb, hml, hown, hts⟩ (cM_isSheet l D _ (x) ) (cwS 1 hts gX12_put_X12_isSheet rfl rfl rfl (by decide +kernel) ⟨Nat.le_of_ble_eq_true rfl, Nat.le_of_ble_eq_true rfl⟩) hP hK hS hA rfl hl.1 rfl (Nat.le_of_ble_eq_true rfl) dX12_put_1 ⟨Nat.le_of_ble_eq_true rfl, Nat.le_of_ble_eq_true rfl⟩ (fun r w1 H locs hq hP hS => ?_)
  subst hq
  refine lb_if_ne (tgt := 15) hx hb dX12_put_4 (by decide) (fun c1 => ?_) (fun c1 => ?_)
  · obtain ⟨s', -, hs, rfl⟩ := rg_of c1 (by decide) (by decide)
    have hz := hsz s' hs
    have hb2 := hbt s' hs
    refine lv_aload_n hx hb dX12_put_15 rfl (lv_at hl 0 rfl) ?_
    refine va_get (D := D) (ci := 12) (v := .ref (ad 3)) (C := RX12) (T := TX12) (N := 24) hx hb hts hinX12 hown hK hP 0 rfl rfl 5 (by decide) (hts (.fieldLink RX12 16 "CornDeskModel" "sheetBits" "[I") (by decide +kernel)) (fun _ h9 => h9) rfl dX12_put_16 ?_
    refine lv_iload_n hx hb dX12_put_19 rfl (lv_at hl 1 rfl) ?_
    refine ln_iald hx hb hK hP 3 0 rfl rfl (by decide) (by omega) dX12_put_20 ?_
    refine ln_if_ne (tgt := 32) hx hb dX12_put_21 (by decide) (by omega) (fun c2 => ?_) (fun c2 => ?_)
    · refine lv_iload_n hx hb dX12_put_32 rfl (lv_at hl 2 rfl) ?_
      refine lv_iconst (v := (nI (0))) hx hb dX12_put_33 (by decide) ?_
      refine lv_aload_n hx hb dX12_put_34 rfl (lv_at hl 0 rfl) ?_
      refine va_get (D := D) (ci := 12) (v := .ref (ad 4)) (C := RX12) (T := TX12) (N := 24) hx hb hts hinX12 hown hK hP 0 rfl rfl 6 (by decide) (hts (.fieldLink RX12 19 "CornDeskModel" "sheetSize" "[I") (by decide +kernel)) (fun _ h9 => h9) rfl dX12_put_35 ?_
      refine lv_iload_n hx hb dX12_put_38 rfl (lv_at hl 1 rfl) ?_
      refine ln_iald hx hb hK hP 4 0 rfl rfl (by decide) (by omega) dX12_put_39 ?_
      refine lv_iconst (v := (nI (1))) hx hb dX12_put_40 (by decide) ?_
      refine lv_isub hx hb dX12_put_41 ?_
      refine mq_Si (As := [.int (y), .int (nI (0)), .int ((nI (sz (s'))) - (nI (1)))]) (rest := []) ⟨hx, hb, hml, hown, hts⟩ (cM_in l D _ (y) (nI (0)) ((nI (sz (s'))) - (nI (1))) ) (cwS 3 hts gX12_put_X12_in rfl rfl rfl (by decide +kernel) ⟨Nat.le_of_ble_eq_true rfl, Nat.le_of_ble_eq_true rfl⟩) hP hK hS hA rfl hl.1 rfl (Nat.le_of_ble_eq_true rfl) dX12_put_42 ⟨Nat.le_of_ble_eq_true rfl, Nat.le_of_ble_eq_true rfl⟩ (fun r w1 H locs hq hP hS => ?_)
      subst hq
      refine lb_if_ne (tgt := 56) hx hb dX12_put_45 (by decide) (fun c3 => ?_) (fun c3 => ?_)
      · obtain ⟨i, hi, rfl⟩ := ix_of ((ix_le (by omega)).mp c3) (by omega)
        refine lv_aload_n hx hb dX12_put_56 rfl (lv_at hl 0 rfl) ?_
        refine va_get (D := D) (ci := 12) (v := .ref (ad 5)) (C := RX12) (T := TX12) (N := 24) hx hb hts hinX12 hown hK hP 0 rfl rfl 7 (by decide) (hts (.fieldLink RX12 22 "CornDeskModel" "sheets" "[I") (by decide +kernel)) (fun _ h9 => h9) rfl dX12_put_57 ?_
        refine lv_bipush (v := (nI (16))) hx hb dX12_put_60 (by decide) ?_
        refine lv_iload_n hx hb dX12_put_62 rfl (lv_at hl 1 rfl) ?_
        refine ln_imul hx hb dX12_put_63 ?_
        refine lv_iload_n hx hb dX12_put_64 rfl (lv_at hl 2 rfl) ?_
        refine ln_iadd hx hb dX12_put_65 ?_
        refine lv_aload_n hx hb dX12_put_66 rfl (lv_at hl 0 rfl) ?_
        refine va_get (D := D) (ci := 12) (v := .ref (ad 3)) (C := RX12) (T := TX12) (N := 24) hx hb hts hinX12 hown hK hP 0 rfl rfl 5 (by decide) (hts (.fieldLink RX12 16 "CornDeskModel" "sheetBits" "[I") (by decide +kernel)) (fun _ h9 => h9) rfl dX12_put_67 ?_
        refine lv_iload_n hx hb dX12_put_70 rfl (lv_at hl 1 rfl) ?_
        refine ln_iald hx hb hK hP 3 0 rfl rfl (by decide) (by omega) dX12_put_71 ?_
        refine lv_bipush (v := (nI (8))) hx hb dX12_put_72 (by decide) ?_
        refine ln_icmp_ne (tgt := 82) hx hb dX12_put_74 (by decide) (by omega) (by omega) (fun c4 => ?_) (fun c4 => ?_)
        · refine lv_aload_n hx hb dX12_put_82 rfl (lv_at hl 0 rfl) ?_
          refine va_get (D := D) (ci := 12) (v := .ref (ad 3)) (C := RX12) (T := TX12) (N := 24) hx hb hts hinX12 hown hK hP 0 rfl rfl 5 (by decide) (hts (.fieldLink RX12 16 "CornDeskModel" "sheetBits" "[I") (by decide +kernel)) (fun _ h9 => h9) rfl dX12_put_83 ?_
          refine lv_iload_n hx hb dX12_put_86 rfl (lv_at hl 1 rfl) ?_
          refine ln_iald hx hb hK hP 3 0 rfl rfl (by decide) (by omega) dX12_put_87 ?_
          refine lv_bipush (v := (nI (16))) hx hb dX12_put_88 (by decide) ?_
          refine ln_icmp_ne (tgt := 98) hx hb dX12_put_90 (by decide) (by omega) (by omega) (fun c5 => ?_) (fun c5 => ?_)
          · refine lv_iload_n hx hb dX12_put_98 rfl (lv_at hl 3 rfl) ?_
            refine ln_iast hx hb hK hP hD hS 5 0 rfl rfl (by decide) (by omega) dX12_put_99 (fun H locs hP hD hS => ?_)
            have hP : va_P D vwCl (mW ad cI cJ a kp bt sz (upd sheets ((16) * (s') + i) (z)) go ro car ke km fi gm bs bu n1 n2 n3 n4 n5 n6 n7 px py db) H := hP
            have hD : va_D A (mW ad cI cJ a kp bt sz (upd sheets ((16) * (s') + i) (z)) go ro car ke km fi gm bs bu n1 n2 n3 n4 n5 n6 n7 px py db) := hD
            refine lv_lconst (v := 0) hx hb dX12_put_100 (by decide) ?_
            exact hret _ _ _ _ _ _ (Or.inr ⟨s', ⟨rfl, hs⟩, Or.inr (Or.inr ⟨c2, i, rfl, hi, rfl, by rw [wdI_32 _ c4 c5]⟩)⟩) hP hD hS dX12_put_101
          · refine lv_iload_n hx hb dX12_put_93 rfl (lv_at hl 3 rfl) ?_
            refine lv_i2s hx hb dX12_put_94 rfl ?_
            refine lv_goto (tgt := 99) hx hb dX12_put_95 (by decide) ?_
            refine ln_iast hx hb hK hP hD hS 5 0 rfl rfl (by decide) (by omega) dX12_put_99 (fun H locs hP hD hS => ?_)
            have hP : va_P D vwCl (mW ad cI cJ a kp bt sz (upd sheets ((16) * (s') + i) ((z).toInt16.toInt32)) go ro car ke km fi gm bs bu n1 n2 n3 n4 n5 n6 n7 px py db) H := hP
            have hD : va_D A (mW ad cI cJ a kp bt sz (upd sheets ((16) * (s') + i) ((z).toInt16.toInt32)) go ro car ke km fi gm bs bu n1 n2 n3 n4 n5 n6 n7 px py db) := hD
            refine lv_lconst (v := 0) hx hb dX12_put_100 (by decide) ?_
            exact hret _ _ _ _ _ _ (Or.inr ⟨s', ⟨rfl, hs⟩, Or.inr (Or.inr ⟨c2, i, rfl, hi, rfl, by rw [wdI_16 _ c4 c5]⟩)⟩) hP hD hS dX12_put_101
        · refine lv_iload_n hx hb dX12_put_77 rfl (lv_at hl 3 rfl) ?_
          refine lv_i2b hx hb dX12_put_78 rfl ?_
          refine lv_goto (tgt := 99) hx hb dX12_put_79 (by decide) ?_
          refine ln_iast hx hb hK hP hD hS 5 0 rfl rfl (by decide) (by omega) dX12_put_99 (fun H locs hP hD hS => ?_)
          have hP : va_P D vwCl (mW ad cI cJ a kp bt sz (upd sheets ((16) * (s') + i) ((z).toInt8.toInt32)) go ro car ke km fi gm bs bu n1 n2 n3 n4 n5 n6 n7 px py db) H := hP
          have hD : va_D A (mW ad cI cJ a kp bt sz (upd sheets ((16) * (s') + i) ((z).toInt8.toInt32)) go ro car ke km fi gm bs bu n1 n2 n3 n4 n5 n6 n7 px py db) := hD
          refine lv_lconst (v := 0) hx hb dX12_put_100 (by decide) ?_
          exact hret _ _ _ _ _ _ (Or.inr ⟨s', ⟨rfl, hs⟩, Or.inr (Or.inr ⟨c2, i, rfl, hi, rfl, by rw [wdI_8 _ c4]⟩)⟩) hP hD hS dX12_put_101
      · refine lv_aload_n hx hb dX12_put_48 rfl (lv_at hl 0 rfl) ?_
        refine lv_ldc2 (v := (-1000000001)) hx hb hown (hts (.constantLong RX12 76 (-1000000001)) (by decide +kernel)) dX12_put_49 ?_
        refine mq_Vl (As := [.long ((-1000000001))]) (rest := []) (ci := 12) (k0 := 0) ⟨hx, hb, hml, hown, hts⟩ (cM_finds l D ad cI cJ a kp bt sz sheets go ro car ke km fi gm bs bu n1 n2 n3 n4 n5 n6 n7 px py db ((-1000000001)) ) (cwV 1 hts gX12_put_X12_finds rfl rfl rfl (by decide +kernel) ⟨Nat.le_of_ble_eq_true rfl, Nat.le_of_ble_eq_true rfl⟩) rfl rfl hP hK hD hS hA rfl hl.1 rfl (Nat.le_of_ble_eq_true rfl) dX12_put_52 ⟨Nat.le_of_ble_eq_true rfl, Nat.le_of_ble_eq_true rfl⟩ (fun r w1 H locs hq hP hD hS => ?_)
        obtain ⟨rfl, rfl⟩ := hq
        exact hret _ _ _ _ _ _ (Or.inr ⟨s', ⟨rfl, hs⟩, Or.inr (Or.inl ⟨c2, fun h => c3 ((ix_le (by omega)).mpr h), rfl, rfl⟩)⟩) hP hD hS dX12_put_55
    · refine lv_aload_n hx hb dX12_put_24 rfl (lv_at hl 0 rfl) ?_
      refine lv_ldc2 (v := (-1000000002)) hx hb hown (hts (.constantLong RX12 199 (-1000000002)) (by decide +kernel)) dX12_put_25 ?_
      refine mq_Vl (As := [.long ((-1000000002))]) (rest := []) (ci := 12) (k0 := 0) ⟨hx, hb, hml, hown, hts⟩ (cM_finds l D ad cI cJ a kp bt sz sheets go ro car ke km fi gm bs bu n1 n2 n3 n4 n5 n6 n7 px py db ((-1000000002)) ) (cwV 1 hts gX12_put_X12_finds rfl rfl rfl (by decide +kernel) ⟨Nat.le_of_ble_eq_true rfl, Nat.le_of_ble_eq_true rfl⟩) rfl rfl hP hK hD hS hA rfl hl.1 rfl (Nat.le_of_ble_eq_true rfl) dX12_put_28 ⟨Nat.le_of_ble_eq_true rfl, Nat.le_of_ble_eq_true rfl⟩ (fun r w1 H locs hq hP hD hS => ?_)
      obtain ⟨rfl, rfl⟩ := hq
      exact hret _ _ _ _ _ _ (Or.inr ⟨s', ⟨rfl, hs⟩, Or.inl ⟨c2, rfl, rfl⟩⟩) hP hD hS dX12_put_31
  · refine lv_aload_n hx hb dX12_put_7 rfl (lv_at hl 0 rfl) ?_
    refine lv_ldc2 (v := (-1000000001)) hx hb hown (hts (.constantLong RX12 76 (-1000000001)) (by decide +kernel)) dX12_put_8 ?_
    refine mq_Vl (As := [.long ((-1000000001))]) (rest := []) (ci := 12) (k0 := 0) ⟨hx, hb, hml, hown, hts⟩ (cM_finds l D ad cI cJ a kp bt sz sheets go ro car ke km fi gm bs bu n1 n2 n3 n4 n5 n6 n7 px py db ((-1000000001)) ) (cwV 1 hts gX12_put_X12_finds rfl rfl rfl (by decide +kernel) ⟨Nat.le_of_ble_eq_true rfl, Nat.le_of_ble_eq_true rfl⟩) rfl rfl hP hK hD hS hA rfl hl.1 rfl (Nat.le_of_ble_eq_true rfl) dX12_put_11 ⟨Nat.le_of_ble_eq_true rfl, Nat.le_of_ble_eq_true rfl⟩ (fun r w1 H locs hq hP hD hS => ?_)
    obtain ⟨rfl, rfl⟩ := hq
    exact hret _ _ _ _ _ _ (Or.inl ⟨c1, rfl, rfl⟩) hP hD hS dX12_put_14
set_option maxHeartbeats 4000000 in
set_option maxRecDepth 100000 in
theorem cM_copy (l : Launch) (D : va_G) (ad : Nat → Nat) (cI cJ : ClassId) (a kp bt sz : Nat → Nat) (sheets : Nat → Int32) (go ro : Nat → Nat) (car : Nat → Int32) (ke km fi gm bs bu : Nat) (n1 n2 n3 n4 n5 n6 n7 : Int64) (px py db : Nat → Int64) (x : Int32) (y : Int32) (u : Int32) (v : Int32) (z : Int32) (hsz : ∀ j, j ≤ 3 → sz j ≤ 16) (hbt : ∀ j, j ≤ 3 → bt j = 0 ∨ bt j = 8 ∨ bt j = 16 ∨ bt j = 32) : mq_l l D (mT cI cJ) yX12_copy wsX12_copy 2 0 0 42 [.ref (ad 0), .int (x), .int (y), .int (u), .int (v), .int (z)] (mW ad cI cJ a kp bt sz sheets go ro car ke km fi gm bs bu n1 n2 n3 n4 n5 n6 n7 px py db) (fun r w1 => (¬ (rg 0 3 x ∧ rg 0 3 u) ∧ r = -1000000001 ∧ w1 = mW ad cI cJ a kp bt sz sheets go ro car ke km (fi + 1) gm bs bu n1 n2 n3 n4 n5 n6 n7 px py db) ∨ (∃ s' t' : Nat, (x = nI s' ∧ u = nI t' ∧ s' ≤ 3 ∧ t' ≤ 3) ∧ (((bt s' = 0 ∨ bt t' = 0) ∧ r = -1000000002 ∧ w1 = mW ad cI cJ a kp bt sz sheets go ro car ke km (fi + 1) gm bs bu n1 n2 n3 n4 n5 n6 n7 px py db) ∨ (0 < bt s' ∧ 0 < bt t' ∧ bt s' ≠ bt t' ∧ r = -1000000004 ∧ w1 = mW ad cI cJ a kp bt sz sheets go ro car ke km (fi + 1) gm bs bu n1 n2 n3 n4 n5 n6 n7 px py db) ∨ (0 < bt s' ∧ bt s' = bt t' ∧ (¬ ∃ f w k : Nat, (y = nI f ∧ v = nI w ∧ z = nI k) ∧ (f + k ≤ sz s' ∧ w + k ≤ sz t')) ∧ r = -1000000001 ∧ w1 = mW ad cI cJ a kp bt sz sheets go ro car ke km (fi + 1) gm bs bu n1 n2 n3 n4 n5 n6 n7 px py db) ∨ (0 < bt s' ∧ bt s' = bt t' ∧ ∃ f w k : Nat, (y = nI f ∧ v = nI w ∧ z = nI k) ∧ f + k ≤ sz s' ∧ w + k ≤ sz t' ∧ r = (nI k).toInt64 ∧ ∃ car2, w1 = mW ad cI cJ a kp bt sz (cpI sheets (fun j => sheets (16 * s' + f + j)) (16 * t' + w) k) go ro car2 ke km fi gm bs bu n1 n2 n3 n4 n5 n6 n7 px py db)))) := by
  refine mq_l_of (cc := cX12_copy) (maxL := 7) (by decide) rfl (Nat.le_of_ble_eq_true rfl) ?_
  intro p e s m args below meth c A Q ls hx hb hts hown hml hnm hA hP hK hD hS hl hret
  have hown : s.vm.findClass RX12 = some m.cls := hown
  have hinX12 : ∀ w ∈ u_ws RX12 TX12 24, w ∈ wsX12_copy := by decide +kernel
  have hl : lv_has ls 7 [(0, .ref (ad 0)), (1, .int (x)), (2, .int (y)), (3, .int (u)), (4, .int (v)), (5, .int (z))] := hl
  refine lv_iload_n hx hb dX12_copy_0 rfl (lv_at hl 1 rfl) ?_
  refine mq_Si (As := [.int (x)]) (rest := []) ⟨hx, hb, hml, hown, hts⟩ (cM_isSheet l D _ (x) ) (cwS 1 hts gX12_copy_X12_isSheet rfl rfl rfl (by decide +kernel) ⟨Nat.le_of_ble_eq_true rfl, Nat.le_of_ble_eq_true rfl⟩) hP hK hS hA rfl hl.1 rfl (Nat.le_of_ble_eq_true rfl) dX12_copy_1 ⟨Nat.le_of_ble_eq_true rfl, Nat.le_of_ble_eq_true rfl⟩ (fun r w1 H locs hq hP hS => ?_)
  subst hq
  refine lb_if_eq (tgt := 14) hx hb dX12_copy_4 (by decide) (fun c1 => ?_) (fun c1 => ?_)
  · refine lv_aload_n hx hb dX12_copy_14 rfl (lv_at hl 0 rfl) ?_
    refine lv_ldc2 (v := (-1000000001)) hx hb hown (hts (.constantLong RX12 76 (-1000000001)) (by decide +kernel)) dX12_copy_15 ?_
    refine mq_Vl (As := [.long ((-1000000001))]) (rest := []) (ci := 12) (k0 := 0) ⟨hx, hb, hml, hown, hts⟩ (cM_finds l D ad cI cJ a kp bt sz sheets go ro car ke km fi gm bs bu n1 n2 n3 n4 n5 n6 n7 px py db ((-1000000001)) ) (cwV 1 hts gX12_copy_X12_finds rfl rfl rfl (by decide +kernel) ⟨Nat.le_of_ble_eq_true rfl, Nat.le_of_ble_eq_true rfl⟩) rfl rfl hP hK hD hS hA rfl hl.1 rfl (Nat.le_of_ble_eq_true rfl) dX12_copy_18 ⟨Nat.le_of_ble_eq_true rfl, Nat.le_of_ble_eq_true rfl⟩ (fun r w1 H locs hq hP hD hS => ?_)
    obtain ⟨rfl, rfl⟩ := hq
    exact hret _ _ _ _ _ _ (Or.inl ⟨fun h => c1 h.1, rfl, rfl⟩) hP hD hS dX12_copy_21
  · refine lv_iload_n hx hb dX12_copy_7 rfl (lv_at hl 3 rfl) ?_
    refine mq_Si (As := [.int (u)]) (rest := []) ⟨hx, hb, hml, hown, hts⟩ (cM_isSheet l D _ (u) ) (cwS 1 hts gX12_copy_X12_isSheet rfl rfl rfl (by decide +kernel) ⟨Nat.le_of_ble_eq_true rfl, Nat.le_of_ble_eq_true rfl⟩) hP hK hS hA rfl hl.1 rfl (Nat.le_of_ble_eq_true rfl) dX12_copy_8 ⟨Nat.le_of_ble_eq_true rfl, Nat.le_of_ble_eq_true rfl⟩ (fun r w1 H locs hq hP hS => ?_)
    subst hq
    refine lb_if_ne (tgt := 22) hx hb dX12_copy_11 (by decide) (fun c2 => ?_) (fun c2 => ?_)
    · obtain ⟨s', -, hs, rfl⟩ := rg_of c1 (by decide) (by decide)
      obtain ⟨t', -, ht, rfl⟩ := rg_of c2 (by decide) (by decide)
      have hz := hsz s' hs
      have hz2 := hsz t' ht
      have hb2 := hbt s' hs
      have hb3 := hbt t' ht
      refine lv_aload_n hx hb dX12_copy_22 rfl (lv_at hl 0 rfl) ?_
      refine va_get (D := D) (ci := 12) (v := .ref (ad 3)) (C := RX12) (T := TX12) (N := 24) hx hb hts hinX12 hown hK hP 0 rfl rfl 5 (by decide) (hts (.fieldLink RX12 16 "CornDeskModel" "sheetBits" "[I") (by decide +kernel)) (fun _ h9 => h9) rfl dX12_copy_23 ?_
      refine lv_iload_n hx hb dX12_copy_26 rfl (lv_at hl 1 rfl) ?_
      refine ln_iald hx hb hK hP 3 0 rfl rfl (by decide) (by omega) dX12_copy_27 ?_
      refine ln_if_eq (tgt := 40) hx hb dX12_copy_28 (by decide) (by omega) (fun c3 => ?_) (fun c3 => ?_)
      · refine lv_aload_n hx hb dX12_copy_40 rfl (lv_at hl 0 rfl) ?_
        refine lv_ldc2 (v := (-1000000002)) hx hb hown (hts (.constantLong RX12 199 (-1000000002)) (by decide +kernel)) dX12_copy_41 ?_
        refine mq_Vl (As := [.long ((-1000000002))]) (rest := []) (ci := 12) (k0 := 0) ⟨hx, hb, hml, hown, hts⟩ (cM_finds l D ad cI cJ a kp bt sz sheets go ro car ke km fi gm bs bu n1 n2 n3 n4 n5 n6 n7 px py db ((-1000000002)) ) (cwV 1 hts gX12_copy_X12_finds rfl rfl rfl (by decide +kernel) ⟨Nat.le_of_ble_eq_true rfl, Nat.le_of_ble_eq_true rfl⟩) rfl rfl hP hK hD hS hA rfl hl.1 rfl (Nat.le_of_ble_eq_true rfl) dX12_copy_44 ⟨Nat.le_of_ble_eq_true rfl, Nat.le_of_ble_eq_true rfl⟩ (fun r w1 H locs hq hP hD hS => ?_)
        obtain ⟨rfl, rfl⟩ := hq
        exact hret _ _ _ _ _ _ (Or.inr ⟨s', t', ⟨rfl, rfl, hs, ht⟩, Or.inl ⟨Or.inl c3, rfl, rfl⟩⟩) hP hD hS dX12_copy_47
      · refine lv_aload_n hx hb dX12_copy_31 rfl (lv_at hl 0 rfl) ?_
        refine va_get (D := D) (ci := 12) (v := .ref (ad 3)) (C := RX12) (T := TX12) (N := 24) hx hb hts hinX12 hown hK hP 0 rfl rfl 5 (by decide) (hts (.fieldLink RX12 16 "CornDeskModel" "sheetBits" "[I") (by decide +kernel)) (fun _ h9 => h9) rfl dX12_copy_32 ?_
        refine lv_iload_n hx hb dX12_copy_35 rfl (lv_at hl 3 rfl) ?_
        refine ln_iald hx hb hK hP 3 0 rfl rfl (by decide) (by omega) dX12_copy_36 ?_
        refine ln_if_ne (tgt := 48) hx hb dX12_copy_37 (by decide) (by omega) (fun c4 => ?_) (fun c4 => ?_)
        · refine lv_aload_n hx hb dX12_copy_48 rfl (lv_at hl 0 rfl) ?_
          refine va_get (D := D) (ci := 12) (v := .ref (ad 3)) (C := RX12) (T := TX12) (N := 24) hx hb hts hinX12 hown hK hP 0 rfl rfl 5 (by decide) (hts (.fieldLink RX12 16 "CornDeskModel" "sheetBits" "[I") (by decide +kernel)) (fun _ h9 => h9) rfl dX12_copy_49 ?_
          refine lv_iload_n hx hb dX12_copy_52 rfl (lv_at hl 1 rfl) ?_
          refine ln_iald hx hb hK hP 3 0 rfl rfl (by decide) (by omega) dX12_copy_53 ?_
          refine lv_aload_n hx hb dX12_copy_54 rfl (lv_at hl 0 rfl) ?_
          refine va_get (D := D) (ci := 12) (v := .ref (ad 3)) (C := RX12) (T := TX12) (N := 24) hx hb hts hinX12 hown hK hP 0 rfl rfl 5 (by decide) (hts (.fieldLink RX12 16 "CornDeskModel" "sheetBits" "[I") (by decide +kernel)) (fun _ h9 => h9) rfl dX12_copy_55 ?_
          refine lv_iload_n hx hb dX12_copy_58 rfl (lv_at hl 3 rfl) ?_
          refine ln_iald hx hb hK hP 3 0 rfl rfl (by decide) (by omega) dX12_copy_59 ?_
          refine ln_icmp_eq (tgt := 71) hx hb dX12_copy_60 (by decide) (by omega) (by omega) (fun c5 => ?_) (fun c5 => ?_)
          · refine lv_iload_n hx hb dX12_copy_71 rfl (lv_at hl 2 rfl) ?_
            refine lv_if_lt (tgt := 120) hx hb dX12_copy_72 (by decide) (fun c6 => ?_) (fun c6 => ?_)
            · refine lv_aload_n hx hb dX12_copy_120 rfl (lv_at hl 0 rfl) ?_
              refine lv_ldc2 (v := (-1000000001)) hx hb hown (hts (.constantLong RX12 76 (-1000000001)) (by decide +kernel)) dX12_copy_121 ?_
              refine mq_Vl (As := [.long ((-1000000001))]) (rest := []) (ci := 12) (k0 := 0) ⟨hx, hb, hml, hown, hts⟩ (cM_finds l D ad cI cJ a kp bt sz sheets go ro car ke km fi gm bs bu n1 n2 n3 n4 n5 n6 n7 px py db ((-1000000001)) ) (cwV 1 hts gX12_copy_X12_finds rfl rfl rfl (by decide +kernel) ⟨Nat.le_of_ble_eq_true rfl, Nat.le_of_ble_eq_true rfl⟩) rfl rfl hP hK hD hS hA rfl hl.1 rfl (Nat.le_of_ble_eq_true rfl) dX12_copy_124 ⟨Nat.le_of_ble_eq_true rfl, Nat.le_of_ble_eq_true rfl⟩ (fun r w1 H locs hq hP hD hS => ?_)
              obtain ⟨rfl, rfl⟩ := hq
              exact hret _ _ _ _ _ _ (Or.inr ⟨s', t', ⟨rfl, rfl, hs, ht⟩, Or.inr (Or.inr (Or.inl ⟨by omega, c5, fun hh => by obtain ⟨f, w, k, ⟨e1, e2, e3⟩, h⟩ := hh; subst e1; subst e2; subst e3; exact nI_pos (by omega) c6, rfl, rfl⟩))⟩) hP hD hS dX12_copy_127
            · refine lv_iload hx hb dX12_copy_75 (lv_at hl 4 rfl) ?_
              refine lv_if_lt (tgt := 120) hx hb dX12_copy_77 (by decide) (fun c7 => ?_) (fun c7 => ?_)
              · refine lv_aload_n hx hb dX12_copy_120 rfl (lv_at hl 0 rfl) ?_
                refine lv_ldc2 (v := (-1000000001)) hx hb hown (hts (.constantLong RX12 76 (-1000000001)) (by decide +kernel)) dX12_copy_121 ?_
                refine mq_Vl (As := [.long ((-1000000001))]) (rest := []) (ci := 12) (k0 := 0) ⟨hx, hb, hml, hown, hts⟩ (cM_finds l D ad cI cJ a kp bt sz sheets go ro car ke km fi gm bs bu n1 n2 n3 n4 n5 n6 n7 px py db ((-1000000001)) ) (cwV 1 hts gX12_copy_X12_finds rfl rfl rfl (by decide +kernel) ⟨Nat.le_of_ble_eq_true rfl, Nat.le_of_ble_eq_true rfl⟩) rfl rfl hP hK hD hS hA rfl hl.1 rfl (Nat.le_of_ble_eq_true rfl) dX12_copy_124 ⟨Nat.le_of_ble_eq_true rfl, Nat.le_of_ble_eq_true rfl⟩ (fun r w1 H locs hq hP hD hS => ?_)
                obtain ⟨rfl, rfl⟩ := hq
                exact hret _ _ _ _ _ _ (Or.inr ⟨s', t', ⟨rfl, rfl, hs, ht⟩, Or.inr (Or.inr (Or.inl ⟨by omega, c5, fun hh => by obtain ⟨f, w, k, ⟨e1, e2, e3⟩, h⟩ := hh; subst e1; subst e2; subst e3; exact nI_pos (by omega) c7, rfl, rfl⟩))⟩) hP hD hS dX12_copy_127
              · refine lv_iload hx hb dX12_copy_80 (lv_at hl 5 rfl) ?_
                refine lv_if_lt (tgt := 120) hx hb dX12_copy_82 (by decide) (fun c8 => ?_) (fun c8 => ?_)
                · refine lv_aload_n hx hb dX12_copy_120 rfl (lv_at hl 0 rfl) ?_
                  refine lv_ldc2 (v := (-1000000001)) hx hb hown (hts (.constantLong RX12 76 (-1000000001)) (by decide +kernel)) dX12_copy_121 ?_
                  refine mq_Vl (As := [.long ((-1000000001))]) (rest := []) (ci := 12) (k0 := 0) ⟨hx, hb, hml, hown, hts⟩ (cM_finds l D ad cI cJ a kp bt sz sheets go ro car ke km fi gm bs bu n1 n2 n3 n4 n5 n6 n7 px py db ((-1000000001)) ) (cwV 1 hts gX12_copy_X12_finds rfl rfl rfl (by decide +kernel) ⟨Nat.le_of_ble_eq_true rfl, Nat.le_of_ble_eq_true rfl⟩) rfl rfl hP hK hD hS hA rfl hl.1 rfl (Nat.le_of_ble_eq_true rfl) dX12_copy_124 ⟨Nat.le_of_ble_eq_true rfl, Nat.le_of_ble_eq_true rfl⟩ (fun r w1 H locs hq hP hD hS => ?_)
                  obtain ⟨rfl, rfl⟩ := hq
                  exact hret _ _ _ _ _ _ (Or.inr ⟨s', t', ⟨rfl, rfl, hs, ht⟩, Or.inr (Or.inr (Or.inl ⟨by omega, c5, fun hh => by obtain ⟨f, w, k, ⟨e1, e2, e3⟩, h⟩ := hh; subst e1; subst e2; subst e3; exact nI_pos (by omega) c8, rfl, rfl⟩))⟩) hP hD hS dX12_copy_127
                · obtain ⟨f', hf, rfl⟩ := nI_of c6
                  obtain ⟨w', hw, rfl⟩ := nI_of c7
                  obtain ⟨k', hk, rfl⟩ := nI_of c8
                  refine lv_iload_n hx hb dX12_copy_85 rfl (lv_at hl 2 rfl) ?_
                  refine lv_i2l hx hb dX12_copy_86 rfl ?_
                  refine lv_iload hx hb dX12_copy_87 (lv_at hl 5 rfl) ?_
                  refine lv_i2l hx hb dX12_copy_89 rfl ?_
                  refine lv_ladd hx hb dX12_copy_90 ?_
                  refine lv_aload_n hx hb dX12_copy_91 rfl (lv_at hl 0 rfl) ?_
                  refine va_get (D := D) (ci := 12) (v := .ref (ad 4)) (C := RX12) (T := TX12) (N := 24) hx hb hts hinX12 hown hK hP 0 rfl rfl 6 (by decide) (hts (.fieldLink RX12 19 "CornDeskModel" "sheetSize" "[I") (by decide +kernel)) (fun _ h9 => h9) rfl dX12_copy_92 ?_
                  refine lv_iload_n hx hb dX12_copy_95 rfl (lv_at hl 1 rfl) ?_
                  refine ln_iald hx hb hK hP 4 0 rfl rfl (by decide) (by omega) dX12_copy_96 ?_
                  refine lv_i2l hx hb dX12_copy_97 rfl ?_
                  refine W.lcmp hx hb dX12_copy_98 ?_
                  refine lv_if_gt (tgt := 120) hx hb dX12_copy_99 (by decide) (fun c9 => ?_) (fun c9 => ?_)
                  · have c9 := c9
                    have c9 : 0 < lg_cmp ((nI f').toInt64 + (nI k').toInt64) (nI (sz s')).toInt64 := c9
                    rw [i2lN (by omega) (by omega), nI_l (show sz s' < 2 ^ 31 by omega), lg_gtN (by omega) (by omega)] at c9
                    refine lv_aload_n hx hb dX12_copy_120 rfl (lv_at hl 0 rfl) ?_
                    refine lv_ldc2 (v := (-1000000001)) hx hb hown (hts (.constantLong RX12 76 (-1000000001)) (by decide +kernel)) dX12_copy_121 ?_
                    refine mq_Vl (As := [.long ((-1000000001))]) (rest := []) (ci := 12) (k0 := 0) ⟨hx, hb, hml, hown, hts⟩ (cM_finds l D ad cI cJ a kp bt sz sheets go ro car ke km fi gm bs bu n1 n2 n3 n4 n5 n6 n7 px py db ((-1000000001)) ) (cwV 1 hts gX12_copy_X12_finds rfl rfl rfl (by decide +kernel) ⟨Nat.le_of_ble_eq_true rfl, Nat.le_of_ble_eq_true rfl⟩) rfl rfl hP hK hD hS hA rfl hl.1 rfl (Nat.le_of_ble_eq_true rfl) dX12_copy_124 ⟨Nat.le_of_ble_eq_true rfl, Nat.le_of_ble_eq_true rfl⟩ (fun r w1 H locs hq hP hD hS => ?_)
                    obtain ⟨rfl, rfl⟩ := hq
                    exact hret _ _ _ _ _ _ (Or.inr ⟨s', t', ⟨rfl, rfl, hs, ht⟩, Or.inr (Or.inr (Or.inl ⟨by omega, c5, fun hh => by obtain ⟨f, w, k, ⟨e1, e2, e3⟩, h⟩ := hh; have e1 := (nI_eq (by omega) (by omega)).mp e1; have e2 := (nI_eq (by omega) (by omega)).mp e2; have e3 := (nI_eq (by omega) (by omega)).mp e3; omega, rfl, rfl⟩))⟩) hP hD hS dX12_copy_127
                  · have c9 : ¬ 0 < lg_cmp ((nI f').toInt64 + (nI k').toInt64) (nI (sz s')).toInt64 := c9
                    rw [i2lN (by omega) (by omega), nI_l (show sz s' < 2 ^ 31 by omega), lg_gtN (by omega) (by omega)] at c9
                    refine lv_iload hx hb dX12_copy_102 (lv_at hl 4 rfl) ?_
                    refine lv_i2l hx hb dX12_copy_104 rfl ?_
                    refine lv_iload hx hb dX12_copy_105 (lv_at hl 5 rfl) ?_
                    refine lv_i2l hx hb dX12_copy_107 rfl ?_
                    refine lv_ladd hx hb dX12_copy_108 ?_
                    refine lv_aload_n hx hb dX12_copy_109 rfl (lv_at hl 0 rfl) ?_
                    refine va_get (D := D) (ci := 12) (v := .ref (ad 4)) (C := RX12) (T := TX12) (N := 24) hx hb hts hinX12 hown hK hP 0 rfl rfl 6 (by decide) (hts (.fieldLink RX12 19 "CornDeskModel" "sheetSize" "[I") (by decide +kernel)) (fun _ h9 => h9) rfl dX12_copy_110 ?_
                    refine lv_iload_n hx hb dX12_copy_113 rfl (lv_at hl 3 rfl) ?_
                    refine ln_iald hx hb hK hP 4 0 rfl rfl (by decide) (by omega) dX12_copy_114 ?_
                    refine lv_i2l hx hb dX12_copy_115 rfl ?_
                    refine W.lcmp hx hb dX12_copy_116 ?_
                    refine lv_if_le (tgt := 128) hx hb dX12_copy_117 (by decide) (fun c10 => ?_) (fun c10 => ?_)
                    · have c10 : lg_cmp ((nI w').toInt64 + (nI k').toInt64) (nI (sz t')).toInt64 ≤ 0 := c10
                      rw [lg_le0, i2lN (by omega) (by omega), nI_l (show sz t' < 2 ^ 31 by omega), lg_gtN (by omega) (by omega)] at c10
                      refine lv_iconst (v := (nI (0))) hx hb dX12_copy_128 (by decide) ?_
                      refine lv_istore (lv' := [(6, .int (nI (0))), (0, .ref (ad 0)), (1, .int (nI (s'))), (2, .int (nI (f'))), (3, .int (nI (t'))), (4, .int (nI (w'))), (5, .int (nI (k')))]) hx hb dX12_copy_129 hl (by decide) rfl (fun ls hl => ?_)
                      have lp : ∀ (n : Nat) (k : Nat), (k + n = k') → ∀ (H : Heap) (locs : List Loc) (ls : Array Slot), va_P D vwCl (mW ad cI cJ a kp bt sz sheets go ro (cpI car (fun j => sheets (16 * s' + f' + j)) 0 k) ke km fi gm bs bu n1 n2 n3 n4 n5 n6 n7 px py db) H → va_D A (mW ad cI cJ a kp bt sz sheets go ro (cpI car (fun j => sheets (16 * s' + f' + j)) 0 k) ke km fi gm bs bu n1 n2 n3 n4 n5 n6 n7 px py db) → va_S A s.heap H locs → lv_has ls 7 [(6, .int (nI (k))), (0, .ref (ad 0)), (1, .int (nI (s'))), (2, .int (nI (f'))), (3, .int (nI (t'))), (4, .int (nI (w'))), (5, .int (nI (k')))] → W p l e (mq_R 2 0 0 42) s m args below meth c H locs 0 0 Q (F0 m 131 ls []) := by
                        intro n
                        induction n with
                        | zero =>
                          intro k hk H locs ls hP hD hS hl
                          refine lv_iload hx hb dX12_copy_131 (lv_at hl 0 rfl) ?_
                          refine lv_iload hx hb dX12_copy_133 (lv_at hl 6 rfl) ?_
                          refine ln_icmp_ge (tgt := 165) hx hb dX12_copy_135 (by decide) (by omega) (by omega) (fun c11 => ?_) (fun c11 => ?_)
                          · have hk0 : k = k' := by omega
                            subst hk0
                            refine lv_iconst (v := (nI (0))) hx hb dX12_copy_165 (by decide) ?_
                            refine lv_istore (lv' := [(6, .int (nI (0))), (0, .ref (ad 0)), (1, .int (nI (s'))), (2, .int (nI (f'))), (3, .int (nI (t'))), (4, .int (nI (w'))), (5, .int (nI (k)))]) hx hb dX12_copy_166 hl (by decide) rfl (fun ls hl => ?_)
                            have lp2 : ∀ (n : Nat) (q : Nat), (q + n = k) → ∀ (H : Heap) (locs : List Loc) (ls : Array Slot), va_P D vwCl (mW ad cI cJ a kp bt sz (cpI sheets (cpI car (fun j => sheets (16 * s' + f' + j)) 0 k) (16 * t' + w') q) go ro (cpI car (fun j => sheets (16 * s' + f' + j)) 0 k) ke km fi gm bs bu n1 n2 n3 n4 n5 n6 n7 px py db) H → va_D A (mW ad cI cJ a kp bt sz (cpI sheets (cpI car (fun j => sheets (16 * s' + f' + j)) 0 k) (16 * t' + w') q) go ro (cpI car (fun j => sheets (16 * s' + f' + j)) 0 k) ke km fi gm bs bu n1 n2 n3 n4 n5 n6 n7 px py db) → va_S A s.heap H locs → lv_has ls 7 [(6, .int (nI (q))), (0, .ref (ad 0)), (1, .int (nI (s'))), (2, .int (nI (f'))), (3, .int (nI (t'))), (4, .int (nI (w'))), (5, .int (nI (k)))] → W p l e (mq_R 2 0 0 42) s m args below meth c H locs 0 0 Q (F0 m 168 ls []) := by
                              intro n
                              induction n with
                              | zero =>
                                intro q hq H locs ls hP hD hS hl
                                refine lv_iload hx hb dX12_copy_168 (lv_at hl 0 rfl) ?_
                                refine lv_iload hx hb dX12_copy_170 (lv_at hl 6 rfl) ?_
                                refine ln_icmp_ge (tgt := 203) hx hb dX12_copy_172 (by decide) (by omega) (by omega) (fun c12 => ?_) (fun c12 => ?_)
                                · have hq0 : q = k := by omega
                                  subst hq0
                                  refine lv_iload hx hb dX12_copy_203 (lv_at hl 6 rfl) ?_
                                  refine lv_i2l hx hb dX12_copy_205 rfl ?_
                                  exact hret _ _ _ _ _ _ (Or.inr ⟨s', t', ⟨rfl, rfl, hs, ht⟩, Or.inr (Or.inr (Or.inr ⟨by omega, c5, f', w', q, ⟨rfl, rfl, rfl⟩, by omega, by omega, rfl, cpI car (fun j => sheets (16 * s' + f' + j)) 0 q, by rw [cpI_cong (g := cpI car (fun j => sheets (16 * s' + f' + j)) 0 q) (g' := fun j => sheets (16 * s' + f' + j)) (fun j hj => by have h := cpI_in (f := car) (g := fun j => sheets (16 * s' + f' + j)) (d := 0) hj; rw [Nat.zero_add] at h; exact h)]⟩))⟩) hP hD hS dX12_copy_206
                                · exact absurd hq (by omega)
                              | succ n ih =>
                                intro q hq H locs ls hP hD hS hl
                                refine lv_iload hx hb dX12_copy_168 (lv_at hl 0 rfl) ?_
                                refine lv_iload hx hb dX12_copy_170 (lv_at hl 6 rfl) ?_
                                refine ln_icmp_ge (tgt := 203) hx hb dX12_copy_172 (by decide) (by omega) (by omega) (fun c12 => ?_) (fun c12 => ?_)
                                · exact absurd hq (by omega)
                                · refine lv_aload_n hx hb dX12_copy_175 rfl (lv_at hl 1 rfl) ?_
                                  refine va_get (D := D) (ci := 12) (v := .ref (ad 5)) (C := RX12) (T := TX12) (N := 24) hx hb hts hinX12 hown hK hP 0 rfl rfl 7 (by decide) (hts (.fieldLink RX12 22 "CornDeskModel" "sheets" "[I") (by decide +kernel)) (fun _ h9 => h9) rfl dX12_copy_176 ?_
                                  refine lv_bipush (v := (nI (16))) hx hb dX12_copy_179 (by decide) ?_
                                  refine lv_iload_n hx hb dX12_copy_181 rfl (lv_at hl 4 rfl) ?_
                                  refine ln_imul hx hb dX12_copy_182 ?_
                                  refine lv_iload hx hb dX12_copy_183 (lv_at hl 5 rfl) ?_
                                  refine ln_iadd hx hb dX12_copy_185 ?_
                                  refine lv_iload hx hb dX12_copy_186 (lv_at hl 0 rfl) ?_
                                  refine ln_iadd hx hb dX12_copy_188 ?_
                                  refine lv_aload_n hx hb dX12_copy_189 rfl (lv_at hl 1 rfl) ?_
                                  refine va_get (D := D) (ci := 12) (v := .ref (ad 11)) (C := RX12) (T := TX12) (N := 24) hx hb hts hinX12 hown hK hP 0 rfl rfl 23 (by decide) (hts (.fieldLink RX12 41 "CornDeskModel" "carried" "[I") (by decide +kernel)) (fun _ h9 => h9) rfl dX12_copy_190 ?_
                                  refine lv_iload hx hb dX12_copy_193 (lv_at hl 0 rfl) ?_
                                  refine ln_iald hx hb hK hP 11 0 rfl rfl (by decide) (by omega) dX12_copy_195 ?_
                                  refine ln_iast hx hb hK hP hD hS 5 0 rfl rfl (by decide) (by omega) dX12_copy_196 (fun H locs hP hD hS => ?_)
                                  have hP : va_P D vwCl (mW ad cI cJ a kp bt sz (upd (cpI sheets (cpI car (fun j => sheets (16 * s' + f' + j)) 0 k) (16 * t' + w') q) ((16) * (t') + w' + q) ((cpI car (fun j => sheets (16 * s' + f' + j)) 0 k) (q))) go ro (cpI car (fun j => sheets (16 * s' + f' + j)) 0 k) ke km fi gm bs bu n1 n2 n3 n4 n5 n6 n7 px py db) H := hP
                                  have hD : va_D A (mW ad cI cJ a kp bt sz (upd (cpI sheets (cpI car (fun j => sheets (16 * s' + f' + j)) 0 k) (16 * t' + w') q) ((16) * (t') + w' + q) ((cpI car (fun j => sheets (16 * s' + f' + j)) 0 k) (q))) go ro (cpI car (fun j => sheets (16 * s' + f' + j)) 0 k) ke km fi gm bs bu n1 n2 n3 n4 n5 n6 n7 px py db) := hD
                                  refine lv_iinc (v := (nI (q + 1))) (lv' := [(6, .int (nI (q + 1))), (0, .ref (ad 0)), (1, .int (nI (s'))), (2, .int (nI (f'))), (3, .int (nI (t'))), (4, .int (nI (w'))), (5, .int (nI (k)))]) hx hb dX12_copy_197 hl (k := 0) rfl (by rw [show (Int32.ofInt 1) = nI 1 from rfl, nI_add]) (by decide) rfl (fun ls hl => ?_)
                                  refine lv_goto (tgt := 168) hx hb dX12_copy_200 (by decide) ?_
                                  exact ih (q + 1) (by omega) _ _ _ (by rw [← cpI_s]; exact hP) (by rw [← cpI_s]; exact hD) hS hl
                            exact lp2 (k) (0) (by omega) _ _ _ (by rw [cpI_0]; exact hP) (by rw [cpI_0]; exact hD) hS hl
                          · exact absurd hk (by omega)
                        | succ n ih =>
                          intro k hk H locs ls hP hD hS hl
                          refine lv_iload hx hb dX12_copy_131 (lv_at hl 0 rfl) ?_
                          refine lv_iload hx hb dX12_copy_133 (lv_at hl 6 rfl) ?_
                          refine ln_icmp_ge (tgt := 165) hx hb dX12_copy_135 (by decide) (by omega) (by omega) (fun c11 => ?_) (fun c11 => ?_)
                          · exact absurd hk (by omega)
                          · refine lv_aload_n hx hb dX12_copy_138 rfl (lv_at hl 1 rfl) ?_
                            refine va_get (D := D) (ci := 12) (v := .ref (ad 11)) (C := RX12) (T := TX12) (N := 24) hx hb hts hinX12 hown hK hP 0 rfl rfl 23 (by decide) (hts (.fieldLink RX12 41 "CornDeskModel" "carried" "[I") (by decide +kernel)) (fun _ h9 => h9) rfl dX12_copy_139 ?_
                            refine lv_iload hx hb dX12_copy_142 (lv_at hl 0 rfl) ?_
                            refine lv_aload_n hx hb dX12_copy_144 rfl (lv_at hl 1 rfl) ?_
                            refine va_get (D := D) (ci := 12) (v := .ref (ad 5)) (C := RX12) (T := TX12) (N := 24) hx hb hts hinX12 hown hK hP 0 rfl rfl 7 (by decide) (hts (.fieldLink RX12 22 "CornDeskModel" "sheets" "[I") (by decide +kernel)) (fun _ h9 => h9) rfl dX12_copy_145 ?_
                            refine lv_bipush (v := (nI (16))) hx hb dX12_copy_148 (by decide) ?_
                            refine lv_iload_n hx hb dX12_copy_150 rfl (lv_at hl 2 rfl) ?_
                            refine ln_imul hx hb dX12_copy_151 ?_
                            refine lv_iload_n hx hb dX12_copy_152 rfl (lv_at hl 3 rfl) ?_
                            refine ln_iadd hx hb dX12_copy_153 ?_
                            refine lv_iload hx hb dX12_copy_154 (lv_at hl 0 rfl) ?_
                            refine ln_iadd hx hb dX12_copy_156 ?_
                            refine ln_iald hx hb hK hP 5 0 rfl rfl (by decide) (by omega) dX12_copy_157 ?_
                            refine ln_iast hx hb hK hP hD hS 11 0 rfl rfl (by decide) (by omega) dX12_copy_158 (fun H locs hP hD hS => ?_)
                            have hP : va_P D vwCl (mW ad cI cJ a kp bt sz sheets go ro (upd (cpI car (fun j => sheets (16 * s' + f' + j)) 0 k) (k) (sheets ((16) * (s') + f' + k))) ke km fi gm bs bu n1 n2 n3 n4 n5 n6 n7 px py db) H := hP
                            have hD : va_D A (mW ad cI cJ a kp bt sz sheets go ro (upd (cpI car (fun j => sheets (16 * s' + f' + j)) 0 k) (k) (sheets ((16) * (s') + f' + k))) ke km fi gm bs bu n1 n2 n3 n4 n5 n6 n7 px py db) := hD
                            refine lv_iinc (v := (nI (k + 1))) (lv' := [(6, .int (nI (k + 1))), (0, .ref (ad 0)), (1, .int (nI (s'))), (2, .int (nI (f'))), (3, .int (nI (t'))), (4, .int (nI (w'))), (5, .int (nI (k')))]) hx hb dX12_copy_159 hl (k := 0) rfl (by rw [show (Int32.ofInt 1) = nI 1 from rfl, nI_add]) (by decide) rfl (fun ls hl => ?_)
                            refine lv_goto (tgt := 131) hx hb dX12_copy_162 (by decide) ?_
                            exact ih (k + 1) (by omega) _ _ _ (by rw [← cpI_s0]; exact hP) (by rw [← cpI_s0]; exact hD) hS hl
                      exact lp (k') (0) (by omega) _ _ _ (by rw [cpI_0]; exact hP) (by rw [cpI_0]; exact hD) hS hl
                    · have c10 : ¬ lg_cmp ((nI w').toInt64 + (nI k').toInt64) (nI (sz t')).toInt64 ≤ 0 := c10
                      rw [lg_le0, Classical.not_not, i2lN (by omega) (by omega), nI_l (show sz t' < 2 ^ 31 by omega), lg_gtN (by omega) (by omega)] at c10
                      refine lv_aload_n hx hb dX12_copy_120 rfl (lv_at hl 0 rfl) ?_
                      refine lv_ldc2 (v := (-1000000001)) hx hb hown (hts (.constantLong RX12 76 (-1000000001)) (by decide +kernel)) dX12_copy_121 ?_
                      refine mq_Vl (As := [.long ((-1000000001))]) (rest := []) (ci := 12) (k0 := 0) ⟨hx, hb, hml, hown, hts⟩ (cM_finds l D ad cI cJ a kp bt sz sheets go ro car ke km fi gm bs bu n1 n2 n3 n4 n5 n6 n7 px py db ((-1000000001)) ) (cwV 1 hts gX12_copy_X12_finds rfl rfl rfl (by decide +kernel) ⟨Nat.le_of_ble_eq_true rfl, Nat.le_of_ble_eq_true rfl⟩) rfl rfl hP hK hD hS hA rfl hl.1 rfl (Nat.le_of_ble_eq_true rfl) dX12_copy_124 ⟨Nat.le_of_ble_eq_true rfl, Nat.le_of_ble_eq_true rfl⟩ (fun r w1 H locs hq hP hD hS => ?_)
                      obtain ⟨rfl, rfl⟩ := hq
                      exact hret _ _ _ _ _ _ (Or.inr ⟨s', t', ⟨rfl, rfl, hs, ht⟩, Or.inr (Or.inr (Or.inl ⟨by omega, c5, fun hh => by obtain ⟨f, w, k, ⟨e1, e2, e3⟩, h⟩ := hh; have e1 := (nI_eq (by omega) (by omega)).mp e1; have e2 := (nI_eq (by omega) (by omega)).mp e2; have e3 := (nI_eq (by omega) (by omega)).mp e3; omega, rfl, rfl⟩))⟩) hP hD hS dX12_copy_127
          · refine lv_aload_n hx hb dX12_copy_63 rfl (lv_at hl 0 rfl) ?_
            refine lv_ldc2 (v := (-1000000004)) hx hb hown (hts (.constantLong RX12 131 (-1000000004)) (by decide +kernel)) dX12_copy_64 ?_
            refine mq_Vl (As := [.long ((-1000000004))]) (rest := []) (ci := 12) (k0 := 0) ⟨hx, hb, hml, hown, hts⟩ (cM_finds l D ad cI cJ a kp bt sz sheets go ro car ke km fi gm bs bu n1 n2 n3 n4 n5 n6 n7 px py db ((-1000000004)) ) (cwV 1 hts gX12_copy_X12_finds rfl rfl rfl (by decide +kernel) ⟨Nat.le_of_ble_eq_true rfl, Nat.le_of_ble_eq_true rfl⟩) rfl rfl hP hK hD hS hA rfl hl.1 rfl (Nat.le_of_ble_eq_true rfl) dX12_copy_67 ⟨Nat.le_of_ble_eq_true rfl, Nat.le_of_ble_eq_true rfl⟩ (fun r w1 H locs hq hP hD hS => ?_)
            obtain ⟨rfl, rfl⟩ := hq
            exact hret _ _ _ _ _ _ (Or.inr ⟨s', t', ⟨rfl, rfl, hs, ht⟩, Or.inr (Or.inl ⟨by omega, by omega, c5, rfl, rfl⟩)⟩) hP hD hS dX12_copy_70
        · refine lv_aload_n hx hb dX12_copy_40 rfl (lv_at hl 0 rfl) ?_
          refine lv_ldc2 (v := (-1000000002)) hx hb hown (hts (.constantLong RX12 199 (-1000000002)) (by decide +kernel)) dX12_copy_41 ?_
          refine mq_Vl (As := [.long ((-1000000002))]) (rest := []) (ci := 12) (k0 := 0) ⟨hx, hb, hml, hown, hts⟩ (cM_finds l D ad cI cJ a kp bt sz sheets go ro car ke km fi gm bs bu n1 n2 n3 n4 n5 n6 n7 px py db ((-1000000002)) ) (cwV 1 hts gX12_copy_X12_finds rfl rfl rfl (by decide +kernel) ⟨Nat.le_of_ble_eq_true rfl, Nat.le_of_ble_eq_true rfl⟩) rfl rfl hP hK hD hS hA rfl hl.1 rfl (Nat.le_of_ble_eq_true rfl) dX12_copy_44 ⟨Nat.le_of_ble_eq_true rfl, Nat.le_of_ble_eq_true rfl⟩ (fun r w1 H locs hq hP hD hS => ?_)
          obtain ⟨rfl, rfl⟩ := hq
          exact hret _ _ _ _ _ _ (Or.inr ⟨s', t', ⟨rfl, rfl, hs, ht⟩, Or.inl ⟨Or.inr c4, rfl, rfl⟩⟩) hP hD hS dX12_copy_47
    · refine lv_aload_n hx hb dX12_copy_14 rfl (lv_at hl 0 rfl) ?_
      refine lv_ldc2 (v := (-1000000001)) hx hb hown (hts (.constantLong RX12 76 (-1000000001)) (by decide +kernel)) dX12_copy_15 ?_
      refine mq_Vl (As := [.long ((-1000000001))]) (rest := []) (ci := 12) (k0 := 0) ⟨hx, hb, hml, hown, hts⟩ (cM_finds l D ad cI cJ a kp bt sz sheets go ro car ke km fi gm bs bu n1 n2 n3 n4 n5 n6 n7 px py db ((-1000000001)) ) (cwV 1 hts gX12_copy_X12_finds rfl rfl rfl (by decide +kernel) ⟨Nat.le_of_ble_eq_true rfl, Nat.le_of_ble_eq_true rfl⟩) rfl rfl hP hK hD hS hA rfl hl.1 rfl (Nat.le_of_ble_eq_true rfl) dX12_copy_18 ⟨Nat.le_of_ble_eq_true rfl, Nat.le_of_ble_eq_true rfl⟩ (fun r w1 H locs hq hP hD hS => ?_)
      obtain ⟨rfl, rfl⟩ := hq
      exact hret _ _ _ _ _ _ (Or.inl ⟨fun h => c2 h.2, rfl, rfl⟩) hP hD hS dX12_copy_21
