/-- g's first n numbers from d on among f's -/
def cpN (f g : Nat → Nat) (d n : Nat) : Nat → Nat := fun j => if d ≤ j ∧ j < d + n then g (j - d) else f j
theorem cpN_0 (f g : Nat → Nat) (d : Nat) : cpN f g d 0 = f := by
  funext j
  simp only [cpN]
  rw [if_neg (by omega)]
theorem cpN_s (f g : Nat → Nat) (d k : Nat) : upN (cpN f g d k) (d + k) (g k) = cpN f g d (k + 1) := by
  funext j
  simp only [cpN, upN]
  by_cases h : j = d + k
  · subst h
    rw [if_pos rfl, if_pos (by omega), Nat.add_sub_cancel_left]
  · rw [if_neg h]
    by_cases h2 : d ≤ j ∧ j < d + k
    · rw [if_pos h2, if_pos (by omega)]
    · rw [if_neg h2, if_neg (by omega)]
theorem cpN_in {f g : Nat → Nat} {d n j : Nat} (h : j < n) : cpN f g d n (d + j) = g j := by
  simp only [cpN]
  rw [if_pos (by omega), Nat.add_sub_cancel_left]
theorem cpN_out {f g : Nat → Nat} {d n j : Nat} (h : j < d ∨ d + n ≤ j) : cpN f g d n j = f j := by
  simp only [cpN]
  rw [if_neg (by omega)]
def kmU (km : Nat) : Nat := if km < 20 then km + 1 else 20
set_option maxHeartbeats 4000000 in
set_option maxRecDepth 100000 in
theorem cM_keep (l : Launch) (D : va_G) (ad : Nat → Nat) (cI cJ : ClassId) (a kp bt sz : Nat → Nat) (sheets : Nat → Int32) (go ro : Nat → Nat) (car : Nat → Int32) (ke km fi gm bs bu : Nat) (n1 n2 n3 n4 n5 n6 n7 : Int64) (px py db : Nat → Int64)  (he : ke < 20) (hm : km ≤ 20) : mq_v l D (mT cI cJ) yX12_keep wsX12_keep 0 0 0 0 [.ref (ad 0)] (mW ad cI cJ a kp bt sz sheets go ro car ke km fi gm bs bu n1 n2 n3 n4 n5 n6 n7 px py db) (fun w1 => w1 = mW ad cI cJ a (cpN kp a (598 * ke) 598) bt sz sheets go ro car ((ke + 1) % 20) (kmU km) fi gm bs bu n1 n2 n3 n4 n5 n6 n7 px py db) := by
  refine mq_v_of (cc := cX12_keep) (maxL := 2) (by decide) rfl (Nat.le_of_ble_eq_true rfl) ?_
  intro p e s m args below meth c A Q ls hx hb hts hown hml hnm hA hP hK hD hS hl hret
  have hown : s.vm.findClass RX12 = some m.cls := hown
  have hinX12 : ∀ w ∈ u_ws RX12 TX12 24, w ∈ wsX12_keep := by decide +kernel
  have hl : lv_has ls 2 [(0, .ref (ad 0))] := hl
  refine lv_iconst (v := (nI (0))) hx hb dX12_keep_0 (by decide) ?_
  refine lv_istore_n (lv' := [(1, .int (nI (0))), (0, .ref (ad 0))]) hx hb dX12_keep_1 rfl hl (by decide) rfl (fun ls hl => ?_)
  have lp : ∀ (n : Nat) (k : Nat), (k + n = 598) → ∀ (H : Heap) (locs : List Loc) (ls : Array Slot), va_P D vwCl (mW ad cI cJ a (cpN kp a (598 * ke) k) bt sz sheets go ro car ke km fi gm bs bu n1 n2 n3 n4 n5 n6 n7 px py db) H → va_D A (mW ad cI cJ a (cpN kp a (598 * ke) k) bt sz sheets go ro car ke km fi gm bs bu n1 n2 n3 n4 n5 n6 n7 px py db) → va_S A s.heap H locs → lv_has ls 2 [(1, .int (nI (k))), (0, .ref (ad 0))] → W p l e (mq_R 0 0 0 0) s m args below meth c H locs 0 0 Q (F0 m 2 ls []) := by
    intro n
    induction n with
    | zero =>
      intro k hk H locs ls hP hD hS hl
      refine lv_iload_n hx hb dX12_keep_2 rfl (lv_at hl 0 rfl) ?_
      refine lv_sipush (v := (nI (598))) hx hb dX12_keep_3 (by decide) ?_
      refine ln_icmp_ge (tgt := 36) hx hb dX12_keep_6 (by decide) (by omega) (by omega) (fun c1 => ?_) (fun c1 => ?_)
      · have hk0 : k = 598 := by omega
        subst hk0
        refine lv_aload_n hx hb dX12_keep_36 rfl (lv_at hl 1 rfl) ?_
        refine lv_aload_n hx hb dX12_keep_37 rfl (lv_at hl 1 rfl) ?_
        refine va_get (D := D) (ci := 12) (v := .int (nI (ke))) (C := RX12) (T := TX12) (N := 24) hx hb hts hinX12 hown hK hP 0 rfl rfl 2 (by decide) (hts (.fieldLink RX12 48 "CornDeskModel" "keptEnd" "I") (by decide +kernel)) (fun _ h9 => h9) rfl dX12_keep_38 ?_
        refine lv_iconst (v := (nI (1))) hx hb dX12_keep_41 (by decide) ?_
        refine ln_iadd hx hb dX12_keep_42 ?_
        refine lv_bipush (v := (nI (20))) hx hb dX12_keep_43 (by decide) ?_
        refine ln_irem hx hb dX12_keep_45 (by omega) (by omega) (by omega) ?_
        refine va_put (D := D) (ci := 12) (v := .int (nI ((ke + 1) % (20)))) (ty := .int) (C := RX12) (T := TX12) (N := 24) hx hb hts hinX12 tyX12 tyX12_ok nmX12 hown hK hP hD hS 0 rfl rfl 2 (by decide) (hts (.fieldLink RX12 48 "CornDeskModel" "keptEnd" "I") (by decide +kernel)) (fun _ h9 => h9) rfl (by decide +kernel) rfl rfl (Nat.le_of_ble_eq_true rfl) dX12_keep_46 (fun H locs hP hD hS => ?_)
        have hP : va_P D vwCl (mW ad cI cJ a (cpN kp a (598 * ke) 598) bt sz sheets go ro car ((ke + 1) % (20)) km fi gm bs bu n1 n2 n3 n4 n5 n6 n7 px py db) H := hP
        have hD : va_D A (mW ad cI cJ a (cpN kp a (598 * ke) 598) bt sz sheets go ro car ((ke + 1) % (20)) km fi gm bs bu n1 n2 n3 n4 n5 n6 n7 px py db) := hD
        refine lv_aload_n hx hb dX12_keep_49 rfl (lv_at hl 1 rfl) ?_
        refine lv_aload_n hx hb dX12_keep_50 rfl (lv_at hl 1 rfl) ?_
        refine va_get (D := D) (ci := 12) (v := .int (nI (km))) (C := RX12) (T := TX12) (N := 24) hx hb hts hinX12 hown hK hP 0 rfl rfl 3 (by decide) (hts (.fieldLink RX12 51 "CornDeskModel" "keptMany" "I") (by decide +kernel)) (fun _ h9 => h9) rfl dX12_keep_51 ?_
        refine lv_bipush (v := (nI (20))) hx hb dX12_keep_54 (by decide) ?_
        refine ln_icmp_ge (tgt := 68) hx hb dX12_keep_56 (by decide) (by omega) (by omega) (fun c2 => ?_) (fun c2 => ?_)
        · refine lv_bipush (v := (nI (20))) hx hb dX12_keep_68 (by decide) ?_
          refine va_put (D := D) (ci := 12) (v := .int (nI (20))) (ty := .int) (C := RX12) (T := TX12) (N := 24) hx hb hts hinX12 tyX12 tyX12_ok nmX12 hown hK hP hD hS 0 rfl rfl 3 (by decide) (hts (.fieldLink RX12 51 "CornDeskModel" "keptMany" "I") (by decide +kernel)) (fun _ h9 => h9) rfl (by decide +kernel) rfl rfl (Nat.le_of_ble_eq_true rfl) dX12_keep_70 (fun H locs hP hD hS => ?_)
          have hP : va_P D vwCl (mW ad cI cJ a (cpN kp a (598 * ke) 598) bt sz sheets go ro car ((ke + 1) % (20)) 20 fi gm bs bu n1 n2 n3 n4 n5 n6 n7 px py db) H := hP
          have hD : va_D A (mW ad cI cJ a (cpN kp a (598 * ke) 598) bt sz sheets go ro car ((ke + 1) % (20)) 20 fi gm bs bu n1 n2 n3 n4 n5 n6 n7 px py db) := hD
          exact hret _ _ _ _ _ (show _ = _ by rw [show kmU km = 20 from if_neg (by omega)]) hP hD hS dX12_keep_73
        · refine lv_aload_n hx hb dX12_keep_59 rfl (lv_at hl 1 rfl) ?_
          refine va_get (D := D) (ci := 12) (v := .int (nI (km))) (C := RX12) (T := TX12) (N := 24) hx hb hts hinX12 hown hK hP 0 rfl rfl 3 (by decide) (hts (.fieldLink RX12 51 "CornDeskModel" "keptMany" "I") (by decide +kernel)) (fun _ h9 => h9) rfl dX12_keep_60 ?_
          refine lv_iconst (v := (nI (1))) hx hb dX12_keep_63 (by decide) ?_
          refine ln_iadd hx hb dX12_keep_64 ?_
          refine lv_goto (tgt := 70) hx hb dX12_keep_65 (by decide) ?_
          refine va_put (D := D) (ci := 12) (v := .int (nI (km + 1))) (ty := .int) (C := RX12) (T := TX12) (N := 24) hx hb hts hinX12 tyX12 tyX12_ok nmX12 hown hK hP hD hS 0 rfl rfl 3 (by decide) (hts (.fieldLink RX12 51 "CornDeskModel" "keptMany" "I") (by decide +kernel)) (fun _ h9 => h9) rfl (by decide +kernel) rfl rfl (Nat.le_of_ble_eq_true rfl) dX12_keep_70 (fun H locs hP hD hS => ?_)
          have hP : va_P D vwCl (mW ad cI cJ a (cpN kp a (598 * ke) 598) bt sz sheets go ro car ((ke + 1) % (20)) (km + 1) fi gm bs bu n1 n2 n3 n4 n5 n6 n7 px py db) H := hP
          have hD : va_D A (mW ad cI cJ a (cpN kp a (598 * ke) 598) bt sz sheets go ro car ((ke + 1) % (20)) (km + 1) fi gm bs bu n1 n2 n3 n4 n5 n6 n7 px py db) := hD
          exact hret _ _ _ _ _ (show _ = _ by rw [show kmU km = km + 1 from if_pos (by omega)]) hP hD hS dX12_keep_73
      · exact absurd hk (by omega)
    | succ n ih =>
      intro k hk H locs ls hP hD hS hl
      refine lv_iload_n hx hb dX12_keep_2 rfl (lv_at hl 0 rfl) ?_
      refine lv_sipush (v := (nI (598))) hx hb dX12_keep_3 (by decide) ?_
      refine ln_icmp_ge (tgt := 36) hx hb dX12_keep_6 (by decide) (by omega) (by omega) (fun c1 => ?_) (fun c1 => ?_)
      · exact absurd hk (by omega)
      · refine lv_aload_n hx hb dX12_keep_9 rfl (lv_at hl 1 rfl) ?_
        refine va_get (D := D) (ci := 12) (v := .ref (ad 2)) (C := RX12) (T := TX12) (N := 24) hx hb hts hinX12 hown hK hP 0 rfl rfl 1 (by decide) (hts (.fieldLink RX12 13 "CornDeskModel" "kept" "[I") (by decide +kernel)) (fun _ h9 => h9) rfl dX12_keep_10 ?_
        refine lv_sipush (v := (nI (598))) hx hb dX12_keep_13 (by decide) ?_
        refine lv_aload_n hx hb dX12_keep_16 rfl (lv_at hl 1 rfl) ?_
        refine va_get (D := D) (ci := 12) (v := .int (nI (ke))) (C := RX12) (T := TX12) (N := 24) hx hb hts hinX12 hown hK hP 0 rfl rfl 2 (by decide) (hts (.fieldLink RX12 48 "CornDeskModel" "keptEnd" "I") (by decide +kernel)) (fun _ h9 => h9) rfl dX12_keep_17 ?_
        refine ln_imul hx hb dX12_keep_20 ?_
        refine lv_iload_n hx hb dX12_keep_21 rfl (lv_at hl 0 rfl) ?_
        refine ln_iadd hx hb dX12_keep_22 ?_
        refine lv_aload_n hx hb dX12_keep_23 rfl (lv_at hl 1 rfl) ?_
        refine va_get (D := D) (ci := 12) (v := .ref (ad 1)) (C := RX12) (T := TX12) (N := 24) hx hb hts hinX12 hown hK hP 0 rfl rfl 0 (by decide) (hts (.fieldLink RX12 9 "CornDeskModel" "now" "[I") (by decide +kernel)) (fun _ h9 => h9) rfl dX12_keep_24 ?_
        refine lv_iload_n hx hb dX12_keep_27 rfl (lv_at hl 0 rfl) ?_
        refine ln_iald hx hb hK hP 1 0 rfl rfl (by decide) (by omega) dX12_keep_28 ?_
        refine ln_iastN hx hb hK hP hD hS 2 0 rfl rfl (by decide) (by omega) dX12_keep_29 (fun H locs hP hD hS => ?_)
        have hP : va_P D vwCl (mW ad cI cJ a (upN (cpN kp a (598 * ke) k) ((598) * (ke) + k) (a (k))) bt sz sheets go ro car ke km fi gm bs bu n1 n2 n3 n4 n5 n6 n7 px py db) H := hP
        have hD : va_D A (mW ad cI cJ a (upN (cpN kp a (598 * ke) k) ((598) * (ke) + k) (a (k))) bt sz sheets go ro car ke km fi gm bs bu n1 n2 n3 n4 n5 n6 n7 px py db) := hD
        refine lv_iinc (v := (nI (k + 1))) (lv' := [(1, .int (nI (k + 1))), (0, .ref (ad 0))]) hx hb dX12_keep_30 hl (k := 0) rfl (by rw [show (Int32.ofInt 1) = nI 1 from rfl, nI_add]) (by decide) rfl (fun ls hl => ?_)
        refine lv_goto (tgt := 2) hx hb dX12_keep_33 (by decide) ?_
        exact ih (k + 1) (by omega) _ _ _ (by rw [← cpN_s]; exact hP) (by rw [← cpN_s]; exact hD) hS hl
  exact lp (598) (0) (by omega) _ _ _ (by rw [cpN_0]; exact hP) (by rw [cpN_0]; exact hD) hS hl
set_option maxHeartbeats 4000000 in
set_option maxRecDepth 100000 in
theorem cM_picture (l : Launch) (D : va_G) (ad : Nat → Nat) (cI cJ : ClassId) (a kp bt sz : Nat → Nat) (sheets : Nat → Int32) (go ro : Nat → Nat) (car : Nat → Int32) (ke km fi gm bs bu : Nat) (n1 n2 n3 n4 n5 n6 n7 : Int64) (px py db : Nat → Int64)  (h0 : a 0 ≤ 6) (he : ke < 20) (hm : km ≤ 20) : mq_l l D (mT cI cJ) yX12_picture wsX12_picture 1 0 0 22 [.ref (ad 0)] (mW ad cI cJ a kp bt sz sheets go ro car ke km fi gm bs bu n1 n2 n3 n4 n5 n6 n7 px py db) (fun r w1 => (a 0 = 6 ∧ r = -1000000005 ∧ w1 = mW ad cI cJ a kp bt sz sheets go ro car ke km (fi + 1) gm bs bu n1 n2 n3 n4 n5 n6 n7 px py db) ∨ (a 0 < 6 ∧ r = (nI (a 0)).toInt64 ∧ w1 = mW ad cI cJ (upN (upN a (4 + a 0) 0) 0 (a 0 + 1)) (cpN kp a (598 * ke) 598) bt sz sheets go ro car ((ke + 1) % 20) (kmU km) fi gm bs bu n1 n2 n3 n4 n5 n6 n7 px py db)) := by
  refine mq_l_of (cc := cX12_picture) (maxL := 1) (by decide) rfl (Nat.le_of_ble_eq_true rfl) ?_
  intro p e s m args below meth c A Q ls hx hb hts hown hml hnm hA hP hK hD hS hl hret
  have hown : s.vm.findClass RX12 = some m.cls := hown
  have hinX12 : ∀ w ∈ u_ws RX12 TX12 24, w ∈ wsX12_picture := by decide +kernel
  have hl : lv_has ls 1 [(0, .ref (ad 0))] := hl
  refine lv_aload_n hx hb dX12_picture_0 rfl (lv_at hl 0 rfl) ?_
  refine va_get (D := D) (ci := 12) (v := .ref (ad 1)) (C := RX12) (T := TX12) (N := 24) hx hb hts hinX12 hown hK hP 0 rfl rfl 0 (by decide) (hts (.fieldLink RX12 9 "CornDeskModel" "now" "[I") (by decide +kernel)) (fun _ h9 => h9) rfl dX12_picture_1 ?_
  refine lv_iconst (v := (nI (0))) hx hb dX12_picture_4 (by decide) ?_
  refine ln_iald hx hb hK hP 1 0 rfl rfl (by decide) (by omega) dX12_picture_5 ?_
  refine lv_bipush (v := (nI (6))) hx hb dX12_picture_6 (by decide) ?_
  refine ln_icmp_ne (tgt := 19) hx hb dX12_picture_8 (by decide) (by omega) (by omega) (fun c1 => ?_) (fun c1 => ?_)
  · refine lv_aload_n hx hb dX12_picture_19 rfl (lv_at hl 0 rfl) ?_
    refine mq_Vv (As := []) (rest := []) (ci := 12) (k0 := 0) ⟨hx, hb, hml, hown, hts⟩ (cM_keep l D ad cI cJ a kp bt sz sheets go ro car ke km fi gm bs bu n1 n2 n3 n4 n5 n6 n7 px py db  he hm) (cwV 0 hts gX12_picture_X12_keep rfl rfl rfl (by decide +kernel) ⟨Nat.le_of_ble_eq_true rfl, Nat.le_of_ble_eq_true rfl⟩) rfl rfl hP hK hD hS hA rfl hl.1 rfl (Nat.le_of_ble_eq_true rfl) dX12_picture_20 ⟨Nat.le_of_ble_eq_true rfl, Nat.le_of_ble_eq_true rfl⟩ (fun w1 H locs hq hP hD hS => ?_)
    subst hq
    refine lv_aload_n hx hb dX12_picture_23 rfl (lv_at hl 0 rfl) ?_
    refine va_get (D := D) (ci := 12) (v := .ref (ad 1)) (C := RX12) (T := TX12) (N := 24) hx hb hts hinX12 hown hK hP 0 rfl rfl 0 (by decide) (hts (.fieldLink RX12 9 "CornDeskModel" "now" "[I") (by decide +kernel)) (fun _ h9 => h9) rfl dX12_picture_24 ?_
    refine lv_iconst (v := (nI (4))) hx hb dX12_picture_27 (by decide) ?_
    refine lv_aload_n hx hb dX12_picture_28 rfl (lv_at hl 0 rfl) ?_
    refine va_get (D := D) (ci := 12) (v := .ref (ad 1)) (C := RX12) (T := TX12) (N := 24) hx hb hts hinX12 hown hK hP 0 rfl rfl 0 (by decide) (hts (.fieldLink RX12 9 "CornDeskModel" "now" "[I") (by decide +kernel)) (fun _ h9 => h9) rfl dX12_picture_29 ?_
    refine lv_iconst (v := (nI (0))) hx hb dX12_picture_32 (by decide) ?_
    refine ln_iald hx hb hK hP 1 0 rfl rfl (by decide) (by omega) dX12_picture_33 ?_
    refine ln_iadd hx hb dX12_picture_34 ?_
    refine lv_iconst (v := (nI (0))) hx hb dX12_picture_35 (by decide) ?_
    refine ln_iastN hx hb hK hP hD hS 1 0 rfl rfl (by decide) (by omega) dX12_picture_36 (fun H locs hP hD hS => ?_)
    have hP : va_P D vwCl (mW ad cI cJ (upN a (4 + a (0)) (0)) (cpN kp a (598 * ke) 598) bt sz sheets go ro car ((ke + 1) % 20) (kmU km) fi gm bs bu n1 n2 n3 n4 n5 n6 n7 px py db) H := hP
    have hD : va_D A (mW ad cI cJ (upN a (4 + a (0)) (0)) (cpN kp a (598 * ke) 598) bt sz sheets go ro car ((ke + 1) % 20) (kmU km) fi gm bs bu n1 n2 n3 n4 n5 n6 n7 px py db) := hD
    refine lv_aload_n hx hb dX12_picture_37 rfl (lv_at hl 0 rfl) ?_
    refine va_get (D := D) (ci := 12) (v := .ref (ad 1)) (C := RX12) (T := TX12) (N := 24) hx hb hts hinX12 hown hK hP 0 rfl rfl 0 (by decide) (hts (.fieldLink RX12 9 "CornDeskModel" "now" "[I") (by decide +kernel)) (fun _ h9 => h9) rfl dX12_picture_38 ?_
    refine lv_iconst (v := (nI (0))) hx hb dX12_picture_41 (by decide) ?_
    refine lv_dup2_11 hx hb dX12_picture_42 rfl rfl ?_
    refine ln_iald hx hb hK hP 1 0 rfl rfl (by decide) (by omega) dX12_picture_43 ?_
    refine ln_eqi (y := (nI (a (0)))) (congrArg nI (by simp only [upN, if_true]; (repeat first | rw [if_neg (by omega)] | rw [if_pos (by omega)]))) ?_
    refine lv_iconst (v := (nI (1))) hx hb dX12_picture_44 (by decide) ?_
    refine ln_iadd hx hb dX12_picture_45 ?_
    refine ln_iastN hx hb hK hP hD hS 1 0 rfl rfl (by decide) (by omega) dX12_picture_46 (fun H locs hP hD hS => ?_)
    have hP : va_P D vwCl (mW ad cI cJ (upN (upN a (4 + a (0)) (0)) (0) (a (0) + 1)) (cpN kp a (598 * ke) 598) bt sz sheets go ro car ((ke + 1) % 20) (kmU km) fi gm bs bu n1 n2 n3 n4 n5 n6 n7 px py db) H := hP
    have hD : va_D A (mW ad cI cJ (upN (upN a (4 + a (0)) (0)) (0) (a (0) + 1)) (cpN kp a (598 * ke) 598) bt sz sheets go ro car ((ke + 1) % 20) (kmU km) fi gm bs bu n1 n2 n3 n4 n5 n6 n7 px py db) := hD
    refine lv_aload_n hx hb dX12_picture_47 rfl (lv_at hl 0 rfl) ?_
    refine va_get (D := D) (ci := 12) (v := .ref (ad 1)) (C := RX12) (T := TX12) (N := 24) hx hb hts hinX12 hown hK hP 0 rfl rfl 0 (by decide) (hts (.fieldLink RX12 9 "CornDeskModel" "now" "[I") (by decide +kernel)) (fun _ h9 => h9) rfl dX12_picture_48 ?_
    refine lv_iconst (v := (nI (0))) hx hb dX12_picture_51 (by decide) ?_
    refine ln_iald hx hb hK hP 1 0 rfl rfl (by decide) (by omega) dX12_picture_52 ?_
    refine ln_eqi (y := (nI (a (0) + 1))) (congrArg nI (by simp only [upN, if_true]; (repeat first | rw [if_neg (by omega)] | rw [if_pos (by omega)]))) ?_
    refine lv_iconst (v := (nI (1))) hx hb dX12_picture_53 (by decide) ?_
    refine ln_isub hx hb dX12_picture_54 (by omega) ?_
    refine lv_i2l hx hb dX12_picture_55 rfl ?_
    exact hret _ _ _ _ _ _ (Or.inr ⟨by omega, rfl, rfl⟩) hP hD hS dX12_picture_56
  · refine lv_aload_n hx hb dX12_picture_11 rfl (lv_at hl 0 rfl) ?_
    refine lv_ldc2 (v := (-1000000005)) hx hb hown (hts (.constantLong RX12 64 (-1000000005)) (by decide +kernel)) dX12_picture_12 ?_
    refine mq_Vl (As := [.long ((-1000000005))]) (rest := []) (ci := 12) (k0 := 0) ⟨hx, hb, hml, hown, hts⟩ (cM_finds l D ad cI cJ a kp bt sz sheets go ro car ke km fi gm bs bu n1 n2 n3 n4 n5 n6 n7 px py db ((-1000000005)) ) (cwV 1 hts gX12_picture_X12_finds rfl rfl rfl (by decide +kernel) ⟨Nat.le_of_ble_eq_true rfl, Nat.le_of_ble_eq_true rfl⟩) rfl rfl hP hK hD hS hA rfl hl.1 rfl (Nat.le_of_ble_eq_true rfl) dX12_picture_15 ⟨Nat.le_of_ble_eq_true rfl, Nat.le_of_ble_eq_true rfl⟩ (fun r w1 H locs hq hP hD hS => ?_)
    obtain ⟨rfl, rfl⟩ := hq
    exact hret _ _ _ _ _ _ (Or.inl ⟨c1, rfl, rfl⟩) hP hD hS dX12_picture_18
set_option maxHeartbeats 4000000 in
set_option maxRecDepth 100000 in
theorem cM_place (l : Launch) (D : va_G) (ad : Nat → Nat) (cI cJ : ClassId) (a kp bt sz : Nat → Nat) (sheets : Nat → Int32) (go ro : Nat → Nat) (car : Nat → Int32) (ke km fi gm bs bu : Nat) (n1 n2 n3 n4 n5 n6 n7 : Int64) (px py db : Nat → Int64) (pi : Int32) (u : Int32) (v : Int32) (x : Int32) (y : Int32) (h0 : a 0 ≤ 6) (hmany : ∀ i, i < a 0 → a (4 + i) ≤ 8) (he : ke < 20) (hm : km ≤ 20) : mq_l l D (mT cI cJ) yX12_place wsX12_place 2 0 0 43 [.ref (ad 0), .int (pi), .int (u), .int (v), .int (x), .int (y)] (mW ad cI cJ a kp bt sz sheets go ro car ke km fi gm bs bu n1 n2 n3 n4 n5 n6 n7 px py db) (fun r w1 => (¬ (ix (a 0) pi ∧ rg 0 999 u ∧ rg 0 999 v ∧ rg 0 999 x ∧ rg 0 999 y) ∧ r = -1000000001 ∧ w1 = mW ad cI cJ a kp bt sz sheets go ro car ke km (fi + 1) gm bs bu n1 n2 n3 n4 n5 n6 n7 px py db) ∨ (∃ i u' v' x' y' : Nat, (pi = nI i ∧ u = nI u' ∧ v = nI v' ∧ x = nI x' ∧ y = nI y' ∧ i < a 0 ∧ u' ≤ 999 ∧ v' ≤ 999 ∧ x' ≤ 999 ∧ y' ≤ 999) ∧ ((a (4 + i) = 8 ∧ r = -1000000005 ∧ w1 = mW ad cI cJ a kp bt sz sheets go ro car ke km (fi + 1) gm bs bu n1 n2 n3 n4 n5 n6 n7 px py db) ∨ (a (4 + i) < 8 ∧ r = (nI (a (4 + i) + 1)).toInt64 ∧ w1 = mW ad cI cJ ((upN (upN (upN (upN (upN a (10 + 32 * i + 4 * a (4 + i)) u') (10 + 32 * i + 4 * a (4 + i) + 1) v') (10 + 32 * i + 4 * a (4 + i) + 2) x') (10 + 32 * i + 4 * a (4 + i) + 3) y') (4 + i) (a (4 + i) + 1))) (cpN kp a (598 * ke) 598) bt sz sheets go ro car ((ke + 1) % 20) (kmU km) fi gm bs bu n1 n2 n3 n4 n5 n6 n7 px py db)))) := by
  refine mq_l_of (cc := cX12_place) (maxL := 8) (by decide) rfl (Nat.le_of_ble_eq_true rfl) ?_
  intro p e s m args below meth c A Q ls hx hb hts hown hml hnm hA hP hK hD hS hl hret
  have hown : s.vm.findClass RX12 = some m.cls := hown
  have hinX12 : ∀ w ∈ u_ws RX12 TX12 24, w ∈ wsX12_place := by decide +kernel
  have hl : lv_has ls 8 [(0, .ref (ad 0)), (1, .int (pi)), (2, .int (u)), (3, .int (v)), (4, .int (x)), (5, .int (y))] := hl
  refine lv_aload_n hx hb dX12_place_0 rfl (lv_at hl 0 rfl) ?_
  refine lv_iload_n hx hb dX12_place_1 rfl (lv_at hl 1 rfl) ?_
  refine mq_Vi (As := [.int (pi)]) (rest := []) (ci := 12) (k0 := 0) ⟨hx, hb, hml, hown, hts⟩ (cM_isPicture l D ad cI cJ a kp bt sz sheets go ro car ke km fi gm bs bu n1 n2 n3 n4 n5 n6 n7 px py db (pi) (by omega)) (cwV 1 hts gX12_place_X12_isPicture rfl rfl rfl (by decide +kernel) ⟨Nat.le_of_ble_eq_true rfl, Nat.le_of_ble_eq_true rfl⟩) rfl rfl hP hK hD hS hA rfl hl.1 rfl (Nat.le_of_ble_eq_true rfl) dX12_place_2 ⟨Nat.le_of_ble_eq_true rfl, Nat.le_of_ble_eq_true rfl⟩ (fun r w1 H locs hq hP hD hS => ?_)
  obtain ⟨rfl, rfl⟩ := hq
  refine lb_if_eq (tgt := 38) hx hb dX12_place_5 (by decide) (fun c1 => ?_) (fun c1 => ?_)
  · refine lv_aload_n hx hb dX12_place_38 rfl (lv_at hl 0 rfl) ?_
    refine lv_ldc2 (v := (-1000000001)) hx hb hown (hts (.constantLong RX12 76 (-1000000001)) (by decide +kernel)) dX12_place_39 ?_
    refine mq_Vl (As := [.long ((-1000000001))]) (rest := []) (ci := 12) (k0 := 0) ⟨hx, hb, hml, hown, hts⟩ (cM_finds l D ad cI cJ a kp bt sz sheets go ro car ke km fi gm bs bu n1 n2 n3 n4 n5 n6 n7 px py db ((-1000000001)) ) (cwV 1 hts gX12_place_X12_finds rfl rfl rfl (by decide +kernel) ⟨Nat.le_of_ble_eq_true rfl, Nat.le_of_ble_eq_true rfl⟩) rfl rfl hP hK hD hS hA rfl hl.1 rfl (Nat.le_of_ble_eq_true rfl) dX12_place_42 ⟨Nat.le_of_ble_eq_true rfl, Nat.le_of_ble_eq_true rfl⟩ (fun r w1 H locs hq hP hD hS => ?_)
    obtain ⟨rfl, rfl⟩ := hq
    exact hret _ _ _ _ _ _ (Or.inl ⟨fun h => c1 h.1, rfl, rfl⟩) hP hD hS dX12_place_45
  · refine lv_iload_n hx hb dX12_place_8 rfl (lv_at hl 2 rfl) ?_
    refine mq_Si (As := [.int (u)]) (rest := []) ⟨hx, hb, hml, hown, hts⟩ (cM_isNumber l D _ (u) ) (cwS 1 hts gX12_place_X12_isNumber rfl rfl rfl (by decide +kernel) ⟨Nat.le_of_ble_eq_true rfl, Nat.le_of_ble_eq_true rfl⟩) hP hK hS hA rfl hl.1 rfl (Nat.le_of_ble_eq_true rfl) dX12_place_9 ⟨Nat.le_of_ble_eq_true rfl, Nat.le_of_ble_eq_true rfl⟩ (fun r w1 H locs hq hP hS => ?_)
    subst hq
    refine lb_if_eq (tgt := 38) hx hb dX12_place_12 (by decide) (fun c2 => ?_) (fun c2 => ?_)
    · refine lv_aload_n hx hb dX12_place_38 rfl (lv_at hl 0 rfl) ?_
      refine lv_ldc2 (v := (-1000000001)) hx hb hown (hts (.constantLong RX12 76 (-1000000001)) (by decide +kernel)) dX12_place_39 ?_
      refine mq_Vl (As := [.long ((-1000000001))]) (rest := []) (ci := 12) (k0 := 0) ⟨hx, hb, hml, hown, hts⟩ (cM_finds l D ad cI cJ a kp bt sz sheets go ro car ke km fi gm bs bu n1 n2 n3 n4 n5 n6 n7 px py db ((-1000000001)) ) (cwV 1 hts gX12_place_X12_finds rfl rfl rfl (by decide +kernel) ⟨Nat.le_of_ble_eq_true rfl, Nat.le_of_ble_eq_true rfl⟩) rfl rfl hP hK hD hS hA rfl hl.1 rfl (Nat.le_of_ble_eq_true rfl) dX12_place_42 ⟨Nat.le_of_ble_eq_true rfl, Nat.le_of_ble_eq_true rfl⟩ (fun r w1 H locs hq hP hD hS => ?_)
      obtain ⟨rfl, rfl⟩ := hq
      exact hret _ _ _ _ _ _ (Or.inl ⟨fun h => c2 h.2.1, rfl, rfl⟩) hP hD hS dX12_place_45
    · refine lv_iload_n hx hb dX12_place_15 rfl (lv_at hl 3 rfl) ?_
      refine mq_Si (As := [.int (v)]) (rest := []) ⟨hx, hb, hml, hown, hts⟩ (cM_isNumber l D _ (v) ) (cwS 1 hts gX12_place_X12_isNumber rfl rfl rfl (by decide +kernel) ⟨Nat.le_of_ble_eq_true rfl, Nat.le_of_ble_eq_true rfl⟩) hP hK hS hA rfl hl.1 rfl (Nat.le_of_ble_eq_true rfl) dX12_place_16 ⟨Nat.le_of_ble_eq_true rfl, Nat.le_of_ble_eq_true rfl⟩ (fun r w1 H locs hq hP hS => ?_)
      subst hq
      refine lb_if_eq (tgt := 38) hx hb dX12_place_19 (by decide) (fun c3 => ?_) (fun c3 => ?_)
      · refine lv_aload_n hx hb dX12_place_38 rfl (lv_at hl 0 rfl) ?_
        refine lv_ldc2 (v := (-1000000001)) hx hb hown (hts (.constantLong RX12 76 (-1000000001)) (by decide +kernel)) dX12_place_39 ?_
        refine mq_Vl (As := [.long ((-1000000001))]) (rest := []) (ci := 12) (k0 := 0) ⟨hx, hb, hml, hown, hts⟩ (cM_finds l D ad cI cJ a kp bt sz sheets go ro car ke km fi gm bs bu n1 n2 n3 n4 n5 n6 n7 px py db ((-1000000001)) ) (cwV 1 hts gX12_place_X12_finds rfl rfl rfl (by decide +kernel) ⟨Nat.le_of_ble_eq_true rfl, Nat.le_of_ble_eq_true rfl⟩) rfl rfl hP hK hD hS hA rfl hl.1 rfl (Nat.le_of_ble_eq_true rfl) dX12_place_42 ⟨Nat.le_of_ble_eq_true rfl, Nat.le_of_ble_eq_true rfl⟩ (fun r w1 H locs hq hP hD hS => ?_)
        obtain ⟨rfl, rfl⟩ := hq
        exact hret _ _ _ _ _ _ (Or.inl ⟨fun h => c3 h.2.2.1, rfl, rfl⟩) hP hD hS dX12_place_45
      · refine lv_iload hx hb dX12_place_22 (lv_at hl 4 rfl) ?_
        refine mq_Si (As := [.int (x)]) (rest := []) ⟨hx, hb, hml, hown, hts⟩ (cM_isNumber l D _ (x) ) (cwS 1 hts gX12_place_X12_isNumber rfl rfl rfl (by decide +kernel) ⟨Nat.le_of_ble_eq_true rfl, Nat.le_of_ble_eq_true rfl⟩) hP hK hS hA rfl hl.1 rfl (Nat.le_of_ble_eq_true rfl) dX12_place_24 ⟨Nat.le_of_ble_eq_true rfl, Nat.le_of_ble_eq_true rfl⟩ (fun r w1 H locs hq hP hS => ?_)
        subst hq
        refine lb_if_eq (tgt := 38) hx hb dX12_place_27 (by decide) (fun c4 => ?_) (fun c4 => ?_)
        · refine lv_aload_n hx hb dX12_place_38 rfl (lv_at hl 0 rfl) ?_
          refine lv_ldc2 (v := (-1000000001)) hx hb hown (hts (.constantLong RX12 76 (-1000000001)) (by decide +kernel)) dX12_place_39 ?_
          refine mq_Vl (As := [.long ((-1000000001))]) (rest := []) (ci := 12) (k0 := 0) ⟨hx, hb, hml, hown, hts⟩ (cM_finds l D ad cI cJ a kp bt sz sheets go ro car ke km fi gm bs bu n1 n2 n3 n4 n5 n6 n7 px py db ((-1000000001)) ) (cwV 1 hts gX12_place_X12_finds rfl rfl rfl (by decide +kernel) ⟨Nat.le_of_ble_eq_true rfl, Nat.le_of_ble_eq_true rfl⟩) rfl rfl hP hK hD hS hA rfl hl.1 rfl (Nat.le_of_ble_eq_true rfl) dX12_place_42 ⟨Nat.le_of_ble_eq_true rfl, Nat.le_of_ble_eq_true rfl⟩ (fun r w1 H locs hq hP hD hS => ?_)
          obtain ⟨rfl, rfl⟩ := hq
          exact hret _ _ _ _ _ _ (Or.inl ⟨fun h => c4 h.2.2.2.1, rfl, rfl⟩) hP hD hS dX12_place_45
        · refine lv_iload hx hb dX12_place_30 (lv_at hl 5 rfl) ?_
          refine mq_Si (As := [.int (y)]) (rest := []) ⟨hx, hb, hml, hown, hts⟩ (cM_isNumber l D _ (y) ) (cwS 1 hts gX12_place_X12_isNumber rfl rfl rfl (by decide +kernel) ⟨Nat.le_of_ble_eq_true rfl, Nat.le_of_ble_eq_true rfl⟩) hP hK hS hA rfl hl.1 rfl (Nat.le_of_ble_eq_true rfl) dX12_place_32 ⟨Nat.le_of_ble_eq_true rfl, Nat.le_of_ble_eq_true rfl⟩ (fun r w1 H locs hq hP hS => ?_)
          subst hq
          refine lb_if_ne (tgt := 46) hx hb dX12_place_35 (by decide) (fun c5 => ?_) (fun c5 => ?_)
          · obtain ⟨i, hi, rfl⟩ := ix_of c1 (by omega)
            obtain ⟨u', -, hu, rfl⟩ := rg_of c2 (by decide) (by decide)
            obtain ⟨v', -, hv, rfl⟩ := rg_of c3 (by decide) (by decide)
            obtain ⟨x', -, hxx, rfl⟩ := rg_of c4 (by decide) (by decide)
            obtain ⟨y', -, hy, rfl⟩ := rg_of c5 (by decide) (by decide)
            have hmi : a (4 + i) ≤ 8 := hmany i hi
            refine lv_aload_n hx hb dX12_place_46 rfl (lv_at hl 0 rfl) ?_
            refine va_get (D := D) (ci := 12) (v := .ref (ad 1)) (C := RX12) (T := TX12) (N := 24) hx hb hts hinX12 hown hK hP 0 rfl rfl 0 (by decide) (hts (.fieldLink RX12 9 "CornDeskModel" "now" "[I") (by decide +kernel)) (fun _ h9 => h9) rfl dX12_place_47 ?_
            refine lv_iconst (v := (nI (4))) hx hb dX12_place_50 (by decide) ?_
            refine lv_iload_n hx hb dX12_place_51 rfl (lv_at hl 1 rfl) ?_
            refine ln_iadd hx hb dX12_place_52 ?_
            refine ln_iald hx hb hK hP 1 0 rfl rfl (by decide) (by omega) dX12_place_53 ?_
            refine lv_istore (lv' := [(6, .int (nI (a (4 + i)))), (0, .ref (ad 0)), (1, .int (nI (i))), (2, .int (nI (u'))), (3, .int (nI (v'))), (4, .int (nI (x'))), (5, .int (nI (y')))]) hx hb dX12_place_54 hl (by decide) rfl (fun ls hl => ?_)
            refine lv_iload hx hb dX12_place_56 (lv_at hl 0 rfl) ?_
            refine lv_bipush (v := (nI (8))) hx hb dX12_place_58 (by decide) ?_
            refine ln_icmp_ne (tgt := 71) hx hb dX12_place_60 (by decide) (by omega) (by omega) (fun c6 => ?_) (fun c6 => ?_)
            · refine lv_aload_n hx hb dX12_place_71 rfl (lv_at hl 1 rfl) ?_
              refine mq_Vv (As := []) (rest := []) (ci := 12) (k0 := 0) ⟨hx, hb, hml, hown, hts⟩ (cM_keep l D ad cI cJ a kp bt sz sheets go ro car ke km fi gm bs bu n1 n2 n3 n4 n5 n6 n7 px py db  he hm) (cwV 0 hts gX12_place_X12_keep rfl rfl rfl (by decide +kernel) ⟨Nat.le_of_ble_eq_true rfl, Nat.le_of_ble_eq_true rfl⟩) rfl rfl hP hK hD hS hA rfl hl.1 rfl (Nat.le_of_ble_eq_true rfl) dX12_place_72 ⟨Nat.le_of_ble_eq_true rfl, Nat.le_of_ble_eq_true rfl⟩ (fun w1 H locs hq hP hD hS => ?_)
              subst hq
              refine lv_bipush (v := (nI (10))) hx hb dX12_place_75 (by decide) ?_
              refine lv_bipush (v := (nI (32))) hx hb dX12_place_77 (by decide) ?_
              refine lv_iload_n hx hb dX12_place_79 rfl (lv_at hl 2 rfl) ?_
              refine ln_imul hx hb dX12_place_80 ?_
              refine ln_iadd hx hb dX12_place_81 ?_
              refine lv_iconst (v := (nI (4))) hx hb dX12_place_82 (by decide) ?_
              refine lv_iload hx hb dX12_place_83 (lv_at hl 0 rfl) ?_
              refine ln_imul hx hb dX12_place_85 ?_
              refine ln_iadd hx hb dX12_place_86 ?_
              refine lv_istore (lv' := [(7, .int (nI (10 + (32) * (i) + ((4) * (a (4 + i)))))), (6, .int (nI (a (4 + i)))), (0, .ref (ad 0)), (1, .int (nI (i))), (2, .int (nI (u'))), (3, .int (nI (v'))), (4, .int (nI (x'))), (5, .int (nI (y')))]) hx hb dX12_place_87 hl (by decide) rfl (fun ls hl => ?_)
              refine lv_aload_n hx hb dX12_place_89 rfl (lv_at hl 2 rfl) ?_
              refine va_get (D := D) (ci := 12) (v := .ref (ad 1)) (C := RX12) (T := TX12) (N := 24) hx hb hts hinX12 hown hK hP 0 rfl rfl 0 (by decide) (hts (.fieldLink RX12 9 "CornDeskModel" "now" "[I") (by decide +kernel)) (fun _ h9 => h9) rfl dX12_place_90 ?_
              refine lv_iload hx hb dX12_place_93 (lv_at hl 0 rfl) ?_
              refine lv_iload_n hx hb dX12_place_95 rfl (lv_at hl 4 rfl) ?_
              refine ln_iastN hx hb hK hP hD hS 1 0 rfl rfl (by decide) (by omega) dX12_place_96 (fun H locs hP hD hS => ?_)
              have hP : va_P D vwCl (mW ad cI cJ (upN a (10 + (32) * (i) + ((4) * (a (4 + i)))) (u')) (cpN kp a (598 * ke) 598) bt sz sheets go ro car ((ke + 1) % 20) (kmU km) fi gm bs bu n1 n2 n3 n4 n5 n6 n7 px py db) H := hP
              have hD : va_D A (mW ad cI cJ (upN a (10 + (32) * (i) + ((4) * (a (4 + i)))) (u')) (cpN kp a (598 * ke) 598) bt sz sheets go ro car ((ke + 1) % 20) (kmU km) fi gm bs bu n1 n2 n3 n4 n5 n6 n7 px py db) := hD
              refine lv_aload_n hx hb dX12_place_97 rfl (lv_at hl 2 rfl) ?_
              refine va_get (D := D) (ci := 12) (v := .ref (ad 1)) (C := RX12) (T := TX12) (N := 24) hx hb hts hinX12 hown hK hP 0 rfl rfl 0 (by decide) (hts (.fieldLink RX12 9 "CornDeskModel" "now" "[I") (by decide +kernel)) (fun _ h9 => h9) rfl dX12_place_98 ?_
              refine lv_iload hx hb dX12_place_101 (lv_at hl 0 rfl) ?_
              refine lv_iconst (v := (nI (1))) hx hb dX12_place_103 (by decide) ?_
              refine ln_iadd hx hb dX12_place_104 ?_
              refine lv_iload_n hx hb dX12_place_105 rfl (lv_at hl 5 rfl) ?_
              refine ln_iastN hx hb hK hP hD hS 1 0 rfl rfl (by decide) (by omega) dX12_place_106 (fun H locs hP hD hS => ?_)
              have hP : va_P D vwCl (mW ad cI cJ (upN (upN a (10 + (32) * (i) + ((4) * (a (4 + i)))) (u')) (10 + (32) * (i) + ((4) * (a (4 + i))) + 1) (v')) (cpN kp a (598 * ke) 598) bt sz sheets go ro car ((ke + 1) % 20) (kmU km) fi gm bs bu n1 n2 n3 n4 n5 n6 n7 px py db) H := hP
              have hD : va_D A (mW ad cI cJ (upN (upN a (10 + (32) * (i) + ((4) * (a (4 + i)))) (u')) (10 + (32) * (i) + ((4) * (a (4 + i))) + 1) (v')) (cpN kp a (598 * ke) 598) bt sz sheets go ro car ((ke + 1) % 20) (kmU km) fi gm bs bu n1 n2 n3 n4 n5 n6 n7 px py db) := hD
              refine lv_aload_n hx hb dX12_place_107 rfl (lv_at hl 2 rfl) ?_
              refine va_get (D := D) (ci := 12) (v := .ref (ad 1)) (C := RX12) (T := TX12) (N := 24) hx hb hts hinX12 hown hK hP 0 rfl rfl 0 (by decide) (hts (.fieldLink RX12 9 "CornDeskModel" "now" "[I") (by decide +kernel)) (fun _ h9 => h9) rfl dX12_place_108 ?_
              refine lv_iload hx hb dX12_place_111 (lv_at hl 0 rfl) ?_
              refine lv_iconst (v := (nI (2))) hx hb dX12_place_113 (by decide) ?_
              refine ln_iadd hx hb dX12_place_114 ?_
              refine lv_iload hx hb dX12_place_115 (lv_at hl 6 rfl) ?_
              refine ln_iastN hx hb hK hP hD hS 1 0 rfl rfl (by decide) (by omega) dX12_place_117 (fun H locs hP hD hS => ?_)
              have hP : va_P D vwCl (mW ad cI cJ (upN (upN (upN a (10 + (32) * (i) + ((4) * (a (4 + i)))) (u')) (10 + (32) * (i) + ((4) * (a (4 + i))) + 1) (v')) (10 + (32) * (i) + ((4) * (a (4 + i))) + 2) (x')) (cpN kp a (598 * ke) 598) bt sz sheets go ro car ((ke + 1) % 20) (kmU km) fi gm bs bu n1 n2 n3 n4 n5 n6 n7 px py db) H := hP
              have hD : va_D A (mW ad cI cJ (upN (upN (upN a (10 + (32) * (i) + ((4) * (a (4 + i)))) (u')) (10 + (32) * (i) + ((4) * (a (4 + i))) + 1) (v')) (10 + (32) * (i) + ((4) * (a (4 + i))) + 2) (x')) (cpN kp a (598 * ke) 598) bt sz sheets go ro car ((ke + 1) % 20) (kmU km) fi gm bs bu n1 n2 n3 n4 n5 n6 n7 px py db) := hD
              refine lv_aload_n hx hb dX12_place_118 rfl (lv_at hl 2 rfl) ?_
              refine va_get (D := D) (ci := 12) (v := .ref (ad 1)) (C := RX12) (T := TX12) (N := 24) hx hb hts hinX12 hown hK hP 0 rfl rfl 0 (by decide) (hts (.fieldLink RX12 9 "CornDeskModel" "now" "[I") (by decide +kernel)) (fun _ h9 => h9) rfl dX12_place_119 ?_
              refine lv_iload hx hb dX12_place_122 (lv_at hl 0 rfl) ?_
              refine lv_iconst (v := (nI (3))) hx hb dX12_place_124 (by decide) ?_
              refine ln_iadd hx hb dX12_place_125 ?_
              refine lv_iload hx hb dX12_place_126 (lv_at hl 7 rfl) ?_
              refine ln_iastN hx hb hK hP hD hS 1 0 rfl rfl (by decide) (by omega) dX12_place_128 (fun H locs hP hD hS => ?_)
              have hP : va_P D vwCl (mW ad cI cJ (upN (upN (upN (upN a (10 + (32) * (i) + ((4) * (a (4 + i)))) (u')) (10 + (32) * (i) + ((4) * (a (4 + i))) + 1) (v')) (10 + (32) * (i) + ((4) * (a (4 + i))) + 2) (x')) (10 + (32) * (i) + ((4) * (a (4 + i))) + 3) (y')) (cpN kp a (598 * ke) 598) bt sz sheets go ro car ((ke + 1) % 20) (kmU km) fi gm bs bu n1 n2 n3 n4 n5 n6 n7 px py db) H := hP
              have hD : va_D A (mW ad cI cJ (upN (upN (upN (upN a (10 + (32) * (i) + ((4) * (a (4 + i)))) (u')) (10 + (32) * (i) + ((4) * (a (4 + i))) + 1) (v')) (10 + (32) * (i) + ((4) * (a (4 + i))) + 2) (x')) (10 + (32) * (i) + ((4) * (a (4 + i))) + 3) (y')) (cpN kp a (598 * ke) 598) bt sz sheets go ro car ((ke + 1) % 20) (kmU km) fi gm bs bu n1 n2 n3 n4 n5 n6 n7 px py db) := hD
              refine lv_aload_n hx hb dX12_place_129 rfl (lv_at hl 2 rfl) ?_
              refine va_get (D := D) (ci := 12) (v := .ref (ad 1)) (C := RX12) (T := TX12) (N := 24) hx hb hts hinX12 hown hK hP 0 rfl rfl 0 (by decide) (hts (.fieldLink RX12 9 "CornDeskModel" "now" "[I") (by decide +kernel)) (fun _ h9 => h9) rfl dX12_place_130 ?_
              refine lv_iconst (v := (nI (4))) hx hb dX12_place_133 (by decide) ?_
              refine lv_iload_n hx hb dX12_place_134 rfl (lv_at hl 3 rfl) ?_
              refine ln_iadd hx hb dX12_place_135 ?_
              refine lv_dup2_11 hx hb dX12_place_136 rfl rfl ?_
              refine ln_iald hx hb hK hP 1 0 rfl rfl (by decide) (by omega) dX12_place_137 ?_
              refine ln_eqi (y := (nI (a (4 + i)))) (congrArg nI (by simp only [upN, if_true]; (repeat first | rw [if_neg (by omega)] | rw [if_pos (by omega)]))) ?_
              refine lv_iconst (v := (nI (1))) hx hb dX12_place_138 (by decide) ?_
              refine ln_iadd hx hb dX12_place_139 ?_
              refine ln_iastN hx hb hK hP hD hS 1 0 rfl rfl (by decide) (by omega) dX12_place_140 (fun H locs hP hD hS => ?_)
              have hP : va_P D vwCl (mW ad cI cJ (upN (upN (upN (upN (upN a (10 + (32) * (i) + ((4) * (a (4 + i)))) (u')) (10 + (32) * (i) + ((4) * (a (4 + i))) + 1) (v')) (10 + (32) * (i) + ((4) * (a (4 + i))) + 2) (x')) (10 + (32) * (i) + ((4) * (a (4 + i))) + 3) (y')) (4 + i) (a (4 + i) + 1)) (cpN kp a (598 * ke) 598) bt sz sheets go ro car ((ke + 1) % 20) (kmU km) fi gm bs bu n1 n2 n3 n4 n5 n6 n7 px py db) H := hP
              have hD : va_D A (mW ad cI cJ (upN (upN (upN (upN (upN a (10 + (32) * (i) + ((4) * (a (4 + i)))) (u')) (10 + (32) * (i) + ((4) * (a (4 + i))) + 1) (v')) (10 + (32) * (i) + ((4) * (a (4 + i))) + 2) (x')) (10 + (32) * (i) + ((4) * (a (4 + i))) + 3) (y')) (4 + i) (a (4 + i) + 1)) (cpN kp a (598 * ke) 598) bt sz sheets go ro car ((ke + 1) % 20) (kmU km) fi gm bs bu n1 n2 n3 n4 n5 n6 n7 px py db) := hD
              refine lv_iload hx hb dX12_place_141 (lv_at hl 1 rfl) ?_
              refine lv_iconst (v := (nI (1))) hx hb dX12_place_143 (by decide) ?_
              refine ln_iadd hx hb dX12_place_144 ?_
              refine lv_i2l hx hb dX12_place_145 rfl ?_
              exact hret _ _ _ _ _ _ (Or.inr ⟨i, u', v', x', y', ⟨rfl, rfl, rfl, rfl, rfl, hi, hu, hv, hxx, hy⟩, Or.inr ⟨by omega, rfl, rfl⟩⟩) hP hD hS dX12_place_146
            · refine lv_aload_n hx hb dX12_place_63 rfl (lv_at hl 1 rfl) ?_
              refine lv_ldc2 (v := (-1000000005)) hx hb hown (hts (.constantLong RX12 64 (-1000000005)) (by decide +kernel)) dX12_place_64 ?_
              refine mq_Vl (As := [.long ((-1000000005))]) (rest := []) (ci := 12) (k0 := 0) ⟨hx, hb, hml, hown, hts⟩ (cM_finds l D ad cI cJ a kp bt sz sheets go ro car ke km fi gm bs bu n1 n2 n3 n4 n5 n6 n7 px py db ((-1000000005)) ) (cwV 1 hts gX12_place_X12_finds rfl rfl rfl (by decide +kernel) ⟨Nat.le_of_ble_eq_true rfl, Nat.le_of_ble_eq_true rfl⟩) rfl rfl hP hK hD hS hA rfl hl.1 rfl (Nat.le_of_ble_eq_true rfl) dX12_place_67 ⟨Nat.le_of_ble_eq_true rfl, Nat.le_of_ble_eq_true rfl⟩ (fun r w1 H locs hq hP hD hS => ?_)
              obtain ⟨rfl, rfl⟩ := hq
              exact hret _ _ _ _ _ _ (Or.inr ⟨i, u', v', x', y', ⟨rfl, rfl, rfl, rfl, rfl, hi, hu, hv, hxx, hy⟩, Or.inl ⟨c6, rfl, rfl⟩⟩) hP hD hS dX12_place_70
          · refine lv_aload_n hx hb dX12_place_38 rfl (lv_at hl 0 rfl) ?_
            refine lv_ldc2 (v := (-1000000001)) hx hb hown (hts (.constantLong RX12 76 (-1000000001)) (by decide +kernel)) dX12_place_39 ?_
            refine mq_Vl (As := [.long ((-1000000001))]) (rest := []) (ci := 12) (k0 := 0) ⟨hx, hb, hml, hown, hts⟩ (cM_finds l D ad cI cJ a kp bt sz sheets go ro car ke km fi gm bs bu n1 n2 n3 n4 n5 n6 n7 px py db ((-1000000001)) ) (cwV 1 hts gX12_place_X12_finds rfl rfl rfl (by decide +kernel) ⟨Nat.le_of_ble_eq_true rfl, Nat.le_of_ble_eq_true rfl⟩) rfl rfl hP hK hD hS hA rfl hl.1 rfl (Nat.le_of_ble_eq_true rfl) dX12_place_42 ⟨Nat.le_of_ble_eq_true rfl, Nat.le_of_ble_eq_true rfl⟩ (fun r w1 H locs hq hP hD hS => ?_)
            obtain ⟨rfl, rfl⟩ := hq
            exact hret _ _ _ _ _ _ (Or.inl ⟨fun h => c5 h.2.2.2.2, rfl, rfl⟩) hP hD hS dX12_place_45
set_option maxHeartbeats 4000000 in
set_option maxRecDepth 100000 in
theorem cM_unplace (l : Launch) (D : va_G) (ad : Nat → Nat) (cI cJ : ClassId) (a kp bt sz : Nat → Nat) (sheets : Nat → Int32) (go ro : Nat → Nat) (car : Nat → Int32) (ke km fi gm bs bu : Nat) (n1 n2 n3 n4 n5 n6 n7 : Int64) (px py db : Nat → Int64) (pi : Int32) (h0 : a 0 ≤ 6) (hmany : ∀ i, i < a 0 → a (4 + i) ≤ 8) (he : ke < 20) (hm : km ≤ 20) : mq_l l D (mT cI cJ) yX12_unplace wsX12_unplace 2 0 0 43 [.ref (ad 0), .int (pi)] (mW ad cI cJ a kp bt sz sheets go ro car ke km fi gm bs bu n1 n2 n3 n4 n5 n6 n7 px py db) (fun r w1 => (¬ ix (a 0) pi ∧ r = -1000000001 ∧ w1 = mW ad cI cJ a kp bt sz sheets go ro car ke km (fi + 1) gm bs bu n1 n2 n3 n4 n5 n6 n7 px py db) ∨ (∃ i : Nat, (pi = nI i ∧ i < a 0) ∧ ((a (4 + i) = 0 ∧ r = -1000000006 ∧ w1 = mW ad cI cJ a kp bt sz sheets go ro car ke km (fi + 1) gm bs bu n1 n2 n3 n4 n5 n6 n7 px py db) ∨ (0 < a (4 + i) ∧ r = (nI (a (4 + i) - 1)).toInt64 ∧ w1 = mW ad cI cJ (upN a (4 + i) (a (4 + i) - 1)) (cpN kp a (598 * ke) 598) bt sz sheets go ro car ((ke + 1) % 20) (kmU km) fi gm bs bu n1 n2 n3 n4 n5 n6 n7 px py db)))) := by
  refine mq_l_of (cc := cX12_unplace) (maxL := 2) (by decide) rfl (Nat.le_of_ble_eq_true rfl) ?_
  intro p e s m args below meth c A Q ls hx hb hts hown hml hnm hA hP hK hD hS hl hret
  have hown : s.vm.findClass RX12 = some m.cls := hown
  have hinX12 : ∀ w ∈ u_ws RX12 TX12 24, w ∈ wsX12_unplace := by decide +kernel
  have hl : lv_has ls 2 [(0, .ref (ad 0)), (1, .int (pi))] := hl
  refine lv_aload_n hx hb dX12_unplace_0 rfl (lv_at hl 0 rfl) ?_
  refine lv_iload_n hx hb dX12_unplace_1 rfl (lv_at hl 1 rfl) ?_
  refine mq_Vi (As := [.int (pi)]) (rest := []) (ci := 12) (k0 := 0) ⟨hx, hb, hml, hown, hts⟩ (cM_isPicture l D ad cI cJ a kp bt sz sheets go ro car ke km fi gm bs bu n1 n2 n3 n4 n5 n6 n7 px py db (pi) (by omega)) (cwV 1 hts gX12_unplace_X12_isPicture rfl rfl rfl (by decide +kernel) ⟨Nat.le_of_ble_eq_true rfl, Nat.le_of_ble_eq_true rfl⟩) rfl rfl hP hK hD hS hA rfl hl.1 rfl (Nat.le_of_ble_eq_true rfl) dX12_unplace_2 ⟨Nat.le_of_ble_eq_true rfl, Nat.le_of_ble_eq_true rfl⟩ (fun r w1 H locs hq hP hD hS => ?_)
  obtain ⟨rfl, rfl⟩ := hq
  refine lb_if_ne (tgt := 16) hx hb dX12_unplace_5 (by decide) (fun c1 => ?_) (fun c1 => ?_)
  · obtain ⟨i, hi, rfl⟩ := ix_of c1 (by omega)
    have hmi : a (4 + i) ≤ 8 := hmany i hi
    refine lv_aload_n hx hb dX12_unplace_16 rfl (lv_at hl 0 rfl) ?_
    refine va_get (D := D) (ci := 12) (v := .ref (ad 1)) (C := RX12) (T := TX12) (N := 24) hx hb hts hinX12 hown hK hP 0 rfl rfl 0 (by decide) (hts (.fieldLink RX12 9 "CornDeskModel" "now" "[I") (by decide +kernel)) (fun _ h9 => h9) rfl dX12_unplace_17 ?_
    refine lv_iconst (v := (nI (4))) hx hb dX12_unplace_20 (by decide) ?_
    refine lv_iload_n hx hb dX12_unplace_21 rfl (lv_at hl 1 rfl) ?_
    refine ln_iadd hx hb dX12_unplace_22 ?_
    refine ln_iald hx hb hK hP 1 0 rfl rfl (by decide) (by omega) dX12_unplace_23 ?_
    refine ln_if_ne (tgt := 35) hx hb dX12_unplace_24 (by decide) (by omega) (fun c2 => ?_) (fun c2 => ?_)
    · refine lv_aload_n hx hb dX12_unplace_35 rfl (lv_at hl 0 rfl) ?_
      refine mq_Vv (As := []) (rest := []) (ci := 12) (k0 := 0) ⟨hx, hb, hml, hown, hts⟩ (cM_keep l D ad cI cJ a kp bt sz sheets go ro car ke km fi gm bs bu n1 n2 n3 n4 n5 n6 n7 px py db  he hm) (cwV 0 hts gX12_unplace_X12_keep rfl rfl rfl (by decide +kernel) ⟨Nat.le_of_ble_eq_true rfl, Nat.le_of_ble_eq_true rfl⟩) rfl rfl hP hK hD hS hA rfl hl.1 rfl (Nat.le_of_ble_eq_true rfl) dX12_unplace_36 ⟨Nat.le_of_ble_eq_true rfl, Nat.le_of_ble_eq_true rfl⟩ (fun w1 H locs hq hP hD hS => ?_)
      subst hq
      refine lv_aload_n hx hb dX12_unplace_39 rfl (lv_at hl 0 rfl) ?_
      refine va_get (D := D) (ci := 12) (v := .ref (ad 1)) (C := RX12) (T := TX12) (N := 24) hx hb hts hinX12 hown hK hP 0 rfl rfl 0 (by decide) (hts (.fieldLink RX12 9 "CornDeskModel" "now" "[I") (by decide +kernel)) (fun _ h9 => h9) rfl dX12_unplace_40 ?_
      refine lv_iconst (v := (nI (4))) hx hb dX12_unplace_43 (by decide) ?_
      refine lv_iload_n hx hb dX12_unplace_44 rfl (lv_at hl 1 rfl) ?_
      refine ln_iadd hx hb dX12_unplace_45 ?_
      refine lv_dup2_11 hx hb dX12_unplace_46 rfl rfl ?_
      refine ln_iald hx hb hK hP 1 0 rfl rfl (by decide) (by omega) dX12_unplace_47 ?_
      refine lv_iconst (v := (nI (1))) hx hb dX12_unplace_48 (by decide) ?_
      refine ln_isub hx hb dX12_unplace_49 (by omega) ?_
      refine ln_iastN hx hb hK hP hD hS 1 0 rfl rfl (by decide) (by omega) dX12_unplace_50 (fun H locs hP hD hS => ?_)
      have hP : va_P D vwCl (mW ad cI cJ (upN a (4 + i) ((a (4 + i)) - (1))) (cpN kp a (598 * ke) 598) bt sz sheets go ro car ((ke + 1) % 20) (kmU km) fi gm bs bu n1 n2 n3 n4 n5 n6 n7 px py db) H := hP
      have hD : va_D A (mW ad cI cJ (upN a (4 + i) ((a (4 + i)) - (1))) (cpN kp a (598 * ke) 598) bt sz sheets go ro car ((ke + 1) % 20) (kmU km) fi gm bs bu n1 n2 n3 n4 n5 n6 n7 px py db) := hD
      refine lv_aload_n hx hb dX12_unplace_51 rfl (lv_at hl 0 rfl) ?_
      refine va_get (D := D) (ci := 12) (v := .ref (ad 1)) (C := RX12) (T := TX12) (N := 24) hx hb hts hinX12 hown hK hP 0 rfl rfl 0 (by decide) (hts (.fieldLink RX12 9 "CornDeskModel" "now" "[I") (by decide +kernel)) (fun _ h9 => h9) rfl dX12_unplace_52 ?_
      refine lv_iconst (v := (nI (4))) hx hb dX12_unplace_55 (by decide) ?_
      refine lv_iload_n hx hb dX12_unplace_56 rfl (lv_at hl 1 rfl) ?_
      refine ln_iadd hx hb dX12_unplace_57 ?_
      refine ln_iald hx hb hK hP 1 0 rfl rfl (by decide) (by omega) dX12_unplace_58 ?_
      refine ln_eqi (y := (nI ((a (4 + i)) - (1)))) (congrArg nI (by simp only [upN, if_true]; (repeat first | rw [if_neg (by omega)] | rw [if_pos (by omega)]))) ?_
      refine lv_i2l hx hb dX12_unplace_59 rfl ?_
      exact hret _ _ _ _ _ _ (Or.inr ⟨i, ⟨rfl, hi⟩, Or.inr ⟨by omega, rfl, rfl⟩⟩) hP hD hS dX12_unplace_60
    · refine lv_aload_n hx hb dX12_unplace_27 rfl (lv_at hl 0 rfl) ?_
      refine lv_ldc2 (v := (-1000000006)) hx hb hown (hts (.constantLong RX12 54 (-1000000006)) (by decide +kernel)) dX12_unplace_28 ?_
      refine mq_Vl (As := [.long ((-1000000006))]) (rest := []) (ci := 12) (k0 := 0) ⟨hx, hb, hml, hown, hts⟩ (cM_finds l D ad cI cJ a kp bt sz sheets go ro car ke km fi gm bs bu n1 n2 n3 n4 n5 n6 n7 px py db ((-1000000006)) ) (cwV 1 hts gX12_unplace_X12_finds rfl rfl rfl (by decide +kernel) ⟨Nat.le_of_ble_eq_true rfl, Nat.le_of_ble_eq_true rfl⟩) rfl rfl hP hK hD hS hA rfl hl.1 rfl (Nat.le_of_ble_eq_true rfl) dX12_unplace_31 ⟨Nat.le_of_ble_eq_true rfl, Nat.le_of_ble_eq_true rfl⟩ (fun r w1 H locs hq hP hD hS => ?_)
      obtain ⟨rfl, rfl⟩ := hq
      exact hret _ _ _ _ _ _ (Or.inr ⟨i, ⟨rfl, hi⟩, Or.inl ⟨c2, rfl, rfl⟩⟩) hP hD hS dX12_unplace_34
  · refine lv_aload_n hx hb dX12_unplace_8 rfl (lv_at hl 0 rfl) ?_
    refine lv_ldc2 (v := (-1000000001)) hx hb hown (hts (.constantLong RX12 76 (-1000000001)) (by decide +kernel)) dX12_unplace_9 ?_
    refine mq_Vl (As := [.long ((-1000000001))]) (rest := []) (ci := 12) (k0 := 0) ⟨hx, hb, hml, hown, hts⟩ (cM_finds l D ad cI cJ a kp bt sz sheets go ro car ke km fi gm bs bu n1 n2 n3 n4 n5 n6 n7 px py db ((-1000000001)) ) (cwV 1 hts gX12_unplace_X12_finds rfl rfl rfl (by decide +kernel) ⟨Nat.le_of_ble_eq_true rfl, Nat.le_of_ble_eq_true rfl⟩) rfl rfl hP hK hD hS hA rfl hl.1 rfl (Nat.le_of_ble_eq_true rfl) dX12_unplace_12 ⟨Nat.le_of_ble_eq_true rfl, Nat.le_of_ble_eq_true rfl⟩ (fun r w1 H locs hq hP hD hS => ?_)
    obtain ⟨rfl, rfl⟩ := hq
    exact hret _ _ _ _ _ _ (Or.inl ⟨c1, rfl, rfl⟩) hP hD hS dX12_unplace_15
set_option maxHeartbeats 4000000 in
set_option maxRecDepth 100000 in
theorem cM_blank (l : Launch) (D : va_G) (ad : Nat → Nat) (cI cJ : ClassId) (a kp bt sz : Nat → Nat) (sheets : Nat → Int32) (go ro : Nat → Nat) (car : Nat → Int32) (ke km fi gm bs bu : Nat) (n1 n2 n3 n4 n5 n6 n7 : Int64) (px py db : Nat → Int64)  (he : ke < 20) (hm : km ≤ 20) : mq_l l D (mT cI cJ) yX12_blank wsX12_blank 1 0 0 21 [.ref (ad 0)] (mW ad cI cJ a kp bt sz sheets go ro car ke km fi gm bs bu n1 n2 n3 n4 n5 n6 n7 px py db) (fun r w1 => r = (nI (a 2)).toInt64 ∧ w1 = mW ad cI cJ (upN a 2 0) (cpN kp a (598 * ke) 598) bt sz sheets go ro car ((ke + 1) % 20) (kmU km) fi gm bs bu n1 n2 n3 n4 n5 n6 n7 px py db) := by
  refine mq_l_of (cc := cX12_blank) (maxL := 2) (by decide) rfl (Nat.le_of_ble_eq_true rfl) ?_
  intro p e s m args below meth c A Q ls hx hb hts hown hml hnm hA hP hK hD hS hl hret
  have hown : s.vm.findClass RX12 = some m.cls := hown
  have hinX12 : ∀ w ∈ u_ws RX12 TX12 24, w ∈ wsX12_blank := by decide +kernel
  have hl : lv_has ls 2 [(0, .ref (ad 0))] := hl
  refine lv_aload_n hx hb dX12_blank_0 rfl (lv_at hl 0 rfl) ?_
  refine va_get (D := D) (ci := 12) (v := .ref (ad 1)) (C := RX12) (T := TX12) (N := 24) hx hb hts hinX12 hown hK hP 0 rfl rfl 0 (by decide) (hts (.fieldLink RX12 9 "CornDeskModel" "now" "[I") (by decide +kernel)) (fun _ h9 => h9) rfl dX12_blank_1 ?_
  refine lv_iconst (v := (nI (2))) hx hb dX12_blank_4 (by decide) ?_
  refine ln_iald hx hb hK hP 1 0 rfl rfl (by decide) (by omega) dX12_blank_5 ?_
  refine lv_istore_n (lv' := [(1, .int (nI (a (2)))), (0, .ref (ad 0))]) hx hb dX12_blank_6 rfl hl (by decide) rfl (fun ls hl => ?_)
  refine lv_aload_n hx hb dX12_blank_7 rfl (lv_at hl 1 rfl) ?_
  refine mq_Vv (As := []) (rest := []) (ci := 12) (k0 := 0) ⟨hx, hb, hml, hown, hts⟩ (cM_keep l D ad cI cJ a kp bt sz sheets go ro car ke km fi gm bs bu n1 n2 n3 n4 n5 n6 n7 px py db  he hm) (cwV 0 hts gX12_blank_X12_keep rfl rfl rfl (by decide +kernel) ⟨Nat.le_of_ble_eq_true rfl, Nat.le_of_ble_eq_true rfl⟩) rfl rfl hP hK hD hS hA rfl hl.1 rfl (Nat.le_of_ble_eq_true rfl) dX12_blank_8 ⟨Nat.le_of_ble_eq_true rfl, Nat.le_of_ble_eq_true rfl⟩ (fun w1 H locs hq hP hD hS => ?_)
  subst hq
  refine lv_aload_n hx hb dX12_blank_11 rfl (lv_at hl 1 rfl) ?_
  refine va_get (D := D) (ci := 12) (v := .ref (ad 1)) (C := RX12) (T := TX12) (N := 24) hx hb hts hinX12 hown hK hP 0 rfl rfl 0 (by decide) (hts (.fieldLink RX12 9 "CornDeskModel" "now" "[I") (by decide +kernel)) (fun _ h9 => h9) rfl dX12_blank_12 ?_
  refine lv_iconst (v := (nI (2))) hx hb dX12_blank_15 (by decide) ?_
  refine lv_iconst (v := (nI (0))) hx hb dX12_blank_16 (by decide) ?_
  refine ln_iastN hx hb hK hP hD hS 1 0 rfl rfl (by decide) (by omega) dX12_blank_17 (fun H locs hP hD hS => ?_)
  have hP : va_P D vwCl (mW ad cI cJ (upN a (2) (0)) (cpN kp a (598 * ke) 598) bt sz sheets go ro car ((ke + 1) % 20) (kmU km) fi gm bs bu n1 n2 n3 n4 n5 n6 n7 px py db) H := hP
  have hD : va_D A (mW ad cI cJ (upN a (2) (0)) (cpN kp a (598 * ke) 598) bt sz sheets go ro car ((ke + 1) % 20) (kmU km) fi gm bs bu n1 n2 n3 n4 n5 n6 n7 px py db) := hD
  refine lv_iload_n hx hb dX12_blank_18 rfl (lv_at hl 0 rfl) ?_
  refine lv_i2l hx hb dX12_blank_19 rfl ?_
  exact hret _ _ _ _ _ _ ⟨rfl, rfl⟩ hP hD hS dX12_blank_20
/-- a SIGN -/
abbrev sg (v : Nat) : Prop := (1 ≤ v ∧ v ≤ 4) ∨ (10 ≤ v ∧ v ≤ 24)
theorem sg_of {v : Int32} (h : rg 1 4 v ∨ rg 10 24 v) : ∃ j : Nat, sg j ∧ v = nI j := by
  rcases h with h | h
  · obtain ⟨j, h1, h2, h3⟩ := rg_of h (by decide) (by decide)
    exact ⟨j, Or.inl ⟨h1, h2⟩, h3⟩
  · obtain ⟨j, h1, h2, h3⟩ := rg_of h (by decide) (by decide)
    exact ⟨j, Or.inr ⟨h1, h2⟩, h3⟩
set_option maxHeartbeats 4000000 in
set_option maxRecDepth 100000 in
theorem cM_sign (l : Launch) (D : va_G) (ad : Nat → Nat) (cI cJ : ClassId) (a kp bt sz : Nat → Nat) (sheets : Nat → Int32) (go ro : Nat → Nat) (car : Nat → Int32) (ke km fi gm bs bu : Nat) (n1 n2 n3 n4 n5 n6 n7 : Int64) (px py db : Nat → Int64) (v : Int32) (h2 : a 2 ≤ 12) (he : ke < 20) (hm : km ≤ 20) : mq_l l D (mT cI cJ) yX12_sign wsX12_sign 2 0 0 42 [.ref (ad 0), .int (v)] (mW ad cI cJ a kp bt sz sheets go ro car ke km fi gm bs bu n1 n2 n3 n4 n5 n6 n7 px py db) (fun r w1 => (¬ (rg 1 4 v ∨ rg 10 24 v) ∧ r = -1000000001 ∧ w1 = mW ad cI cJ a kp bt sz sheets go ro car ke km (fi + 1) gm bs bu n1 n2 n3 n4 n5 n6 n7 px py db) ∨ (∃ v' : Nat, (v = nI v' ∧ sg v') ∧ ((a 2 = 12 ∧ r = -1000000005 ∧ w1 = mW ad cI cJ a kp bt sz sheets go ro car ke km (fi + 1) gm bs bu n1 n2 n3 n4 n5 n6 n7 px py db) ∨ (a 2 < 12 ∧ r = (nI (a 2 + 1)).toInt64 ∧ w1 = mW ad cI cJ (upN (upN a (322 + a 2) v') 2 (a 2 + 1)) (cpN kp a (598 * ke) 598) bt sz sheets go ro car ((ke + 1) % 20) (kmU km) fi gm bs bu n1 n2 n3 n4 n5 n6 n7 px py db)))) := by
  refine mq_l_of (cc := cX12_sign) (maxL := 2) (by decide) rfl (Nat.le_of_ble_eq_true rfl) ?_
  intro p e s m args below meth c A Q ls hx hb hts hown hml hnm hA hP hK hD hS hl hret
  have hown : s.vm.findClass RX12 = some m.cls := hown
  have hinX12 : ∀ w ∈ u_ws RX12 TX12 24, w ∈ wsX12_sign := by decide +kernel
  have hl : lv_has ls 2 [(0, .ref (ad 0)), (1, .int (v))] := hl
  refine lv_iload_n hx hb dX12_sign_0 rfl (lv_at hl 1 rfl) ?_
  refine mq_Si (As := [.int (v)]) (rest := []) ⟨hx, hb, hml, hown, hts⟩ (cM_isSign l D _ (v) ) (cwS 1 hts gX12_sign_X12_isSign rfl rfl rfl (by decide +kernel) ⟨Nat.le_of_ble_eq_true rfl, Nat.le_of_ble_eq_true rfl⟩) hP hK hS hA rfl hl.1 rfl (Nat.le_of_ble_eq_true rfl) dX12_sign_1 ⟨Nat.le_of_ble_eq_true rfl, Nat.le_of_ble_eq_true rfl⟩ (fun r w1 H locs hq hP hS => ?_)
  subst hq
  refine lb_if_ne (tgt := 15) hx hb dX12_sign_4 (by decide) (fun c1 => ?_) (fun c1 => ?_)
  · obtain ⟨v', hv', rfl⟩ := sg_of c1
    refine lv_aload_n hx hb dX12_sign_15 rfl (lv_at hl 0 rfl) ?_
    refine va_get (D := D) (ci := 12) (v := .ref (ad 1)) (C := RX12) (T := TX12) (N := 24) hx hb hts hinX12 hown hK hP 0 rfl rfl 0 (by decide) (hts (.fieldLink RX12 9 "CornDeskModel" "now" "[I") (by decide +kernel)) (fun _ h9 => h9) rfl dX12_sign_16 ?_
    refine lv_iconst (v := (nI (2))) hx hb dX12_sign_19 (by decide) ?_
    refine ln_iald hx hb hK hP 1 0 rfl rfl (by decide) (by omega) dX12_sign_20 ?_
    refine lv_bipush (v := (nI (12))) hx hb dX12_sign_21 (by decide) ?_
    refine ln_icmp_ne (tgt := 34) hx hb dX12_sign_23 (by decide) (by omega) (by omega) (fun c2 => ?_) (fun c2 => ?_)
    · refine lv_aload_n hx hb dX12_sign_34 rfl (lv_at hl 0 rfl) ?_
      refine mq_Vv (As := []) (rest := []) (ci := 12) (k0 := 0) ⟨hx, hb, hml, hown, hts⟩ (cM_keep l D ad cI cJ a kp bt sz sheets go ro car ke km fi gm bs bu n1 n2 n3 n4 n5 n6 n7 px py db  he hm) (cwV 0 hts gX12_sign_X12_keep rfl rfl rfl (by decide +kernel) ⟨Nat.le_of_ble_eq_true rfl, Nat.le_of_ble_eq_true rfl⟩) rfl rfl hP hK hD hS hA rfl hl.1 rfl (Nat.le_of_ble_eq_true rfl) dX12_sign_35 ⟨Nat.le_of_ble_eq_true rfl, Nat.le_of_ble_eq_true rfl⟩ (fun w1 H locs hq hP hD hS => ?_)
      subst hq
      refine lv_aload_n hx hb dX12_sign_38 rfl (lv_at hl 0 rfl) ?_
      refine va_get (D := D) (ci := 12) (v := .ref (ad 1)) (C := RX12) (T := TX12) (N := 24) hx hb hts hinX12 hown hK hP 0 rfl rfl 0 (by decide) (hts (.fieldLink RX12 9 "CornDeskModel" "now" "[I") (by decide +kernel)) (fun _ h9 => h9) rfl dX12_sign_39 ?_
      refine lv_sipush (v := (nI (322))) hx hb dX12_sign_42 (by decide) ?_
      refine lv_aload_n hx hb dX12_sign_45 rfl (lv_at hl 0 rfl) ?_
      refine va_get (D := D) (ci := 12) (v := .ref (ad 1)) (C := RX12) (T := TX12) (N := 24) hx hb hts hinX12 hown hK hP 0 rfl rfl 0 (by decide) (hts (.fieldLink RX12 9 "CornDeskModel" "now" "[I") (by decide +kernel)) (fun _ h9 => h9) rfl dX12_sign_46 ?_
      refine lv_iconst (v := (nI (2))) hx hb dX12_sign_49 (by decide) ?_
      refine ln_iald hx hb hK hP 1 0 rfl rfl (by decide) (by omega) dX12_sign_50 ?_
      refine ln_iadd hx hb dX12_sign_51 ?_
      refine lv_iload_n hx hb dX12_sign_52 rfl (lv_at hl 1 rfl) ?_
      refine ln_iastN hx hb hK hP hD hS 1 0 rfl rfl (by decide) (by omega) dX12_sign_53 (fun H locs hP hD hS => ?_)
      have hP : va_P D vwCl (mW ad cI cJ (upN a (322 + a (2)) (v')) (cpN kp a (598 * ke) 598) bt sz sheets go ro car ((ke + 1) % 20) (kmU km) fi gm bs bu n1 n2 n3 n4 n5 n6 n7 px py db) H := hP
      have hD : va_D A (mW ad cI cJ (upN a (322 + a (2)) (v')) (cpN kp a (598 * ke) 598) bt sz sheets go ro car ((ke + 1) % 20) (kmU km) fi gm bs bu n1 n2 n3 n4 n5 n6 n7 px py db) := hD
      refine lv_aload_n hx hb dX12_sign_54 rfl (lv_at hl 0 rfl) ?_
      refine va_get (D := D) (ci := 12) (v := .ref (ad 1)) (C := RX12) (T := TX12) (N := 24) hx hb hts hinX12 hown hK hP 0 rfl rfl 0 (by decide) (hts (.fieldLink RX12 9 "CornDeskModel" "now" "[I") (by decide +kernel)) (fun _ h9 => h9) rfl dX12_sign_55 ?_
      refine lv_iconst (v := (nI (2))) hx hb dX12_sign_58 (by decide) ?_
      refine lv_dup2_11 hx hb dX12_sign_59 rfl rfl ?_
      refine ln_iald hx hb hK hP 1 0 rfl rfl (by decide) (by omega) dX12_sign_60 ?_
      refine ln_eqi (y := (nI (a (2)))) (congrArg nI (by simp only [upN, if_true]; (repeat first | rw [if_neg (by omega)] | rw [if_pos (by omega)]))) ?_
      refine lv_iconst (v := (nI (1))) hx hb dX12_sign_61 (by decide) ?_
      refine ln_iadd hx hb dX12_sign_62 ?_
      refine ln_iastN hx hb hK hP hD hS 1 0 rfl rfl (by decide) (by omega) dX12_sign_63 (fun H locs hP hD hS => ?_)
      have hP : va_P D vwCl (mW ad cI cJ (upN (upN a (322 + a (2)) (v')) (2) (a (2) + 1)) (cpN kp a (598 * ke) 598) bt sz sheets go ro car ((ke + 1) % 20) (kmU km) fi gm bs bu n1 n2 n3 n4 n5 n6 n7 px py db) H := hP
      have hD : va_D A (mW ad cI cJ (upN (upN a (322 + a (2)) (v')) (2) (a (2) + 1)) (cpN kp a (598 * ke) 598) bt sz sheets go ro car ((ke + 1) % 20) (kmU km) fi gm bs bu n1 n2 n3 n4 n5 n6 n7 px py db) := hD
      refine lv_aload_n hx hb dX12_sign_64 rfl (lv_at hl 0 rfl) ?_
      refine va_get (D := D) (ci := 12) (v := .ref (ad 1)) (C := RX12) (T := TX12) (N := 24) hx hb hts hinX12 hown hK hP 0 rfl rfl 0 (by decide) (hts (.fieldLink RX12 9 "CornDeskModel" "now" "[I") (by decide +kernel)) (fun _ h9 => h9) rfl dX12_sign_65 ?_
      refine lv_iconst (v := (nI (2))) hx hb dX12_sign_68 (by decide) ?_
      refine ln_iald hx hb hK hP 1 0 rfl rfl (by decide) (by omega) dX12_sign_69 ?_
      refine ln_eqi (y := (nI (a (2) + 1))) (congrArg nI (by simp only [upN, if_true]; (repeat first | rw [if_neg (by omega)] | rw [if_pos (by omega)]))) ?_
      refine lv_i2l hx hb dX12_sign_70 rfl ?_
      exact hret _ _ _ _ _ _ (Or.inr ⟨v', ⟨rfl, hv'⟩, Or.inr ⟨by omega, rfl, rfl⟩⟩) hP hD hS dX12_sign_71
    · refine lv_aload_n hx hb dX12_sign_26 rfl (lv_at hl 0 rfl) ?_
      refine lv_ldc2 (v := (-1000000005)) hx hb hown (hts (.constantLong RX12 64 (-1000000005)) (by decide +kernel)) dX12_sign_27 ?_
      refine mq_Vl (As := [.long ((-1000000005))]) (rest := []) (ci := 12) (k0 := 0) ⟨hx, hb, hml, hown, hts⟩ (cM_finds l D ad cI cJ a kp bt sz sheets go ro car ke km fi gm bs bu n1 n2 n3 n4 n5 n6 n7 px py db ((-1000000005)) ) (cwV 1 hts gX12_sign_X12_finds rfl rfl rfl (by decide +kernel) ⟨Nat.le_of_ble_eq_true rfl, Nat.le_of_ble_eq_true rfl⟩) rfl rfl hP hK hD hS hA rfl hl.1 rfl (Nat.le_of_ble_eq_true rfl) dX12_sign_30 ⟨Nat.le_of_ble_eq_true rfl, Nat.le_of_ble_eq_true rfl⟩ (fun r w1 H locs hq hP hD hS => ?_)
      obtain ⟨rfl, rfl⟩ := hq
      exact hret _ _ _ _ _ _ (Or.inr ⟨v', ⟨rfl, hv'⟩, Or.inl ⟨c2, rfl, rfl⟩⟩) hP hD hS dX12_sign_33
  · refine lv_aload_n hx hb dX12_sign_7 rfl (lv_at hl 0 rfl) ?_
    refine lv_ldc2 (v := (-1000000001)) hx hb hown (hts (.constantLong RX12 76 (-1000000001)) (by decide +kernel)) dX12_sign_8 ?_
    refine mq_Vl (As := [.long ((-1000000001))]) (rest := []) (ci := 12) (k0 := 0) ⟨hx, hb, hml, hown, hts⟩ (cM_finds l D ad cI cJ a kp bt sz sheets go ro car ke km fi gm bs bu n1 n2 n3 n4 n5 n6 n7 px py db ((-1000000001)) ) (cwV 1 hts gX12_sign_X12_finds rfl rfl rfl (by decide +kernel) ⟨Nat.le_of_ble_eq_true rfl, Nat.le_of_ble_eq_true rfl⟩) rfl rfl hP hK hD hS hA rfl hl.1 rfl (Nat.le_of_ble_eq_true rfl) dX12_sign_11 ⟨Nat.le_of_ble_eq_true rfl, Nat.le_of_ble_eq_true rfl⟩ (fun r w1 H locs hq hP hD hS => ?_)
    obtain ⟨rfl, rfl⟩ := hq
    exact hret _ _ _ _ _ _ (Or.inl ⟨c1, rfl, rfl⟩) hP hD hS dX12_sign_14
