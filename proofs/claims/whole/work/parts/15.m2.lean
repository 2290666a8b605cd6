/-- g's first n numbers from d on among f's -/
def cpN (f g : Nat → Nat) (d n : Nat) : Nat → Nat := fun j => if d ≤ j ∧ j < d + n then g (j - d) else f j
theorem cpN_0 (f g : Nat → Nat) (d : Nat) : cpN f g d 0 = f := by
  funext j
  simp only [cpN]
  rw [if_neg (by omega)]
theorem cpN_s (f g : Nat → Nat) (d k : Nat) : upN (cpN f g d k) (d + k) (g k) = cpN f g d (k + 1) := by
  funext j
  simp only [cpN, upN]
  by_cases h : j = d + k
  · subst h
    rw [if_pos rfl, if_pos (by omega), Nat.add_sub_cancel_left]
  · rw [if_neg h]
    by_cases h2 : d ≤ j ∧ j < d + k
    · rw [if_pos h2, if_pos (by omega)]
    · rw [if_neg h2, if_neg (by omega)]
theorem cpN_in {f g : Nat → Nat} {d n j : Nat} (h : j < n) : cpN f g d n (d + j) = g j := by
  simp only [cpN]
  rw [if_pos (by omega), Nat.add_sub_cancel_left]
theorem cpN_out {f g : Nat → Nat} {d n j : Nat} (h : j < d ∨ d + n ≤ j) : cpN f g d n j = f j := by
  simp only [cpN]
  rw [if_neg (by omega)]
def kmU (km : Nat) : Nat := if km < 20 then km + 1 else 20
set_option maxHeartbeats 4000000 in
set_option maxRecDepth 100000 in
theorem cM_keep (l : Launch) (D : va_G) (ad : Nat → Nat) (cI cJ : ClassId) (a kp bt sz : Nat → Nat) (sheets go : Nat → Int32) (rw : Nat → Nat) (car : Nat → Int32) (ke km fi gm bs bu : Nat) (n1 n2 n3 n4 n5 n6 n7 : Int64) (px py db : Nat → Int64)  (he : ke < 20) (hm : km ≤ 20) : mq_v l D (mT cI cJ) yX12_keep wsX12_keep 0 0 0 0 [.ref (ad 0)] (mW ad cI cJ a kp bt sz sheets go rw car ke km fi gm bs bu n1 n2 n3 n4 n5 n6 n7 px py db) (fun w1 => w1 = mW ad cI cJ a (cpN kp a (598 * ke) 598) bt sz sheets go rw car ((ke + 1) % 20) (kmU km) fi gm bs bu n1 n2 n3 n4 n5 n6 n7 px py db) := by
  refine mq_v_of (cc := cX12_keep) (maxL := 2) (by decide) rfl (Nat.le_of_ble_eq_true rfl) ?_
  intro p e s m args below meth c A Q ls hx hb hts hown hml hnm hA hP hK hD hS hl hret
  have hown : s.vm.findClass RX12 = some m.cls := hown
  have hinX12 : ∀ w ∈ u_ws RX12 TX12 24, w ∈ wsX12_keep := by decide +kernel
  have hl : lv_has ls 2 [(0, .ref (ad 0))] := hl
  refine lv_iconst (v := (nI (0))) hx hb dX12_keep_0 (by decide) ?_
  refine lv_istore_n (lv' := [(1, .int (nI (0))), (0, .ref (ad 0))]) hx hb dX12_keep_1 rfl hl (by decide) rfl (fun ls hl => ?_)
  have lp : ∀ (n : Nat) (k : Nat), (k + n = 598) → ∀ (H : Heap) (locs : List Loc) (ls : Array Slot), va_P D vwCl (mW ad cI cJ a (cpN kp a (598 * ke) k) bt sz sheets go rw car ke km fi gm bs bu n1 n2 n3 n4 n5 n6 n7 px py db) H → va_D A (mW ad cI cJ a (cpN kp a (598 * ke) k) bt sz sheets go rw car ke km fi gm bs bu n1 n2 n3 n4 n5 n6 n7 px py db) → va_S A s.heap H locs → lv_has ls 2 [(1, .int (nI (k))), (0, .ref (ad 0))] → W p l e (mq_R 0 0 0 0) s m args below meth c H locs 0 0 Q (F0 m 2 ls []) := by
    intro n
    induction n with
    | zero =>
      intro k hk H locs ls hP hD hS hl
      refine lv_iload_n hx hb dX12_keep_2 rfl (lv_at hl 0 rfl) ?_
      refine lv_sipush (v := (nI (598))) hx hb dX12_keep_3 (by decide) ?_
      refine ln_icmp_ge (tgt := 36) hx hb dX12_keep_6 (by decide) (by omega) (by omega) (fun c1 => ?_) (fun c1 => ?_)
      · have hk0 : k = 598 := by omega
        subst hk0
        refine lv_aload_n hx hb dX12_keep_36 rfl (lv_at hl 1 rfl) ?_
        refine lv_aload_n hx hb dX12_keep_37 rfl (lv_at hl 1 rfl) ?_
        refine va_get (D := D) (ci := 12) (v := .int (nI (ke))) (C := RX12) (T := TX12) (N := 24) hx hb hts hinX12 hown hK hP 0 rfl rfl 2 (by decide) (hts (.fieldLink RX12 48 "CornDeskModel" "keptEnd" "I") (by decide +kernel)) (fun _ h9 => h9) rfl dX12_keep_38 ?_
        refine lv_iconst (v := (nI (1))) hx hb dX12_keep_41 (by decide) ?_
        refine ln_iadd hx hb dX12_keep_42 ?_
        refine lv_bipush (v := (nI (20))) hx hb dX12_keep_43 (by decide) ?_
        refine ln_irem hx hb dX12_keep_45 (by omega) (by omega) (by omega) ?_
        refine va_put (D := D) (ci := 12) (v := .int (nI ((ke + 1) % (20)))) (ty := .int) (C := RX12) (T := TX12) (N := 24) hx hb hts hinX12 tyX12 tyX12_ok nmX12 hown hK hP hD hS 0 rfl rfl 2 (by decide) (hts (.fieldLink RX12 48 "CornDeskModel" "keptEnd" "I") (by decide +kernel)) (fun _ h9 => h9) rfl (by decide +kernel) rfl rfl (Nat.le_of_ble_eq_true rfl) dX12_keep_46 (fun H locs hP hD hS => ?_)
        have hP : va_P D vwCl (mW ad cI cJ a (cpN kp a (598 * ke) 598) bt sz sheets go rw car ((ke + 1) % (20)) km fi gm bs bu n1 n2 n3 n4 n5 n6 n7 px py db) H := hP
        have hD : va_D A (mW ad cI cJ a (cpN kp a (598 * ke) 598) bt sz sheets go rw car ((ke + 1) % (20)) km fi gm bs bu n1 n2 n3 n4 n5 n6 n7 px py db) := hD
        refine lv_aload_n hx hb dX12_keep_49 rfl (lv_at hl 1 rfl) ?_
        refine lv_aload_n hx hb dX12_keep_50 rfl (lv_at hl 1 rfl) ?_
        refine va_get (D := D) (ci := 12) (v := .int (nI (km))) (C := RX12) (T := TX12) (N := 24) hx hb hts hinX12 hown hK hP 0 rfl rfl 3 (by decide) (hts (.fieldLink RX12 51 "CornDeskModel" "keptMany" "I") (by decide +kernel)) (fun _ h9 => h9) rfl dX12_keep_51 ?_
        refine lv_bipush (v := (nI (20))) hx hb dX12_keep_54 (by decide) ?_
        refine ln_icmp_ge (tgt := 68) hx hb dX12_keep_56 (by decide) (by omega) (by omega) (fun c2 => ?_) (fun c2 => ?_)
        · refine lv_bipush (v := (nI (20))) hx hb dX12_keep_68 (by decide) ?_
          refine va_put (D := D) (ci := 12) (v := .int (nI (20))) (ty := .int) (C := RX12) (T := TX12) (N := 24) hx hb hts hinX12 tyX12 tyX12_ok nmX12 hown hK hP hD hS 0 rfl rfl 3 (by decide) (hts (.fieldLink RX12 51 "CornDeskModel" "keptMany" "I") (by decide +kernel)) (fun _ h9 => h9) rfl (by decide +kernel) rfl rfl (Nat.le_of_ble_eq_true rfl) dX12_keep_70 (fun H locs hP hD hS => ?_)
          have hP : va_P D vwCl (mW ad cI cJ a (cpN kp a (598 * ke) 598) bt sz sheets go rw car ((ke + 1) % (20)) 20 fi gm bs bu n1 n2 n3 n4 n5 n6 n7 px py db) H := hP
          have hD : va_D A (mW ad cI cJ a (cpN kp a (598 * ke) 598) bt sz sheets go rw car ((ke + 1) % (20)) 20 fi gm bs bu n1 n2 n3 n4 n5 n6 n7 px py db) := hD
          exact hret _ _ _ _ _ (show _ = _ by rw [show kmU km = 20 from if_neg (by omega)]) hP hD hS dX12_keep_73
        · refine lv_aload_n hx hb dX12_keep_59 rfl (lv_at hl 1 rfl) ?_
          refine va_get (D := D) (ci := 12) (v := .int (nI (km))) (C := RX12) (T := TX12) (N := 24) hx hb hts hinX12 hown hK hP 0 rfl rfl 3 (by decide) (hts (.fieldLink RX12 51 "CornDeskModel" "keptMany" "I") (by decide +kernel)) (fun _ h9 => h9) rfl dX12_keep_60 ?_
          refine lv_iconst (v := (nI (1))) hx hb dX12_keep_63 (by decide) ?_
          refine ln_iadd hx hb dX12_keep_64 ?_
          refine lv_goto (tgt := 70) hx hb dX12_keep_65 (by decide) ?_
          refine va_put (D := D) (ci := 12) (v := .int (nI (km + 1))) (ty := .int) (C := RX12) (T := TX12) (N := 24) hx hb hts hinX12 tyX12 tyX12_ok nmX12 hown hK hP hD hS 0 rfl rfl 3 (by decide) (hts (.fieldLink RX12 51 "CornDeskModel" "keptMany" "I") (by decide +kernel)) (fun _ h9 => h9) rfl (by decide +kernel) rfl rfl (Nat.le_of_ble_eq_true rfl) dX12_keep_70 (fun H locs hP hD hS => ?_)
          have hP : va_P D vwCl (mW ad cI cJ a (cpN kp a (598 * ke) 598) bt sz sheets go rw car ((ke + 1) % (20)) (km + 1) fi gm bs bu n1 n2 n3 n4 n5 n6 n7 px py db) H := hP
          have hD : va_D A (mW ad cI cJ a (cpN kp a (598 * ke) 598) bt sz sheets go rw car ((ke + 1) % (20)) (km + 1) fi gm bs bu n1 n2 n3 n4 n5 n6 n7 px py db) := hD
          exact hret _ _ _ _ _ (show _ = _ by rw [show kmU km = km + 1 from if_pos (by omega)]) hP hD hS dX12_keep_73
      · exact absurd hk (by omega)
    | succ n ih =>
      intro k hk H locs ls hP hD hS hl
      refine lv_iload_n hx hb dX12_keep_2 rfl (lv_at hl 0 rfl) ?_
      refine lv_sipush (v := (nI (598))) hx hb dX12_keep_3 (by decide) ?_
      refine ln_icmp_ge (tgt := 36) hx hb dX12_keep_6 (by decide) (by omega) (by omega) (fun c1 => ?_) (fun c1 => ?_)
      · exact absurd hk (by omega)
      · refine lv_aload_n hx hb dX12_keep_9 rfl (lv_at hl 1 rfl) ?_
        refine va_get (D := D) (ci := 12) (v := .ref (ad 2)) (C := RX12) (T := TX12) (N := 24) hx hb hts hinX12 hown hK hP 0 rfl rfl 1 (by decide) (hts (.fieldLink RX12 13 "CornDeskModel" "kept" "[I") (by decide +kernel)) (fun _ h9 => h9) rfl dX12_keep_10 ?_
        refine lv_sipush (v := (nI (598))) hx hb dX12_keep_13 (by decide) ?_
        refine lv_aload_n hx hb dX12_keep_16 rfl (lv_at hl 1 rfl) ?_
        refine va_get (D := D) (ci := 12) (v := .int (nI (ke))) (C := RX12) (T := TX12) (N := 24) hx hb hts hinX12 hown hK hP 0 rfl rfl 2 (by decide) (hts (.fieldLink RX12 48 "CornDeskModel" "keptEnd" "I") (by decide +kernel)) (fun _ h9 => h9) rfl dX12_keep_17 ?_
        refine ln_imul hx hb dX12_keep_20 ?_
        refine lv_iload_n hx hb dX12_keep_21 rfl (lv_at hl 0 rfl) ?_
        refine ln_iadd hx hb dX12_keep_22 ?_
        refine lv_aload_n hx hb dX12_keep_23 rfl (lv_at hl 1 rfl) ?_
        refine va_get (D := D) (ci := 12) (v := .ref (ad 1)) (C := RX12) (T := TX12) (N := 24) hx hb hts hinX12 hown hK hP 0 rfl rfl 0 (by decide) (hts (.fieldLink RX12 9 "CornDeskModel" "now" "[I") (by decide +kernel)) (fun _ h9 => h9) rfl dX12_keep_24 ?_
        refine lv_iload_n hx hb dX12_keep_27 rfl (lv_at hl 0 rfl) ?_
        refine ln_iald hx hb hK hP 1 0 rfl rfl (by decide) (by omega) dX12_keep_28 ?_
        refine ln_iastN hx hb hK hP hD hS 2 0 rfl rfl (by decide) (by omega) dX12_keep_29 (fun H locs hP hD hS => ?_)
        have hP : va_P D vwCl (mW ad cI cJ a (upN (cpN kp a (598 * ke) k) ((598) * (ke) + k) (a (k))) bt sz sheets go rw car ke km fi gm bs bu n1 n2 n3 n4 n5 n6 n7 px py db) H := hP
        have hD : va_D A (mW ad cI cJ a (upN (cpN kp a (598 * ke) k) ((598) * (ke) + k) (a (k))) bt sz sheets go rw car ke km fi gm bs bu n1 n2 n3 n4 n5 n6 n7 px py db) := hD
        refine lv_iinc (v := (nI (k + 1))) (lv' := [(1, .int (nI (k + 1))), (0, .ref (ad 0))]) hx hb dX12_keep_30 hl (k := 0) rfl (by rw [show (Int32.ofInt 1) = nI 1 from rfl, nI_add]) (by decide) rfl (fun ls hl => ?_)
        refine lv_goto (tgt := 2) hx hb dX12_keep_33 (by decide) ?_
        exact ih (k + 1) (by omega) _ _ _ (by rw [← cpN_s]; exact hP) (by rw [← cpN_s]; exact hD) hS hl
  exact lp (598) (0) (by omega) _ _ _ (by rw [cpN_0]; exact hP) (by rw [cpN_0]; exact hD) hS hl
