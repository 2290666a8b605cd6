set_option maxHeartbeats 4000000 in
set_option maxRecDepth 100000 in
theorem qX2_size (l : Launch) (D : va_G) (cy : Nat → ClassId) (m0 : Nat) (sA : Nat) (ct : Nat) (rA : Nat) (SG : Nat → Nat) (RO : Nat → Nat)   : nq_i l D (cT cy) yX2_size wsX2_size 0 0 0 0 [.ref (m0)] ([(m0, .inr (2, [.ref (sA), .int (nI (ct)), .ref (rA)])), (sA, .inl (cy 0, 12, .inl (nA SG))), (rA, .inl (cy 0, 7, .inl (nA RO)))]) (fun r w1 => r = nI ct ∧ w1 = [(m0, .inr (2, [.ref (sA), .int (nI (ct)), .ref (rA)])), (sA, .inl (cy 0, 12, .inl (nA SG))), (rA, .inl (cy 0, 7, .inl (nA RO)))]) := by
  refine nq_i_of (cc := cX2_size) (maxL := 1) (by decide) rfl (Nat.le_of_ble_eq_true rfl) ?_
  intro p e s m args below meth c A Q ls hx hb hts hown hml hnm hN hA hP hK hD hS hl hret
  have hown : s.vm.findClass RX2 = some m.cls := hown
  have hinX2 : ∀ w ∈ u_ws RX2 TX2 3, w ∈ wsX2_size := by decide +kernel
  have hl : lv_has ls 1 [(0, .ref (m0))] := hl
  have hP : va_P D vwCl ([(m0, .inr (2, [.ref (sA), .int (nI (ct)), .ref (rA)])), (sA, .inl (cy 0, 12, .inl (nA SG))), (rA, .inl (cy 0, 7, .inl (nA RO)))]) s.heap := hP
  refine lv_aload_n hx hb dX2_size_0 rfl (lv_at hl 0 rfl) ?_
  refine va_get (D := D) (ci := 2) (v := .int (nI (ct))) (C := RX2) (T := TX2) (N := 3) hx hb hts hinX2 hown hK hP 0 rfl rfl 1 (by decide) (hts (.fieldLink RX2 18 "CornDesk$Form" "count" "I") (by decide +kernel)) (fun _ h9 => h9) rfl dX2_size_1 ?_
  exact hret _ _ _ _ _ _ ⟨rfl, rfl⟩ hP hD hS dX2_size_4
set_option maxHeartbeats 4000000 in
set_option maxRecDepth 100000 in
theorem qX2_clear (l : Launch) (D : va_G) (cy : Nat → ClassId) (m0 : Nat) (sA : Nat) (ct : Nat) (rA : Nat) (SG : Nat → Nat) (RO : Nat → Nat)   : nq_v l D (cT cy) yX2_clear wsX2_clear 0 0 0 0 [.ref (m0)] ([(m0, .inr (2, [.ref (sA), .int (nI (ct)), .ref (rA)])), (sA, .inl (cy 0, 12, .inl (nA SG))), (rA, .inl (cy 0, 7, .inl (nA RO)))]) (fun w1 => w1 = [(m0, .inr (2, [.ref (sA), .int (nI (0)), .ref (rA)])), (sA, .inl (cy 0, 12, .inl (nA SG))), (rA, .inl (cy 0, 7, .inl (nA RO)))]) := by
  refine nq_v_of (cc := cX2_clear) (maxL := 1) (by decide) rfl (Nat.le_of_ble_eq_true rfl) ?_
  intro p e s m args below meth c A Q ls hx hb hts hown hml hnm hN hA hP hK hD hS hl hret
  have hown : s.vm.findClass RX2 = some m.cls := hown
  have hinX2 : ∀ w ∈ u_ws RX2 TX2 3, w ∈ wsX2_clear := by decide +kernel
  have hl : lv_has ls 1 [(0, .ref (m0))] := hl
  have hP : va_P D vwCl ([(m0, .inr (2, [.ref (sA), .int (nI (ct)), .ref (rA)])), (sA, .inl (cy 0, 12, .inl (nA SG))), (rA, .inl (cy 0, 7, .inl (nA RO)))]) s.heap := hP
  refine lv_aload_n hx hb dX2_clear_0 rfl (lv_at hl 0 rfl) ?_
  refine lv_iconst (v := (nI (0))) hx hb dX2_clear_1 (by decide) ?_
  refine va_put (D := D) (ci := 2) (v := .int (nI (0))) (ty := .int) (C := RX2) (T := TX2) (N := 3) hx hb hts hinX2 tyX2 tyX2_ok nmX2 hown hK hP hD hS 0 rfl rfl 1 (by decide) (hts (.fieldLink RX2 18 "CornDesk$Form" "count" "I") (by decide +kernel)) (fun _ h9 => h9) rfl (by decide +kernel) rfl rfl (Nat.le_of_ble_eq_true rfl) dX2_clear_2 (fun H locs hP hD hS => ?_)
  have hP : va_P D vwCl ([(m0, .inr (2, [.ref (sA), .int (nI (0)), .ref (rA)])), (sA, .inl (cy 0, 12, .inl (nA SG))), (rA, .inl (cy 0, 7, .inl (nA RO)))]) H := hP
  have hD : va_D A ([(m0, .inr (2, [.ref (sA), .int (nI (0)), .ref (rA)])), (sA, .inl (cy 0, 12, .inl (nA SG))), (rA, .inl (cy 0, 7, .inl (nA RO)))]) := hD
  exact hret _ _ _ _ _ rfl hP hD hS dX2_clear_5
set_option maxHeartbeats 4000000 in
set_option maxRecDepth 100000 in
theorem qX2_add (l : Launch) (D : va_G) (cy : Nat → ClassId) (m0 : Nat) (sA : Nat) (ct : Nat) (rA : Nat) (SG : Nat → Nat) (RO : Nat → Nat) (v : Nat) (hc : ct < 12) : nq_v l D (cT cy) yX2_add wsX2_add 0 0 0 0 [.ref (m0), .int (nI (v))] ([(m0, .inr (2, [.ref (sA), .int (nI (ct)), .ref (rA)])), (sA, .inl (cy 0, 12, .inl (nA SG))), (rA, .inl (cy 0, 7, .inl (nA RO)))]) (fun w1 => w1 = [(m0, .inr (2, [.ref (sA), .int (nI (ct + 1)), .ref (rA)])), (sA, .inl (cy 0, 12, .inl (nA (upN SG ct v)))), (rA, .inl (cy 0, 7, .inl (nA RO)))]) := by
  refine nq_v_of (cc := cX2_add) (maxL := 2) (by decide) rfl (Nat.le_of_ble_eq_true rfl) ?_
  intro p e s m args below meth c A Q ls hx hb hts hown hml hnm hN hA hP hK hD hS hl hret
  have hown : s.vm.findClass RX2 = some m.cls := hown
  have hinX2 : ∀ w ∈ u_ws RX2 TX2 3, w ∈ wsX2_add := by decide +kernel
  have hl : lv_has ls 2 [(0, .ref (m0)), (1, .int (nI (v)))] := hl
  have hP : va_P D vwCl ([(m0, .inr (2, [.ref (sA), .int (nI (ct)), .ref (rA)])), (sA, .inl (cy 0, 12, .inl (nA SG))), (rA, .inl (cy 0, 7, .inl (nA RO)))]) s.heap := hP
  refine lv_aload_n hx hb dX2_add_0 rfl (lv_at hl 0 rfl) ?_
  refine va_get (D := D) (ci := 2) (v := .int (nI (ct))) (C := RX2) (T := TX2) (N := 3) hx hb hts hinX2 hown hK hP 0 rfl rfl 1 (by decide) (hts (.fieldLink RX2 18 "CornDesk$Form" "count" "I") (by decide +kernel)) (fun _ h9 => h9) rfl dX2_add_1 ?_
  refine lv_bipush (v := (nI (12))) hx hb dX2_add_4 (by decide) ?_
  refine ln_icmp_ge (tgt := 29) hx hb dX2_add_6 (by decide) (by omega) (by omega) (fun c1 => ?_) (fun c1 => ?_)
  · exact absurd hc (by omega)
  · refine lv_aload_n hx hb dX2_add_9 rfl (lv_at hl 0 rfl) ?_
    refine va_get (D := D) (ci := 2) (v := .ref (sA)) (C := RX2) (T := TX2) (N := 3) hx hb hts hinX2 hown hK hP 0 rfl rfl 0 (by decide) (hts (.fieldLink RX2 9 "CornDesk$Form" "signs" "[I") (by decide +kernel)) (fun _ h9 => h9) rfl dX2_add_10 ?_
    refine lv_aload_n hx hb dX2_add_13 rfl (lv_at hl 0 rfl) ?_
    refine va_get (D := D) (ci := 2) (v := .int (nI (ct))) (C := RX2) (T := TX2) (N := 3) hx hb hts hinX2 hown hK hP 0 rfl rfl 1 (by decide) (hts (.fieldLink RX2 18 "CornDesk$Form" "count" "I") (by decide +kernel)) (fun _ h9 => h9) rfl dX2_add_14 ?_
    refine lv_iload_n hx hb dX2_add_17 rfl (lv_at hl 1 rfl) ?_
    refine ln_iastN hx hb hK hP hD hS 1 0 rfl rfl (by decide) (by omega) dX2_add_18 (fun H locs hP hD hS => ?_)
    have hP : va_P D vwCl ([(m0, .inr (2, [.ref (sA), .int (nI (ct)), .ref (rA)])), (sA, .inl (cy 0, 12, .inl (nA (upN SG (ct) (v))))), (rA, .inl (cy 0, 7, .inl (nA RO)))]) H := hP
    have hD : va_D A ([(m0, .inr (2, [.ref (sA), .int (nI (ct)), .ref (rA)])), (sA, .inl (cy 0, 12, .inl (nA (upN SG (ct) (v))))), (rA, .inl (cy 0, 7, .inl (nA RO)))]) := hD
    refine lv_aload_n hx hb dX2_add_19 rfl (lv_at hl 0 rfl) ?_
    refine lv_dup hx hb dX2_add_20 rfl ?_
    refine va_get (D := D) (ci := 2) (v := .int (nI (ct))) (C := RX2) (T := TX2) (N := 3) hx hb hts hinX2 hown hK hP 0 rfl rfl 1 (by decide) (hts (.fieldLink RX2 18 "CornDesk$Form" "count" "I") (by decide +kernel)) (fun _ h9 => h9) rfl dX2_add_21 ?_
    refine lv_iconst (v := (nI (1))) hx hb dX2_add_24 (by decide) ?_
    refine ln_iadd hx hb dX2_add_25 ?_
    refine va_put (D := D) (ci := 2) (v := .int (nI (ct + 1))) (ty := .int) (C := RX2) (T := TX2) (N := 3) hx hb hts hinX2 tyX2 tyX2_ok nmX2 hown hK hP hD hS 0 rfl rfl 1 (by decide) (hts (.fieldLink RX2 18 "CornDesk$Form" "count" "I") (by decide +kernel)) (fun _ h9 => h9) rfl (by decide +kernel) rfl rfl (Nat.le_of_ble_eq_true rfl) dX2_add_26 (fun H locs hP hD hS => ?_)
    have hP : va_P D vwCl ([(m0, .inr (2, [.ref (sA), .int (nI (ct + 1)), .ref (rA)])), (sA, .inl (cy 0, 12, .inl (nA (upN SG (ct) (v))))), (rA, .inl (cy 0, 7, .inl (nA RO)))]) H := hP
    have hD : va_D A ([(m0, .inr (2, [.ref (sA), .int (nI (ct + 1)), .ref (rA)])), (sA, .inl (cy 0, 12, .inl (nA (upN SG (ct) (v))))), (rA, .inl (cy 0, 7, .inl (nA RO)))]) := hD
    exact hret _ _ _ _ _ rfl hP hD hS dX2_add_29
set_option maxHeartbeats 4000000 in
set_option maxRecDepth 100000 in
theorem qX2_drop (l : Launch) (D : va_G) (cy : Nat → ClassId) (m0 : Nat) (sA : Nat) (ct : Nat) (rA : Nat) (SG : Nat → Nat) (RO : Nat → Nat)  (hc : ct ≤ 12) (hc0 : 0 < ct) : nq_v l D (cT cy) yX2_drop wsX2_drop 0 0 0 0 [.ref (m0)] ([(m0, .inr (2, [.ref (sA), .int (nI (ct)), .ref (rA)])), (sA, .inl (cy 0, 12, .inl (nA SG))), (rA, .inl (cy 0, 7, .inl (nA RO)))]) (fun w1 => w1 = [(m0, .inr (2, [.ref (sA), .int (nI (ct - 1)), .ref (rA)])), (sA, .inl (cy 0, 12, .inl (nA SG))), (rA, .inl (cy 0, 7, .inl (nA RO)))]) := by
  refine nq_v_of (cc := cX2_drop) (maxL := 1) (by decide) rfl (Nat.le_of_ble_eq_true rfl) ?_
  intro p e s m args below meth c A Q ls hx hb hts hown hml hnm hN hA hP hK hD hS hl hret
  have hown : s.vm.findClass RX2 = some m.cls := hown
  have hinX2 : ∀ w ∈ u_ws RX2 TX2 3, w ∈ wsX2_drop := by decide +kernel
  have hl : lv_has ls 1 [(0, .ref (m0))] := hl
  have hP : va_P D vwCl ([(m0, .inr (2, [.ref (sA), .int (nI (ct)), .ref (rA)])), (sA, .inl (cy 0, 12, .inl (nA SG))), (rA, .inl (cy 0, 7, .inl (nA RO)))]) s.heap := hP
  refine lv_aload_n hx hb dX2_drop_0 rfl (lv_at hl 0 rfl) ?_
  refine va_get (D := D) (ci := 2) (v := .int (nI (ct))) (C := RX2) (T := TX2) (N := 3) hx hb hts hinX2 hown hK hP 0 rfl rfl 1 (by decide) (hts (.fieldLink RX2 18 "CornDesk$Form" "count" "I") (by decide +kernel)) (fun _ h9 => h9) rfl dX2_drop_1 ?_
  refine lv_if_le (tgt := 17) hx hb dX2_drop_4 (by decide) (fun cc => absurd cc (nI_nle hc0 (by omega))) (fun _ => ?_)
  refine lv_aload_n hx hb dX2_drop_7 rfl (lv_at hl 0 rfl) ?_
  refine lv_dup hx hb dX2_drop_8 rfl ?_
  refine va_get (D := D) (ci := 2) (v := .int (nI (ct))) (C := RX2) (T := TX2) (N := 3) hx hb hts hinX2 hown hK hP 0 rfl rfl 1 (by decide) (hts (.fieldLink RX2 18 "CornDesk$Form" "count" "I") (by decide +kernel)) (fun _ h9 => h9) rfl dX2_drop_9 ?_
  refine lv_iconst (v := (nI (1))) hx hb dX2_drop_12 (by decide) ?_
  refine ln_isub hx hb dX2_drop_13 (by omega) ?_
  refine va_put (D := D) (ci := 2) (v := .int (nI ((ct) - (1)))) (ty := .int) (C := RX2) (T := TX2) (N := 3) hx hb hts hinX2 tyX2 tyX2_ok nmX2 hown hK hP hD hS 0 rfl rfl 1 (by decide) (hts (.fieldLink RX2 18 "CornDesk$Form" "count" "I") (by decide +kernel)) (fun _ h9 => h9) rfl (by decide +kernel) rfl rfl (Nat.le_of_ble_eq_true rfl) dX2_drop_14 (fun H locs hP hD hS => ?_)
  have hP : va_P D vwCl ([(m0, .inr (2, [.ref (sA), .int (nI ((ct) - (1))), .ref (rA)])), (sA, .inl (cy 0, 12, .inl (nA SG))), (rA, .inl (cy 0, 7, .inl (nA RO)))]) H := hP
  have hD : va_D A ([(m0, .inr (2, [.ref (sA), .int (nI ((ct) - (1))), .ref (rA)])), (sA, .inl (cy 0, 12, .inl (nA SG))), (rA, .inl (cy 0, 7, .inl (nA RO)))]) := hD
  exact hret _ _ _ _ _ rfl hP hD hS dX2_drop_17
set_option maxHeartbeats 4000000 in
set_option maxRecDepth 100000 in
theorem qX2_taken (l : Launch) (D : va_G) (cy : Nat → ClassId)  (v : Nat) (hv : v ≤ 24) : nq_i l D (cT cy) yX2_taken wsX2_taken 0 0 0 0 [.int (nI (v))] ([]) (fun r w1 => r = nI (tk v) ∧ w1 = []) := by
  refine nq_i_of (cc := cX2_taken) (maxL := 1) (by decide) rfl (Nat.le_of_ble_eq_true rfl) ?_
  intro p e s m args below meth c A Q ls hx hb hts hown hml hnm hN hA hP hK hD hS hl hret
  have hown : s.vm.findClass RX2 = some m.cls := hown
  have hl : lv_has ls 1 [(0, .int (nI (v)))] := hl
  have hP : va_P D vwCl ([]) s.heap := hP
  refine lv_iload_n hx hb dX2_taken_0 rfl (lv_at hl 0 rfl) ?_
  refine lv_bipush (v := (nI (20))) hx hb dX2_taken_1 (by decide) ?_
  refine ln_icmp_ge (tgt := 8) hx hb dX2_taken_3 (by decide) (by omega) (by omega) (fun c1 => ?_) (fun c1 => ?_)
  · refine lv_iload_n hx hb dX2_taken_8 rfl (lv_at hl 0 rfl) ?_
    refine lv_bipush (v := (nI (22))) hx hb dX2_taken_9 (by decide) ?_
    refine ln_icmp_ne (tgt := 18) hx hb dX2_taken_11 (by decide) (by omega) (by omega) (fun c2 => ?_) (fun c2 => ?_)
    · refine lv_iconst (v := (nI (2))) hx hb dX2_taken_18 (by decide) ?_
      exact hret _ _ _ _ _ _ ⟨by rw [tk_2 c1 c2], rfl⟩ hP hD hS dX2_taken_19
    · refine lv_iconst (v := (nI (1))) hx hb dX2_taken_14 (by decide) ?_
      refine lv_goto (tgt := 19) hx hb dX2_taken_15 (by decide) ?_
      exact hret _ _ _ _ _ _ ⟨by rw [tk_1 c2], rfl⟩ hP hD hS dX2_taken_19
  · refine lv_iconst (v := (nI (0))) hx hb dX2_taken_6 (by decide) ?_
    exact hret _ _ _ _ _ _ ⟨by rw [tk_0 c1], rfl⟩ hP hD hS dX2_taken_7
theorem tk_b (v : Nat) : tk v ≤ 2 := by
  unfold tk
  split
  · omega
  · split <;> omega
set_option maxHeartbeats 4000000 in
set_option maxRecDepth 100000 in
theorem qX2_firstWrong (l : Launch) (D : va_G) (cy : Nat → ClassId) (m0 : Nat) (sA : Nat) (ct : Nat) (rA : Nat) (SG : Nat → Nat) (RO : Nat → Nat)  (hc : ct ≤ 12) (hsg : ∀ k, k < ct → SG k ≤ 24) : nq_i l D (cT cy) yX2_firstWrong wsX2_firstWrong 1 0 0 20 [.ref (m0)] ([(m0, .inr (2, [.ref (sA), .int (nI (ct)), .ref (rA)])), (sA, .inl (cy 0, 12, .inl (nA SG))), (rA, .inl (cy 0, 7, .inl (nA RO)))]) (fun r w1 => r = wrGo SG ct ct 0 0 ∧ w1 = [(m0, .inr (2, [.ref (sA), .int (nI (ct)), .ref (rA)])), (sA, .inl (cy 0, 12, .inl (nA SG))), (rA, .inl (cy 0, 7, .inl (nA RO)))]) := by
  refine nq_i_of (cc := cX2_firstWrong) (maxL := 4) (by decide) rfl (Nat.le_of_ble_eq_true rfl) ?_
  intro p e s m args below meth c A Q ls hx hb hts hown hml hnm hN hA hP hK hD hS hl hret
  have hown : s.vm.findClass RX2 = some m.cls := hown
  have hinX2 : ∀ w ∈ u_ws RX2 TX2 3, w ∈ wsX2_firstWrong := by decide +kernel
  have hl : lv_has ls 4 [(0, .ref (m0))] := hl
  have hP : va_P D vwCl ([(m0, .inr (2, [.ref (sA), .int (nI (ct)), .ref (rA)])), (sA, .inl (cy 0, 12, .inl (nA SG))), (rA, .inl (cy 0, 7, .inl (nA RO)))]) s.heap := hP
  refine lv_iconst (v := (nI (0))) hx hb dX2_firstWrong_0 (by decide) ?_
  refine lv_istore_n (lv' := [(1, .int (nI (0))), (0, .ref (m0))]) hx hb dX2_firstWrong_1 rfl hl (by decide) rfl (fun ls hl => ?_)
  refine lv_iconst (v := (nI (0))) hx hb dX2_firstWrong_2 (by decide) ?_
  refine lv_istore_n (lv' := [(2, .int (nI (0))), (1, .int (nI (0))), (0, .ref (m0))]) hx hb dX2_firstWrong_3 rfl hl (by decide) rfl (fun ls hl => ?_)
  have lp : ∀ (i : Nat) (k : Nat) (d : Nat), (k + i = ct) → (d ≤ 6) → (wrGo SG ct ct 0 0 = wrGo SG ct i k d) → ∀ (H : Heap) (locs : List Loc) (ls : Array Slot), va_P D vwCl ([(m0, .inr (2, [.ref (sA), .int (nI (ct)), .ref (rA)])), (sA, .inl (cy 0, 12, .inl (nA SG))), (rA, .inl (cy 0, 7, .inl (nA RO)))]) H → va_D A ([(m0, .inr (2, [.ref (sA), .int (nI (ct)), .ref (rA)])), (sA, .inl (cy 0, 12, .inl (nA SG))), (rA, .inl (cy 0, 7, .inl (nA RO)))]) → va_S A s.heap H locs → lv_has ls 4 [(2, .int (nI (k))), (1, .int (nI (d))), (0, .ref (m0))] → W p l e (mq_R 1 0 0 20) s m args below meth c H locs 0 0 Q (F0 m 4 ls []) := by
    intro i
    induction i with
    | zero =>
      intro k d hk hd hw H locs ls hP hD hS hl
      refine lv_iload_n hx hb dX2_firstWrong_4 rfl (lv_at hl 0 rfl) ?_
      refine lv_aload_n hx hb dX2_firstWrong_5 rfl (lv_at hl 2 rfl) ?_
      refine va_get (D := D) (ci := 2) (v := .int (nI (ct))) (C := RX2) (T := TX2) (N := 3) hx hb hts hinX2 hown hK hP 0 rfl rfl 1 (by decide) (hts (.fieldLink RX2 18 "CornDesk$Form" "count" "I") (by decide +kernel)) (fun _ h9 => h9) rfl dX2_firstWrong_6 ?_
      refine ln_icmp_ge (tgt := 46) hx hb dX2_firstWrong_9 (by decide) (by omega) (by omega) (fun c1 => ?_) (fun c1 => ?_)
      · rw [wrGo_0] at hw
        refine lv_iload_n hx hb dX2_firstWrong_46 rfl (lv_at hl 1 rfl) ?_
        refine lv_iconst (v := (nI (1))) hx hb dX2_firstWrong_47 (by decide) ?_
        refine ln_icmp_ne (tgt := 55) hx hb dX2_firstWrong_48 (by decide) (by omega) (by omega) (fun c2 => ?_) (fun c2 => ?_)
        · refine lv_aload_n hx hb dX2_firstWrong_55 rfl (lv_at hl 2 rfl) ?_
          refine va_get (D := D) (ci := 2) (v := .int (nI (ct))) (C := RX2) (T := TX2) (N := 3) hx hb hts hinX2 hown hK hP 0 rfl rfl 1 (by decide) (hts (.fieldLink RX2 18 "CornDesk$Form" "count" "I") (by decide +kernel)) (fun _ h9 => h9) rfl dX2_firstWrong_56 ?_
          exact hret _ _ _ _ _ _ ⟨by rw [hw, if_neg c2], rfl⟩ hP hD hS dX2_firstWrong_59
        · refine lv_iconst (v := (-1)) hx hb dX2_firstWrong_51 (by decide) ?_
          refine lv_goto (tgt := 59) hx hb dX2_firstWrong_52 (by decide) ?_
          exact hret _ _ _ _ _ _ ⟨by rw [hw, if_pos c2], rfl⟩ hP hD hS dX2_firstWrong_59
      · exact absurd hk (by omega)
    | succ i ih =>
      intro k d hk hd hw H locs ls hP hD hS hl
      refine lv_iload_n hx hb dX2_firstWrong_4 rfl (lv_at hl 0 rfl) ?_
      refine lv_aload_n hx hb dX2_firstWrong_5 rfl (lv_at hl 2 rfl) ?_
      refine va_get (D := D) (ci := 2) (v := .int (nI (ct))) (C := RX2) (T := TX2) (N := 3) hx hb hts hinX2 hown hK hP 0 rfl rfl 1 (by decide) (hts (.fieldLink RX2 18 "CornDesk$Form" "count" "I") (by decide +kernel)) (fun _ h9 => h9) rfl dX2_firstWrong_6 ?_
      refine ln_icmp_ge (tgt := 46) hx hb dX2_firstWrong_9 (by decide) (by omega) (by omega) (fun c1 => ?_) (fun c1 => ?_)
      · exact absurd hk (by omega)
      · have hs := hsg k (by omega)
        have ht := tk_b (SG k)
        refine lv_iload_n hx hb dX2_firstWrong_12 rfl (lv_at hl 1 rfl) ?_
        refine lv_aload_n hx hb dX2_firstWrong_13 rfl (lv_at hl 2 rfl) ?_
        refine va_get (D := D) (ci := 2) (v := .ref (sA)) (C := RX2) (T := TX2) (N := 3) hx hb hts hinX2 hown hK hP 0 rfl rfl 0 (by decide) (hts (.fieldLink RX2 9 "CornDesk$Form" "signs" "[I") (by decide +kernel)) (fun _ h9 => h9) rfl dX2_firstWrong_14 ?_
        refine lv_iload_n hx hb dX2_firstWrong_17 rfl (lv_at hl 0 rfl) ?_
        refine ln_iald hx hb hK hP 1 0 rfl rfl (by decide) (by omega) dX2_firstWrong_18 ?_
        refine nq_Si (As := [.int (nI (SG (k)))]) (rest := [.int (nI (d))]) (w := []) (wr := [(m0, .inr (2, [.ref (sA), .int (nI (ct)), .ref (rA)])), (sA, .inl (cy 0, 12, .inl (nA SG))), (rA, .inl (cy 0, 7, .inl (nA RO)))]) ⟨hx, hb, hml, hown, hts⟩ (qX2_taken l D cy  (SG (k)) hs) (cwS 1 hts gX2_firstWrong_X2_taken rfl rfl rfl (by decide +kernel) ⟨Nat.le_of_ble_eq_true rfl, Nat.le_of_ble_eq_true rfl⟩) hP hK hD hN hS hA rfl hl.1 rfl (Nat.le_of_ble_eq_true rfl) dX2_firstWrong_19 ⟨Nat.le_of_ble_eq_true rfl, Nat.le_of_ble_eq_true rfl⟩ (fun r w1 H locs hq hP hD hS => ?_)
        obtain ⟨rfl, rfl⟩ := hq
        have hP : va_P D vwCl ([(m0, .inr (2, [.ref (sA), .int (nI (ct)), .ref (rA)])), (sA, .inl (cy 0, 12, .inl (nA SG))), (rA, .inl (cy 0, 7, .inl (nA RO)))]) H := hP
        have hD : va_D A ([(m0, .inr (2, [.ref (sA), .int (nI (ct)), .ref (rA)])), (sA, .inl (cy 0, 12, .inl (nA SG))), (rA, .inl (cy 0, 7, .inl (nA RO)))]) := hD
        rcases Nat.lt_or_ge d (tk (SG k)) with q | q
        · refine lv_isub hx hb dX2_firstWrong_22 ?_
          refine lv_topi (fun x_1 ex_1 => ?_)
          refine lv_istore_n (lv' := [(3, .int (x_1)), (2, .int (nI (k))), (1, .int (nI (d))), (0, .ref (m0))]) hx hb dX2_firstWrong_23 rfl hl (by decide) rfl (fun ls hl => ?_)
          refine lv_iload_n hx hb dX2_firstWrong_24 rfl (lv_at hl 0 rfl) ?_
          refine lv_if_lt (tgt := 34) hx hb dX2_firstWrong_25 (by decide) (fun _ => ?_) (fun cc => absurd (by rw [ex_1]; exact pk_sneg (by omega) q) cc)
          refine lv_iload_n hx hb dX2_firstWrong_34 rfl (lv_at hl 1 rfl) ?_
          exact hret _ _ _ _ _ _ ⟨by rw [hw, wrGo_n (by omega)], rfl⟩ hP hD hS dX2_firstWrong_35
        · refine ln_isub hx hb dX2_firstWrong_22 (by omega) ?_
          refine lv_istore_n (lv' := [(3, .int (nI ((d) - (tk (SG (k)))))), (2, .int (nI (k))), (1, .int (nI (d))), (0, .ref (m0))]) hx hb dX2_firstWrong_23 rfl hl (by decide) rfl (fun ls hl => ?_)
          refine lv_iload_n hx hb dX2_firstWrong_24 rfl (lv_at hl 0 rfl) ?_
          refine lv_if_lt (tgt := 34) hx hb dX2_firstWrong_25 (by decide) (fun cc => absurd cc (nI_pos (by omega))) (fun _ => ?_)
          refine lv_iload_n hx hb dX2_firstWrong_28 rfl (lv_at hl 0 rfl) ?_
          refine lv_bipush (v := (nI (6))) hx hb dX2_firstWrong_29 (by decide) ?_
          refine ln_icmp_lt (tgt := 36) hx hb dX2_firstWrong_31 (by decide) (by omega) (by omega) (fun c3 => ?_) (fun c3 => ?_)
          · refine lv_iload_n hx hb dX2_firstWrong_36 rfl (lv_at hl 0 rfl) ?_
            refine lv_iconst (v := (nI (1))) hx hb dX2_firstWrong_37 (by decide) ?_
            refine ln_iadd hx hb dX2_firstWrong_38 ?_
            refine lv_istore_n (lv' := [(1, .int (nI ((d) - (tk (SG (k))) + 1))), (3, .int (nI ((d) - (tk (SG (k)))))), (2, .int (nI (k))), (0, .ref (m0))]) hx hb dX2_firstWrong_39 rfl hl (by decide) rfl (fun ls hl => ?_)
            refine lv_iinc (v := (nI (k + 1))) (lv' := [(2, .int (nI (k + 1))), (1, .int (nI ((d) - (tk (SG (k))) + 1))), (3, .int (nI ((d) - (tk (SG (k)))))), (0, .ref (m0))]) hx hb dX2_firstWrong_40 hl (k := 2) rfl (by rw [show (Int32.ofInt 1) = nI 1 from rfl, nI_add]) (by decide) rfl (fun ls hl => ?_)
            refine lv_goto (tgt := 4) hx hb dX2_firstWrong_43 (by decide) ?_
            exact ih (k + 1) (d - tk (SG k) + 1) (by omega) (by omega) (by rw [hw, wrGo_y ⟨q, c3⟩]) _ _ _ hP hD hS (lv_sub hl [0, 1, 3] rfl)
          · refine lv_iload_n hx hb dX2_firstWrong_34 rfl (lv_at hl 1 rfl) ?_
            exact hret _ _ _ _ _ _ ⟨by rw [hw, wrGo_n (by omega)], rfl⟩ hP hD hS dX2_firstWrong_35
  exact lp (ct) (0) (0) (by omega) (by omega) (rfl) _ _ _ hP hD hS hl
set_option maxHeartbeats 4000000 in
set_option maxRecDepth 100000 in
theorem qX2_init (l : Launch) (D : va_G) (cy : Nat → ClassId) (m0 : Nat)   : nq_v l D (cT cy) yX2_init wsX2_init 1 2 19 14 [.ref (m0)] ([(m0, .inr (2, [.null, .int (nI (0)), .null]))]) (fun w1 => ∃ a b : Nat, w1 = [(m0, .inr (2, [.ref (a), .int (nI (0)), .ref (b)])), (a, .inl (cy 0, 12, .inl (nA (fun _ => 0)))), (b, .inl (cy 0, 7, .inl (nA (fun _ => 0))))]) := by
  refine nq_v_of (cc := cX2_init) (maxL := 1) (by decide) rfl (Nat.le_of_ble_eq_true rfl) ?_
  intro p e s m args below meth c A Q ls hx hb hts hown hml hnm hN hA hP hK hD hS hl hret
  have hown : s.vm.findClass RX2 = some m.cls := hown
  have hnm : meth.name = "<init>" := hnm
  have hinX2 : ∀ w ∈ u_ws RX2 TX2 3, w ∈ wsX2_init := by decide +kernel
  have hl : lv_has ls 1 [(0, .ref (m0))] := hl
  have hP : va_P D vwCl ([(m0, .inr (2, [.null, .int (nI (0)), .null]))]) s.heap := hP
  refine lv_aload_n hx hb dX2_init_0 rfl (lv_at hl 0 rfl) ?_
  refine W.objInit hx hb hown (hts (.methodLink RX2 3 objectInit) (by decide +kernel)) (hts (.instanceMethod objectInit) (by decide +kernel)) (hts (.code objectInit ⟨#[0xb1]⟩ 1 none) (List.mem_cons_of_mem _ (by first | exact List.mem_append_left _ (List.mem_of_getElem? (i := 2) rfl) | exact List.mem_of_getElem? (i := 2) rfl))) rfl (by rw [hml]; exact hl.1) rfl dX2_init_1 (Nat.le_of_ble_eq_true rfl) (Nat.le_of_ble_eq_true rfl) ?_
  refine W.eq (g2 := F0 m 4 ls []) rfl ?_
  refine lv_aload_n hx hb dX2_init_4 rfl (lv_at hl 0 rfl) ?_
  refine lv_bipush (v := (nI (12))) hx hb dX2_init_5 (by decide) ?_
  refine mk_i hx hb (hts (.arrayClass .int) (by decide +kernel)) hK hP hD hS hA 0 rfl (by decide) (Nat.le_of_ble_eq_true rfl) (Nat.le_of_ble_eq_true rfl) dX2_init_7 (fun q_1 H hP hD hS => ?_)
  have hP : va_P D vwCl ([(m0, .inr (2, [.null, .int (nI (0)), .null])), (q_1, .inl (cy 0, 12, .inl (nA (fun _ => 0))))]) H := hP
  have hD : va_D A ([(m0, .inr (2, [.null, .int (nI (0)), .null])), (q_1, .inl (cy 0, 12, .inl (nA (fun _ => 0))))]) := hD
  refine va_putF (D := D) (ci := 2) (v := .ref (q_1)) (ty := .array .int) (C := RX2) (T := TX2) (N := 3) hx hb hts hinX2 tyX2 tyX2_ok nmX2 hown hK hP hD hS 0 rfl rfl 0 (by decide) (hts (.fieldLink RX2 9 "CornDesk$Form" "signs" "[I") (by decide +kernel)) (fun _ h9 => h9) rfl hnm rfl (by decide +kernel) rfl rfl (Nat.le_of_ble_eq_true rfl) dX2_init_9 (fun H locs hP hD hS => ?_)
  have hP : va_P D vwCl ([(m0, .inr (2, [.ref (q_1), .int (nI (0)), .null])), (q_1, .inl (cy 0, 12, .inl (nA (fun _ => 0))))]) H := hP
  have hD : va_D A ([(m0, .inr (2, [.ref (q_1), .int (nI (0)), .null])), (q_1, .inl (cy 0, 12, .inl (nA (fun _ => 0))))]) := hD
  refine lv_aload_n hx hb dX2_init_12 rfl (lv_at hl 0 rfl) ?_
  refine lv_bipush (v := (nI (7))) hx hb dX2_init_13 (by decide) ?_
  refine mk_i hx hb (hts (.arrayClass .int) (by decide +kernel)) hK hP hD hS hA 0 rfl (by decide) (Nat.le_of_ble_eq_true rfl) (Nat.le_of_ble_eq_true rfl) dX2_init_15 (fun q_2 H hP hD hS => ?_)
  have hP : va_P D vwCl ([(m0, .inr (2, [.ref (q_1), .int (nI (0)), .null])), (q_1, .inl (cy 0, 12, .inl (nA (fun _ => 0)))), (q_2, .inl (cy 0, 7, .inl (nA (fun _ => 0))))]) H := hP
  have hD : va_D A ([(m0, .inr (2, [.ref (q_1), .int (nI (0)), .null])), (q_1, .inl (cy 0, 12, .inl (nA (fun _ => 0)))), (q_2, .inl (cy 0, 7, .inl (nA (fun _ => 0))))]) := hD
  refine va_putF (D := D) (ci := 2) (v := .ref (q_2)) (ty := .array .int) (C := RX2) (T := TX2) (N := 3) hx hb hts hinX2 tyX2 tyX2_ok nmX2 hown hK hP hD hS 0 rfl rfl 2 (by decide) (hts (.fieldLink RX2 15 "CornDesk$Form" "row" "[I") (by decide +kernel)) (fun _ h9 => h9) rfl hnm rfl (by decide +kernel) rfl rfl (Nat.le_of_ble_eq_true rfl) dX2_init_17 (fun H locs hP hD hS => ?_)
  have hP : va_P D vwCl ([(m0, .inr (2, [.ref (q_1), .int (nI (0)), .ref (q_2)])), (q_1, .inl (cy 0, 12, .inl (nA (fun _ => 0)))), (q_2, .inl (cy 0, 7, .inl (nA (fun _ => 0))))]) H := hP
  have hD : va_D A ([(m0, .inr (2, [.ref (q_1), .int (nI (0)), .ref (q_2)])), (q_1, .inl (cy 0, 12, .inl (nA (fun _ => 0)))), (q_2, .inl (cy 0, 7, .inl (nA (fun _ => 0))))]) := hD
  exact hret _ _ _ _ _ ⟨q_1, q_2, rfl⟩ hP hD hS dX2_init_20
