theorem min_N {x y : Nat} (hx : x < 2 ^ 31) (hy : y < 2 ^ 31) : (if nI y < nI x then nI y else nI x) = nI (min x y) := by
  rcases Nat.lt_or_ge y x with q | q
  · rw [if_pos (nI_lt q hx), Nat.min_eq_right (by omega)]
  · rw [if_neg (nI_nlt q hy), Nat.min_eq_left q]
theorem max_N {x y : Nat} (hx : x < 2 ^ 31) (hy : y < 2 ^ 31) : (if nI x < nI y then nI y else nI x) = nI (max x y) := by
  rcases Nat.lt_or_ge x y with q | q
  · rw [if_pos (nI_lt q hy), Nat.max_eq_right (by omega)]
  · rw [if_neg (nI_nlt q hx), Nat.max_eq_left q]
theorem cpy_sg {NU : Nat → Int32} {SG : Nat → Nat} {n : Nat} (h : ∀ j, j < n → sgI (NU j)) : va_cpy NU (nA SG) 0 0 n = nA (va_cpy (fun j => tn (NU j)) SG 0 0 n) := by
  funext k
  simp only [va_cpy, nA]
  by_cases q : 0 ≤ k ∧ k < 0 + n
  · rw [if_pos q, if_pos q]
    exact sg_tn (h _ (by omega))
  · rw [if_neg q, if_neg q]
set_option maxHeartbeats 4000000 in
set_option maxRecDepth 100000 in
theorem qX2_becomeS (l : Launch) (D : va_G) (cy : Nat → ClassId) (m0 : Nat) (sA : Nat) (ct : Nat) (rA : Nat) (SG : Nat → Nat) (RO : Nat → Nat) (rw0 : Nat) (RW : Nat → Nat) (n : Nat) (hn : n ≤ 12) : nq_v l D (cT cy) yX2_become wsX2_become 1 0 0 30 [.ref (m0), .ref (rw0), .int (nI (n))] ([(m0, .inr (2, [.ref (sA), .int (nI (ct)), .ref (rA)])), (sA, .inl (cy 0, 12, .inl (nA SG))), (rA, .inl (cy 0, 7, .inl (nA RO))), (rw0, .inl (cy 0, 12, .inl (nA RW)))]) (fun w1 => w1 = [(m0, .inr (2, [.ref (sA), .int (nI (n)), .ref (rA)])), (sA, .inl (cy 0, 12, .inl (nA (va_cpy RW SG 0 0 n)))), (rA, .inl (cy 0, 7, .inl (nA RO))), (rw0, .inl (cy 0, 12, .inl (nA RW)))]) := by
  refine nq_v_of (cc := cX2_become) (maxL := 3) (by decide) rfl (Nat.le_of_ble_eq_true rfl) ?_
  intro p e s m args below meth c A Q ls hx hb hts hown hml hnm hN hA hP hK hD hS hl hret
  have hown : s.vm.findClass RX2 = some m.cls := hown
  have hinX2 : ∀ w ∈ u_ws RX2 TX2 3, w ∈ wsX2_become := by decide +kernel
  have hl : lv_has ls 3 [(0, .ref (m0)), (1, .ref (rw0)), (2, .int (nI (n)))] := hl
  have hP : va_P D vwCl ([(m0, .inr (2, [.ref (sA), .int (nI (ct)), .ref (rA)])), (sA, .inl (cy 0, 12, .inl (nA SG))), (rA, .inl (cy 0, 7, .inl (nA RO))), (rw0, .inl (cy 0, 12, .inl (nA RW)))]) s.heap := hP
  refine lv_aload_n hx hb dX2_become_0 rfl (lv_at hl 0 rfl) ?_
  refine lv_iconst (v := (nI (0))) hx hb dX2_become_1 (by decide) ?_
  refine lv_iload_n hx hb dX2_become_2 rfl (lv_at hl 2 rfl) ?_
  refine lv_bipush (v := (nI (12))) hx hb dX2_become_3 (by decide) ?_
  refine va_mmin hx hb (hml.trans hl.1.symm) hown (hts (.methodLink RX2 31 Lib.Math.min.name) (by decide +kernel)) (hts (.static Lib.Math.min.name) (by decide +kernel)) (hts (.initialized "java/lang/Math") (by decide +kernel)) (hts (.code Lib.Math.min.name Lib.Math.min.code 2 (some .int)) (by decide +kernel)) (Nat.le_of_ble_eq_true rfl) (Nat.le_of_ble_eq_true rfl) (Nat.le_of_ble_eq_true rfl) (Nat.le_of_ble_eq_true rfl) dX2_become_5 ?_
  refine ln_eqi (y := (nI (n))) (by rw [min_N (by omega) (by decide), Nat.min_eq_left hn]) ?_
  refine lv_aload_n hx hb dX2_become_8 rfl (lv_at hl 1 rfl) ?_
  refine va_alen hx hb hK hP 3 0 rfl rfl (v := nI 12) rfl dX2_become_9 ?_
  refine va_mmin hx hb (hml.trans hl.1.symm) hown (hts (.methodLink RX2 31 Lib.Math.min.name) (by decide +kernel)) (hts (.static Lib.Math.min.name) (by decide +kernel)) (hts (.initialized "java/lang/Math") (by decide +kernel)) (hts (.code Lib.Math.min.name Lib.Math.min.code 2 (some .int)) (by decide +kernel)) (Nat.le_of_ble_eq_true rfl) (Nat.le_of_ble_eq_true rfl) (Nat.le_of_ble_eq_true rfl) (Nat.le_of_ble_eq_true rfl) dX2_become_10 ?_
  refine ln_eqi (y := (nI (n))) (by rw [min_N (by omega) (by decide), Nat.min_eq_left (by omega)]) ?_
  refine va_mmax hx hb (hml.trans hl.1.symm) hown (hts (.methodLink RX2 37 Lib.Math.max.name) (by decide +kernel)) (hts (.static Lib.Math.max.name) (by decide +kernel)) (hts (.initialized "java/lang/Math") (by decide +kernel)) (hts (.code Lib.Math.max.name Lib.Math.max.code 2 (some .int)) (by decide +kernel)) (Nat.le_of_ble_eq_true rfl) (Nat.le_of_ble_eq_true rfl) (Nat.le_of_ble_eq_true rfl) (Nat.le_of_ble_eq_true rfl) dX2_become_13 ?_
  refine ln_eqi (y := (nI (n))) (by rw [max_N (by decide) (by omega), Nat.max_eq_right (by omega)]) ?_
  refine va_put (D := D) (ci := 2) (v := .int (nI (n))) (ty := .int) (C := RX2) (T := TX2) (N := 3) hx hb hts hinX2 tyX2 tyX2_ok nmX2 hown hK hP hD hS 0 rfl rfl 1 (by decide) (hts (.fieldLink RX2 18 "CornDesk$Form" "count" "I") (by decide +kernel)) (fun _ h9 => h9) rfl (by decide +kernel) rfl rfl (Nat.le_of_ble_eq_true rfl) dX2_become_16 (fun H locs hP hD hS => ?_)
  have hP : va_P D vwCl ([(m0, .inr (2, [.ref (sA), .int (nI (n)), .ref (rA)])), (sA, .inl (cy 0, 12, .inl (nA SG))), (rA, .inl (cy 0, 7, .inl (nA RO))), (rw0, .inl (cy 0, 12, .inl (nA RW)))]) H := hP
  have hD : va_D A ([(m0, .inr (2, [.ref (sA), .int (nI (n)), .ref (rA)])), (sA, .inl (cy 0, 12, .inl (nA SG))), (rA, .inl (cy 0, 7, .inl (nA RO))), (rw0, .inl (cy 0, 12, .inl (nA RW)))]) := hD
  refine lv_aload_n hx hb dX2_become_19 rfl (lv_at hl 1 rfl) ?_
  refine lv_iconst (v := (nI (0))) hx hb dX2_become_20 (by decide) ?_
  refine lv_aload_n hx hb dX2_become_21 rfl (lv_at hl 0 rfl) ?_
  refine va_get (D := D) (ci := 2) (v := .ref (sA)) (C := RX2) (T := TX2) (N := 3) hx hb hts hinX2 hown hK hP 0 rfl rfl 0 (by decide) (hts (.fieldLink RX2 9 "CornDesk$Form" "signs" "[I") (by decide +kernel)) (fun _ h9 => h9) rfl dX2_become_22 ?_
  refine lv_iconst (v := (nI (0))) hx hb dX2_become_25 (by decide) ?_
  refine lv_aload_n hx hb dX2_become_26 rfl (lv_at hl 0 rfl) ?_
  refine va_get (D := D) (ci := 2) (v := .int (nI (n))) (C := RX2) (T := TX2) (N := 3) hx hb hts hinX2 hown hK hP 0 rfl rfl 1 (by decide) (hts (.fieldLink RX2 18 "CornDesk$Form" "count" "I") (by decide +kernel)) (fun _ h9 => h9) rfl dX2_become_27 ?_
  refine lc_copy hx hb (hml.trans hl.1.symm) hown (hts (.methodLink RX2 25 arraycopyName) (by decide +kernel)) (hts (.native arraycopyName) (by decide +kernel)) (hts (.static arraycopyName) (by decide +kernel)) (hts (.initialized "java/lang/System") (by decide +kernel)) hK hP hD hS 3 1 rfl rfl 0 rfl (by decide) (by decide) (by omega) (by omega) (Nat.le_of_ble_eq_true rfl) (by decide +kernel) dX2_become_30 (fun H locs hP hD hS => ?_)
  rw [cpy_nA] at hP hD
  have hP : va_P D vwCl ([(m0, .inr (2, [.ref (sA), .int (nI (n)), .ref (rA)])), (sA, .inl (cy 0, 12, .inl (nA (va_cpy RW SG 0 0 n)))), (rA, .inl (cy 0, 7, .inl (nA RO))), (rw0, .inl (cy 0, 12, .inl (nA RW)))]) H := hP
  have hD : va_D A ([(m0, .inr (2, [.ref (sA), .int (nI (n)), .ref (rA)])), (sA, .inl (cy 0, 12, .inl (nA (va_cpy RW SG 0 0 n)))), (rA, .inl (cy 0, 7, .inl (nA RO))), (rw0, .inl (cy 0, 12, .inl (nA RW)))]) := hD
  exact hret _ _ _ _ _ rfl hP hD hS dX2_become_33
set_option maxHeartbeats 4000000 in
set_option maxRecDepth 100000 in
theorem qX2_becomeH (l : Launch) (D : va_G) (cy : Nat → ClassId) (m0 : Nat) (sA : Nat) (ct : Nat) (rA : Nat) (SG : Nat → Nat) (RO : Nat → Nat) (nb : Nat) (NU : Nat → Int32) (n : Nat) (hn : n ≤ 12) (hsg : ∀ j, j < n → sgI (NU j)) : nq_v l D (cT cy) yX2_become wsX2_become 1 0 0 30 [.ref (m0), .ref (nb), .int (nI (n))] ([(m0, .inr (2, [.ref (sA), .int (nI (ct)), .ref (rA)])), (sA, .inl (cy 0, 12, .inl (nA SG))), (rA, .inl (cy 0, 7, .inl (nA RO))), (nb, .inl (cy 0, 16, .inl NU))]) (fun w1 => w1 = [(m0, .inr (2, [.ref (sA), .int (nI (n)), .ref (rA)])), (sA, .inl (cy 0, 12, .inl (nA (va_cpy (fun j => tn (NU j)) SG 0 0 n)))), (rA, .inl (cy 0, 7, .inl (nA RO))), (nb, .inl (cy 0, 16, .inl NU))]) := by
  refine nq_v_of (cc := cX2_become) (maxL := 3) (by decide) rfl (Nat.le_of_ble_eq_true rfl) ?_
  intro p e s m args below meth c A Q ls hx hb hts hown hml hnm hN hA hP hK hD hS hl hret
  have hown : s.vm.findClass RX2 = some m.cls := hown
  have hinX2 : ∀ w ∈ u_ws RX2 TX2 3, w ∈ wsX2_become := by decide +kernel
  have hl : lv_has ls 3 [(0, .ref (m0)), (1, .ref (nb)), (2, .int (nI (n)))] := hl
  have hP : va_P D vwCl ([(m0, .inr (2, [.ref (sA), .int (nI (ct)), .ref (rA)])), (sA, .inl (cy 0, 12, .inl (nA SG))), (rA, .inl (cy 0, 7, .inl (nA RO))), (nb, .inl (cy 0, 16, .inl NU))]) s.heap := hP
  refine lv_aload_n hx hb dX2_become_0 rfl (lv_at hl 0 rfl) ?_
  refine lv_iconst (v := (nI (0))) hx hb dX2_become_1 (by decide) ?_
  refine lv_iload_n hx hb dX2_become_2 rfl (lv_at hl 2 rfl) ?_
  refine lv_bipush (v := (nI (12))) hx hb dX2_become_3 (by decide) ?_
  refine va_mmin hx hb (hml.trans hl.1.symm) hown (hts (.methodLink RX2 31 Lib.Math.min.name) (by decide +kernel)) (hts (.static Lib.Math.min.name) (by decide +kernel)) (hts (.initialized "java/lang/Math") (by decide +kernel)) (hts (.code Lib.Math.min.name Lib.Math.min.code 2 (some .int)) (by decide +kernel)) (Nat.le_of_ble_eq_true rfl) (Nat.le_of_ble_eq_true rfl) (Nat.le_of_ble_eq_true rfl) (Nat.le_of_ble_eq_true rfl) dX2_become_5 ?_
  refine ln_eqi (y := (nI (n))) (by rw [min_N (by omega) (by decide), Nat.min_eq_left hn]) ?_
  refine lv_aload_n hx hb dX2_become_8 rfl (lv_at hl 1 rfl) ?_
  refine va_alen hx hb hK hP 3 0 rfl rfl (v := nI 16) rfl dX2_become_9 ?_
  refine va_mmin hx hb (hml.trans hl.1.symm) hown (hts (.methodLink RX2 31 Lib.Math.min.name) (by decide +kernel)) (hts (.static Lib.Math.min.name) (by decide +kernel)) (hts (.initialized "java/lang/Math") (by decide +kernel)) (hts (.code Lib.Math.min.name Lib.Math.min.code 2 (some .int)) (by decide +kernel)) (Nat.le_of_ble_eq_true rfl) (Nat.le_of_ble_eq_true rfl) (Nat.le_of_ble_eq_true rfl) (Nat.le_of_ble_eq_true rfl) dX2_become_10 ?_
  refine ln_eqi (y := (nI (n))) (by rw [min_N (by omega) (by decide), Nat.min_eq_left (by omega)]) ?_
  refine va_mmax hx hb (hml.trans hl.1.symm) hown (hts (.methodLink RX2 37 Lib.Math.max.name) (by decide +kernel)) (hts (.static Lib.Math.max.name) (by decide +kernel)) (hts (.initialized "java/lang/Math") (by decide +kernel)) (hts (.code Lib.Math.max.name Lib.Math.max.code 2 (some .int)) (by decide +kernel)) (Nat.le_of_ble_eq_true rfl) (Nat.le_of_ble_eq_true rfl) (Nat.le_of_ble_eq_true rfl) (Nat.le_of_ble_eq_true rfl) dX2_become_13 ?_
  refine ln_eqi (y := (nI (n))) (by rw [max_N (by decide) (by omega), Nat.max_eq_right (by omega)]) ?_
  refine va_put (D := D) (ci := 2) (v := .int (nI (n))) (ty := .int) (C := RX2) (T := TX2) (N := 3) hx hb hts hinX2 tyX2 tyX2_ok nmX2 hown hK hP hD hS 0 rfl rfl 1 (by decide) (hts (.fieldLink RX2 18 "CornDesk$Form" "count" "I") (by decide +kernel)) (fun _ h9 => h9) rfl (by decide +kernel) rfl rfl (Nat.le_of_ble_eq_true rfl) dX2_become_16 (fun H locs hP hD hS => ?_)
  have hP : va_P D vwCl ([(m0, .inr (2, [.ref (sA), .int (nI (n)), .ref (rA)])), (sA, .inl (cy 0, 12, .inl (nA SG))), (rA, .inl (cy 0, 7, .inl (nA RO))), (nb, .inl (cy 0, 16, .inl NU))]) H := hP
  have hD : va_D A ([(m0, .inr (2, [.ref (sA), .int (nI (n)), .ref (rA)])), (sA, .inl (cy 0, 12, .inl (nA SG))), (rA, .inl (cy 0, 7, .inl (nA RO))), (nb, .inl (cy 0, 16, .inl NU))]) := hD
  refine lv_aload_n hx hb dX2_become_19 rfl (lv_at hl 1 rfl) ?_
  refine lv_iconst (v := (nI (0))) hx hb dX2_become_20 (by decide) ?_
  refine lv_aload_n hx hb dX2_become_21 rfl (lv_at hl 0 rfl) ?_
  refine va_get (D := D) (ci := 2) (v := .ref (sA)) (C := RX2) (T := TX2) (N := 3) hx hb hts hinX2 hown hK hP 0 rfl rfl 0 (by decide) (hts (.fieldLink RX2 9 "CornDesk$Form" "signs" "[I") (by decide +kernel)) (fun _ h9 => h9) rfl dX2_become_22 ?_
  refine lv_iconst (v := (nI (0))) hx hb dX2_become_25 (by decide) ?_
  refine lv_aload_n hx hb dX2_become_26 rfl (lv_at hl 0 rfl) ?_
  refine va_get (D := D) (ci := 2) (v := .int (nI (n))) (C := RX2) (T := TX2) (N := 3) hx hb hts hinX2 hown hK hP 0 rfl rfl 1 (by decide) (hts (.fieldLink RX2 18 "CornDesk$Form" "count" "I") (by decide +kernel)) (fun _ h9 => h9) rfl dX2_become_27 ?_
  refine lc_copy hx hb (hml.trans hl.1.symm) hown (hts (.methodLink RX2 25 arraycopyName) (by decide +kernel)) (hts (.native arraycopyName) (by decide +kernel)) (hts (.static arraycopyName) (by decide +kernel)) (hts (.initialized "java/lang/System") (by decide +kernel)) hK hP hD hS 3 1 rfl rfl 0 rfl (by decide) (by decide) (by omega) (by omega) (Nat.le_of_ble_eq_true rfl) (by decide +kernel) dX2_become_30 (fun H locs hP hD hS => ?_)
  rw [cpy_sg hsg] at hP hD
  have hP : va_P D vwCl ([(m0, .inr (2, [.ref (sA), .int (nI (n)), .ref (rA)])), (sA, .inl (cy 0, 12, .inl (nA (va_cpy (fun j => tn (NU j)) SG 0 0 n)))), (rA, .inl (cy 0, 7, .inl (nA RO))), (nb, .inl (cy 0, 16, .inl NU))]) H := hP
  have hD : va_D A ([(m0, .inr (2, [.ref (sA), .int (nI (n)), .ref (rA)])), (sA, .inl (cy 0, 12, .inl (nA (va_cpy (fun j => tn (NU j)) SG 0 0 n)))), (rA, .inl (cy 0, 7, .inl (nA RO))), (nb, .inl (cy 0, 16, .inl NU))]) := hD
  exact hret _ _ _ _ _ rfl hP hD hS dX2_become_33
