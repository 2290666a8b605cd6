theorem min_N {x y : Nat} (hx : x < 2 ^ 31) (hy : y < 2 ^ 31) : (if nI y < nI x then nI y else nI x) = nI (min x y) := by
  rcases Nat.lt_or_ge y x with q | q
  · rw [if_pos (nI_lt q hx), Nat.min_eq_right (by omega)]
  · rw [if_neg (nI_nlt q hy), Nat.min_eq_left q]
theorem max_N {x y : Nat} (hx : x < 2 ^ 31) (hy : y < 2 ^ 31) : (if nI x < nI y then nI y else nI x) = nI (max x y) := by
  rcases Nat.lt_or_ge x y with q | q
  · rw [if_pos (nI_lt q hy), Nat.max_eq_right (by omega)]
  · rw [if_neg (nI_nlt q hx), Nat.max_eq_left q]
theorem cpy_sg {NU : Nat → Int32} {SG : Nat → Nat} {n : Nat} (h : ∀ j, j < n → sgI (NU j)) : va_cpy NU (nA SG) 0 0 n = nA (va_cpy (fun j => tn (NU j)) SG 0 0 n) := by
  funext k
  simp only [va_cpy, nA]
  by_cases q : 0 ≤ k ∧ k < 0 + n
  · rw [if_pos q, if_pos q]
    exact sg_tn (h _ (by omega))
  · rw [if_neg q, if_neg q]
set_option maxHeartbeats 4000000 in
set_option maxRecDepth 100000 in
theorem qX2_becomeS (l : Launch) (D : va_G) (cy : Nat → ClassId) (m0 : Nat) (sA : Nat) (ct : Nat) (rA : Nat) (SG : Nat → Nat) (RO : Nat → Nat) (rw0 : Nat) (RW : Nat → Nat) (n : Nat) (hn : n ≤ 12) : nq_v l D (cT cy) yX2_become wsX2_become 1 0 0 30 [.ref (m0), .ref (rw0), .int (nI (n))] ([(m0, .inr (2, [.ref (sA), .int (nI (ct)), .ref (rA)])), (sA, .inl (cy 0, 12, .inl (nA SG))), (rA, .inl (cy 0, 7, .inl (nA RO))), (rw0, .inl (cy 0, 12, .inl (nA RW)))]) (fun w1 => w1 = [(m0, .inr (2, [.ref (sA), .int (nI (n)), .ref (rA)])), (sA, .inl (cy 0, 12, .inl (nA (va_cpy RW SG 0 0 n)))), (rA, .inl (cy 0, 7, .inl (nA RO))), (rw0, .inl (cy 0, 12, .inl (nA RW)))]) := by
  refine nq_v_of (cc := cX2_become) (maxL := 3) (by decide) rfl (Nat.le_of_ble_eq_true rfl) ?_
  intro p e s m args below meth c A Q ls hx hb hts hown hml hnm hN hA hP hK hD hS hl hret
  have hown : s.vm.findClass RX2 = some m.cls := hown
  have hinX2 : ∀ w ∈ u_ws RX2 TX2 3, w ∈ wsX2_become := by decide +kernel
  have hl : lv_has ls 3 [(0, .ref (m0)), (1, .ref (rw0)), (2, .int (nI (n)))] := hl
  have hP : va_P D vwCl ([(m0, .inr (2, [.ref (sA), .int (nI (ct)), .ref (rA)])), (sA, .inl (cy 0, 12, .inl (nA SG))), (rA, .inl (cy 0, 7, .inl (nA RO))), (rw0, .inl (cy 0, 12, .inl (nA RW)))]) s.heap := hP
  refine lv_aload_n hx hb dX2_become_0 rfl (lv_at hl 0 rfl) ?_
  refine lv_iconst (v := (nI (0))) hx hb dX2_become_1 (by decide) ?_
  refine lv_iload_n hx hb dX2_become_2 rfl (lv_at hl 2 rfl) ?_
  refine lv_bipush (v := (nI (12))) hx hb dX2_become_3 (by decide) ?_
  refine va_mmin hx hb (hml.trans hl.1.symm) hown (hts (.methodLink RX2 31 Lib.Math.min.name) (by decide +kernel)) (hts (.static Lib.Math.min.name) (by decide +kernel)) (hts (.initialized "java/lang/Math") (by decide +kernel)) (hts (.code Lib.Math.min.name Lib.Math.min.code 2 (some .int)) (by decide +kernel)) (Nat.le_of_ble_eq_true rfl) (Nat.le_of_ble_eq_true rfl) (Nat.le_of_ble_eq_true rfl) (Nat.le_of_ble_eq_true rfl) dX2_become_5 ?_
  refine ln_eqi (y := (nI (n))) (by rw [min_N (by omega) (by decide), Nat.min_eq_left hn]) ?_
  refine lv_aload_n hx hb dX2_become_8 rfl (lv_at hl 1 rfl) ?_
  refine va_alen hx hb hK hP 3 0 rfl rfl (v := nI 12) rfl dX2_become_9 ?_
  refine va_mmin hx hb (hml.trans hl.1.symm) hown (hts (.methodLink RX2 31 Lib.Math.min.name) (by decide +kernel)) (hts (.static Lib.Math.min.name) (by decide +kernel)) (hts (.initialized "java/lang/Math") (by decide +kernel)) (hts (.code Lib.Math.min.name Lib.Math.min.code 2 (some .int)) (by decide +kernel)) (Nat.le_of_ble_eq_true rfl) (Nat.le_of_ble_eq_true rfl) (Nat.le_of_ble_eq_true rfl) (Nat.le_of_ble_eq_true rfl) dX2_become_10 ?_
  refine ln_eqi (y := (nI (n))) (by rw [min_N (by omega) (by decide), Nat.min_eq_left (by omega)]) ?_
  refine va_mmax hx hb (hml.trans hl.1.symm) hown (hts (.methodLink RX2 37 Lib.Math.max.name) (by decide +kernel)) (hts (.static Lib.Math.max.name) (by decide +kernel)) (hts (.initialized "java/lang/Math") (by decide +kernel)) (hts (.code Lib.Math.max.name Lib.Math.max.code 2 (some .int)) (by decide +kernel)) (Nat.le_of_ble_eq_true rfl) (Nat.le_of_ble_eq_true rfl) (Nat.le_of_ble_eq_true rfl) (Nat.le_of_ble_eq_true rfl) dX2_become_13 ?_
  refine ln_eqi (y := (nI (n))) (by rw [max_N (by decide) (by omega), Nat.max_eq_right (by omega)]) ?_
  refine va_put (D := D) (ci := 2) (v := .int (nI (n))) (ty := .int) (C := RX2) (T := TX2) (N := 3) hx hb hts hinX2 tyX2 tyX2_ok nmX2 hown hK hP hD hS 0 rfl rfl 1 (by decide) (hts (.fieldLink RX2 18 "CornDesk$Form" "count" "I") (by decide +kernel)) (fun _ h9 => h9) rfl (by decide +kernel) rfl rfl (Nat.le_of_ble_eq_true rfl) dX2_become_16 (fun H locs hP hD hS => ?_)
  have hP : va_P D vwCl ([(m0, .inr (2, [.ref (sA), .int (nI (n)), .ref (rA)])), (sA, .inl (cy 0, 12, .inl (nA SG))), (rA, .inl (cy 0, 7, .inl (nA RO))), (rw0, .inl (cy 0, 12, .inl (nA RW)))]) H := hP
  have hD : va_D A ([(m0, .inr (2, [.ref (sA), .int (nI (n)), .ref (rA)])), (sA, .inl (cy 0, 12, .inl (nA SG))), (rA, .inl (cy 0, 7, .inl (nA RO))), (rw0, .inl (cy 0, 12, .inl (nA RW)))]) := hD
  refine lv_aload_n hx hb dX2_become_19 rfl (lv_at hl 1 rfl) ?_
  refine lv_iconst (v := (nI (0))) hx hb dX2_become_20 (by decide) ?_
  refine lv_aload_n hx hb dX2_become_21 rfl (lv_at hl 0 rfl) ?_
  refine va_get (D := D) (ci := 2) (v := .ref (sA)) (C := RX2) (T := TX2) (N := 3) hx hb hts hinX2 hown hK hP 0 rfl rfl 0 (by decide) (hts (.fieldLink RX2 9 "CornDesk$Form" "signs" "[I") (by decide +kernel)) (fun _ h9 => h9) rfl dX2_become_22 ?_
  refine lv_iconst (v := (nI (0))) hx hb dX2_become_25 (by decide) ?_
  refine lv_aload_n hx hb dX2_become_26 rfl (lv_at hl 0 rfl) ?_
  refine va_get (D := D) (ci := 2) (v := .int (nI (n))) (C := RX2) (T := TX2) (N := 3) hx hb hts hinX2 hown hK hP 0 rfl rfl 1 (by decide) (hts (.fieldLink RX2 18 "CornDesk$Form" "count" "I") (by decide +kernel)) (fun _ h9 => h9) rfl dX2_become_27 ?_
  refine lc_copy hx hb (hml.trans hl.1.symm) hown (hts (.methodLink RX2 25 arraycopyName) (by decide +kernel)) (hts (.native arraycopyName) (by decide +kernel)) (hts (.static arraycopyName) (by decide +kernel)) (hts (.initialized "java/lang/System") (by decide +kernel)) hK hP hD hS 3 1 rfl rfl 0 rfl (by decide) (by decide) (by omega) (by omega) (Nat.le_of_ble_eq_true rfl) (by decide +kernel) dX2_become_30 (fun H locs hP hD hS => ?_)
  rw [cpy_nA] at hP hD
  have hP : va_P D vwCl ([(m0, .inr (2, [.ref (sA), .int (nI (n)), .ref (rA)])), (sA, .inl (cy 0, 12, .inl (nA (va_cpy RW SG 0 0 n)))), (rA, .inl (cy 0, 7, .inl (nA RO))), (rw0, .inl (cy 0, 12, .inl (nA RW)))]) H := hP
  have hD : va_D A ([(m0, .inr (2, [.ref (sA), .int (nI (n)), .ref (rA)])), (sA, .inl (cy 0, 12, .inl (nA (va_cpy RW SG 0 0 n)))), (rA, .inl (cy 0, 7, .inl (nA RO))), (rw0, .inl (cy 0, 12, .inl (nA RW)))]) := hD
  exact hret _ _ _ _ _ rfl hP hD hS dX2_become_33
set_option maxHeartbeats 4000000 in
set_option maxRecDepth 100000 in
theorem qX2_becomeH (l : Launch) (D : va_G) (cy : Nat → ClassId) (m0 : Nat) (sA : Nat) (ct : Nat) (rA : Nat) (SG : Nat → Nat) (RO : Nat → Nat) (nb : Nat) (NU : Nat → Int32) (n : Nat) (hn : n ≤ 12) (hsg : ∀ j, j < n → sgI (NU j)) : nq_v l D (cT cy) yX2_become wsX2_become 1 0 0 30 [.ref (m0), .ref (nb), .int (nI (n))] ([(m0, .inr (2, [.ref (sA), .int (nI (ct)), .ref (rA)])), (sA, .inl (cy 0, 12, .inl (nA SG))), (rA, .inl (cy 0, 7, .inl (nA RO))), (nb, .inl (cy 0, 16, .inl NU))]) (fun w1 => w1 = [(m0, .inr (2, [.ref (sA), .int (nI (n)), .ref (rA)])), (sA, .inl (cy 0, 12, .inl (nA (va_cpy (fun j => tn (NU j)) SG 0 0 n)))), (rA, .inl (cy 0, 7, .inl (nA RO))), (nb, .inl (cy 0, 16, .inl NU))]) := by
  refine nq_v_of (cc := cX2_become) (maxL := 3) (by decide) rfl (Nat.le_of_ble_eq_true rfl) ?_
  intro p e s m args below meth c A Q ls hx hb hts hown hml hnm hN hA hP hK hD hS hl hret
  have hown : s.vm.findClass RX2 = some m.cls := hown
  have hinX2 : ∀ w ∈ u_ws RX2 TX2 3, w ∈ wsX2_become := by decide +kernel
  have hl : lv_has ls 3 [(0, .ref (m0)), (1, .ref (nb)), (2, .int (nI (n)))] := hl
  have hP : va_P D vwCl ([(m0, .inr (2, [.ref (sA), .int (nI (ct)), .ref (rA)])), (sA, .inl (cy 0, 12, .inl (nA SG))), (rA, .inl (cy 0, 7, .inl (nA RO))), (nb, .inl (cy 0, 16, .inl NU))]) s.heap := hP
  refine lv_aload_n hx hb dX2_become_0 rfl (lv_at hl 0 rfl) ?_
  refine lv_iconst (v := (nI (0))) hx hb dX2_become_1 (by decide) ?_
  refine lv_iload_n hx hb dX2_become_2 rfl (lv_at hl 2 rfl) ?_
  refine lv_bipush (v := (nI (12))) hx hb dX2_become_3 (by decide) ?_
  refine va_mmin hx hb (hml.trans hl.1.symm) hown (hts (.methodLink RX2 31 Lib.Math.min.name) (by decide +kernel)) (hts (.static Lib.Math.min.name) (by decide +kernel)) (hts (.initialized "java/lang/Math") (by decide +kernel)) (hts (.code Lib.Math.min.name Lib.Math.min.code 2 (some .int)) (by decide +kernel)) (Nat.le_of_ble_eq_true rfl) (Nat.le_of_ble_eq_true rfl) (Nat.le_of_ble_eq_true rfl) (Nat.le_of_ble_eq_true rfl) dX2_become_5 ?_
  refine ln_eqi (y := (nI (n))) (by rw [min_N (by omega) (by decide), Nat.min_eq_left hn]) ?_
  refine lv_aload_n hx hb dX2_become_8 rfl (lv_at hl 1 rfl) ?_
  refine va_alen hx hb hK hP 3 0 rfl rfl (v := nI 16) rfl dX2_become_9 ?_
  refine va_mmin hx hb (hml.trans hl.1.symm) hown (hts (.methodLink RX2 31 Lib.Math.min.name) (by decide +kernel)) (hts (.static Lib.Math.min.name) (by decide +kernel)) (hts (.initialized "java/lang/Math") (by decide +kernel)) (hts (.code Lib.Math.min.name Lib.Math.min.code 2 (some .int)) (by decide +kernel)) (Nat.le_of_ble_eq_true rfl) (Nat.le_of_ble_eq_true rfl) (Nat.le_of_ble_eq_true rfl) (Nat.le_of_ble_eq_true rfl) dX2_become_10 ?_
  refine ln_eqi (y := (nI (n))) (by rw [min_N (by omega) (by decide), Nat.min_eq_left (by omega)]) ?_
  refine va_mmax hx hb (hml.trans hl.1.symm) hown (hts (.methodLink RX2 37 Lib.Math.max.name) (by decide +kernel)) (hts (.static Lib.Math.max.name) (by decide +kernel)) (hts (.initialized "java/lang/Math") (by decide +kernel)) (hts (.code Lib.Math.max.name Lib.Math.max.code 2 (some .int)) (by decide +kernel)) (Nat.le_of_ble_eq_true rfl) (Nat.le_of_ble_eq_true rfl) (Nat.le_of_ble_eq_true rfl) (Nat.le_of_ble_eq_true rfl) dX2_become_13 ?_
  refine ln_eqi (y := (nI (n))) (by rw [max_N (by decide) (by omega), Nat.max_eq_right (by omega)]) ?_
  refine va_put (D := D) (ci := 2) (v := .int (nI (n))) (ty := .int) (C := RX2) (T := TX2) (N := 3) hx hb hts hinX2 tyX2 tyX2_ok nmX2 hown hK hP hD hS 0 rfl rfl 1 (by decide) (hts (.fieldLink RX2 18 "CornDesk$Form" "count" "I") (by decide +kernel)) (fun _ h9 => h9) rfl (by decide +kernel) rfl rfl (Nat.le_of_ble_eq_true rfl) dX2_become_16 (fun H locs hP hD hS => ?_)
  have hP : va_P D vwCl ([(m0, .inr (2, [.ref (sA), .int (nI (n)), .ref (rA)])), (sA, .inl (cy 0, 12, .inl (nA SG))), (rA, .inl (cy 0, 7, .inl (nA RO))), (nb, .inl (cy 0, 16, .inl NU))]) H := hP
  have hD : va_D A ([(m0, .inr (2, [.ref (sA), .int (nI (n)), .ref (rA)])), (sA, .inl (cy 0, 12, .inl (nA SG))), (rA, .inl (cy 0, 7, .inl (nA RO))), (nb, .inl (cy 0, 16, .inl NU))]) := hD
  refine lv_aload_n hx hb dX2_become_19 rfl (lv_at hl 1 rfl) ?_
  refine lv_iconst (v := (nI (0))) hx hb dX2_become_20 (by decide) ?_
  refine lv_aload_n hx hb dX2_become_21 rfl (lv_at hl 0 rfl) ?_
  refine va_get (D := D) (ci := 2) (v := .ref (sA)) (C := RX2) (T := TX2) (N := 3) hx hb hts hinX2 hown hK hP 0 rfl rfl 0 (by decide) (hts (.fieldLink RX2 9 "CornDesk$Form" "signs" "[I") (by decide +kernel)) (fun _ h9 => h9) rfl dX2_become_22 ?_
  refine lv_iconst (v := (nI (0))) hx hb dX2_become_25 (by decide) ?_
  refine lv_aload_n hx hb dX2_become_26 rfl (lv_at hl 0 rfl) ?_
  refine va_get (D := D) (ci := 2) (v := .int (nI (n))) (C := RX2) (T := TX2) (N := 3) hx hb hts hinX2 hown hK hP 0 rfl rfl 1 (by decide) (hts (.fieldLink RX2 18 "CornDesk$Form" "count" "I") (by decide +kernel)) (fun _ h9 => h9) rfl dX2_become_27 ?_
  refine lc_copy hx hb (hml.trans hl.1.symm) hown (hts (.methodLink RX2 25 arraycopyName) (by decide +kernel)) (hts (.native arraycopyName) (by decide +kernel)) (hts (.static arraycopyName) (by decide +kernel)) (hts (.initialized "java/lang/System") (by decide +kernel)) hK hP hD hS 3 1 rfl rfl 0 rfl (by decide) (by decide) (by omega) (by omega) (Nat.le_of_ble_eq_true rfl) (by decide +kernel) dX2_become_30 (fun H locs hP hD hS => ?_)
  rw [cpy_sg hsg] at hP hD
  have hP : va_P D vwCl ([(m0, .inr (2, [.ref (sA), .int (nI (n)), .ref (rA)])), (sA, .inl (cy 0, 12, .inl (nA (va_cpy (fun j => tn (NU j)) SG 0 0 n)))), (rA, .inl (cy 0, 7, .inl (nA RO))), (nb, .inl (cy 0, 16, .inl NU))]) H := hP
  have hD : va_D A ([(m0, .inr (2, [.ref (sA), .int (nI (n)), .ref (rA)])), (sA, .inl (cy 0, 12, .inl (nA (va_cpy (fun j => tn (NU j)) SG 0 0 n)))), (rA, .inl (cy 0, 7, .inl (nA RO))), (nb, .inl (cy 0, 16, .inl NU))]) := hD
  exact hret _ _ _ _ _ rfl hP hD hS dX2_become_33
theorem rdV_b {fc : Nat → Nat} {v x y : Nat} (hv : v ≤ 24) (hf : v < 10 → fc v ≤ 1000) : rdV fc v x y ≤ 1000 := by
  unfold rdV
  split
  · exact hf (by assumption)
  · split
    · omega
    · split
      · split <;> omega
      · split
        · split <;> omega
        · split
          · split <;> omega
          · split
            · split <;> omega
            · split <;> omega
set_option maxHeartbeats 4000000 in
set_option maxRecDepth 100000 in
theorem qX2_holds (l : Launch) (D : va_G) (cy : Nat → ClassId) (m0 : Nat) (sA : Nat) (ct : Nat) (rA : Nat) (SG : Nat → Nat) (RO : Nat → Nat) (fA : Nat) (FA : Nat → Nat)  (hc : ct ≤ 12) (hsg : ∀ k, k < ct → sg (SG k)) (hw0 : wrGo SG ct ct 0 0 = -1) (hRO : ∀ j, j < 7 → RO j ≤ 1000) (hFA : ∀ j, j < 10 → FA j ≤ 1000) : nq_i l D (cT cy) yX2_holds wsX2_holds 2 0 0 45 [.ref (m0), .ref (fA)] ([(m0, .inr (2, [.ref (sA), .int (nI (ct)), .ref (rA)])), (sA, .inl (cy 0, 12, .inl (nA SG))), (rA, .inl (cy 0, 7, .inl (nA RO))), (fA, .inl (cy 0, 4, .inl (nA FA)))]) (fun r w1 => ∃ (rr : Nat → Nat) (d : Nat), exS (fun u => FA (u - 1)) SG RO ct = (rr, d) ∧ r = bI (rr 0 ≠ 0) ∧ w1 = [(m0, .inr (2, [.ref (sA), .int (nI (ct)), .ref (rA)])), (sA, .inl (cy 0, 12, .inl (nA SG))), (rA, .inl (cy 0, 7, .inl (nA rr))), (fA, .inl (cy 0, 4, .inl (nA FA)))]) := by
  refine nq_z_of (cc := cX2_holds) (maxL := 5) (by decide) rfl (Nat.le_of_ble_eq_true rfl) ?_
  intro p e s m args below meth c A Q ls hx hb hts hown hml hnm hN hA hP hK hD hS hl hret
  have hown : s.vm.findClass RX2 = some m.cls := hown
  have hinX2 : ∀ w ∈ u_ws RX2 TX2 3, w ∈ wsX2_holds := by decide +kernel
  have hl : lv_has ls 5 [(0, .ref (m0)), (1, .ref (fA))] := hl
  have hP : va_P D vwCl ([(m0, .inr (2, [.ref (sA), .int (nI (ct)), .ref (rA)])), (sA, .inl (cy 0, 12, .inl (nA SG))), (rA, .inl (cy 0, 7, .inl (nA RO))), (fA, .inl (cy 0, 4, .inl (nA FA)))]) s.heap := hP
  refine lv_iconst (v := (nI (0))) hx hb dX2_holds_0 (by decide) ?_
  refine lv_istore_n (lv' := [(2, .int (nI (0))), (0, .ref (m0)), (1, .ref (fA))]) hx hb dX2_holds_1 rfl hl (by decide) rfl (fun ls hl => ?_)
  refine lv_iconst (v := (nI (0))) hx hb dX2_holds_2 (by decide) ?_
  refine lv_istore_n (lv' := [(3, .int (nI (0))), (2, .int (nI (0))), (0, .ref (m0)), (1, .ref (fA))]) hx hb dX2_holds_3 rfl hl (by decide) rfl (fun ls hl => ?_)
  have lp : ∀ (i : Nat) (k : Nat) (d : Nat) (rr : Nat → Nat), (k + i = ct) → (wrGo SG ct i k d = -1) → (exS (fun u => FA (u - 1)) SG RO k = (rr, d)) → (∀ j, j < 7 → rr j ≤ 1000) → ∀ (H : Heap) (locs : List Loc) (ls : Array Slot), va_P D vwCl ([(m0, .inr (2, [.ref (sA), .int (nI (ct)), .ref (rA)])), (sA, .inl (cy 0, 12, .inl (nA SG))), (rA, .inl (cy 0, 7, .inl (nA rr))), (fA, .inl (cy 0, 4, .inl (nA FA)))]) H → va_D A ([(m0, .inr (2, [.ref (sA), .int (nI (ct)), .ref (rA)])), (sA, .inl (cy 0, 12, .inl (nA SG))), (rA, .inl (cy 0, 7, .inl (nA rr))), (fA, .inl (cy 0, 4, .inl (nA FA)))]) → va_S A s.heap H locs → lv_has ls 5 [(3, .int (nI (k))), (2, .int (nI (d))), (0, .ref (m0)), (1, .ref (fA))] → W p l e (mq_R 2 0 0 45) s m args below meth c H locs 0 0 Q (F0 m 4 ls []) := by
    intro i
    induction i with
    | zero =>
      intro k d rr hk hw hex hrb H locs ls hP hD hS hl
      refine lv_iload_n hx hb dX2_holds_4 rfl (lv_at hl 0 rfl) ?_
      refine lv_aload_n hx hb dX2_holds_5 rfl (lv_at hl 2 rfl) ?_
      refine va_get (D := D) (ci := 2) (v := .int (nI (ct))) (C := RX2) (T := TX2) (N := 3) hx hb hts hinX2 hown hK hP 0 rfl rfl 1 (by decide) (hts (.fieldLink RX2 18 "CornDesk$Form" "count" "I") (by decide +kernel)) (fun _ h9 => h9) rfl dX2_holds_6 ?_
      refine ln_icmp_ge (tgt := 83) hx hb dX2_holds_9 (by decide) (by omega) (by omega) (fun c1 => ?_) (fun c1 => ?_)
      · have hd1 := wrGo_e1 hw (by omega)
        have h9 := hrb 0 (by omega)
        have hex9 : exS (fun u => FA (u - 1)) SG RO ct = (rr, d) := by rw [show ct = k by omega]; exact hex
        refine lv_iload_n hx hb dX2_holds_83 rfl (lv_at hl 1 rfl) ?_
        refine lv_iconst (v := (nI (1))) hx hb dX2_holds_84 (by decide) ?_
        refine ln_icmp_ne (tgt := 101) hx hb dX2_holds_85 (by decide) (by omega) (by omega) (fun c2 => ?_) (fun c2 => ?_)
        · exact absurd hd1 c2
        · refine lv_aload_n hx hb dX2_holds_88 rfl (lv_at hl 2 rfl) ?_
          refine va_get (D := D) (ci := 2) (v := .ref (rA)) (C := RX2) (T := TX2) (N := 3) hx hb hts hinX2 hown hK hP 0 rfl rfl 2 (by decide) (hts (.fieldLink RX2 15 "CornDesk$Form" "row" "[I") (by decide +kernel)) (fun _ h9 => h9) rfl dX2_holds_89 ?_
          refine lv_iconst (v := (nI (0))) hx hb dX2_holds_92 (by decide) ?_
          refine ln_iald hx hb hK hP 2 0 rfl rfl (by decide) (by omega) dX2_holds_93 ?_
          refine ln_if_eq (tgt := 101) hx hb dX2_holds_94 (by decide) (by omega) (fun c3 => ?_) (fun c3 => ?_)
          · refine lv_iconst (v := (nI (0))) hx hb dX2_holds_101 (by decide) ?_
            exact hret _ _ _ _ _ _ rfl ⟨rr, d, hex9, bI_f' (by omega), rfl⟩ hP hD hS dX2_holds_102
          · refine lv_iconst (v := (nI (1))) hx hb dX2_holds_97 (by decide) ?_
            refine lv_goto (tgt := 102) hx hb dX2_holds_98 (by decide) ?_
            exact hret _ _ _ _ _ _ rfl ⟨rr, d, hex9, bI_t' (by omega), rfl⟩ hP hD hS dX2_holds_102
      · exact absurd hk (by omega)
    | succ i ih =>
      intro k d rr hk hw hex hrb H locs ls hP hD hS hl
      refine lv_iload_n hx hb dX2_holds_4 rfl (lv_at hl 0 rfl) ?_
      refine lv_aload_n hx hb dX2_holds_5 rfl (lv_at hl 2 rfl) ?_
      refine va_get (D := D) (ci := 2) (v := .int (nI (ct))) (C := RX2) (T := TX2) (N := 3) hx hb hts hinX2 hown hK hP 0 rfl rfl 1 (by decide) (hts (.fieldLink RX2 18 "CornDesk$Form" "count" "I") (by decide +kernel)) (fun _ h9 => h9) rfl dX2_holds_6 ?_
      refine ln_icmp_ge (tgt := 83) hx hb dX2_holds_9 (by decide) (by omega) (by omega) (fun c1 => ?_) (fun c1 => ?_)
      · exact absurd hk (by omega)
      · have hs := hsg k (by omega)
        obtain ⟨⟨ht1, ht2⟩, hw2⟩ := wrGo_m1 hw (by omega)
        have hsv : SG k ≤ 24 := by omega
        have hr1 := hrb (d - tk (SG k)) (by omega)
        have hr2 := hrb (d - tk (SG k) + 1) (by omega)
        have hrd : rdV (fun u => FA (u - 1)) (SG k) (rr (d - tk (SG k))) (rr (d - tk (SG k) + 1)) ≤ 1000 := rdV_b hsv (fun q => hFA _ (by omega))
        refine lv_iload_n hx hb dX2_holds_12 rfl (lv_at hl 1 rfl) ?_
        refine lv_aload_n hx hb dX2_holds_13 rfl (lv_at hl 2 rfl) ?_
        refine va_get (D := D) (ci := 2) (v := .ref (sA)) (C := RX2) (T := TX2) (N := 3) hx hb hts hinX2 hown hK hP 0 rfl rfl 0 (by decide) (hts (.fieldLink RX2 9 "CornDesk$Form" "signs" "[I") (by decide +kernel)) (fun _ h9 => h9) rfl dX2_holds_14 ?_
        refine lv_iload_n hx hb dX2_holds_17 rfl (lv_at hl 0 rfl) ?_
        refine ln_iald hx hb hK hP 1 0 rfl rfl (by decide) (by omega) dX2_holds_18 ?_
        refine nq_Si (As := [.int (nI (SG (k)))]) (rest := [.int (nI (d))]) (w := []) (wr := [(m0, .inr (2, [.ref (sA), .int (nI (ct)), .ref (rA)])), (sA, .inl (cy 0, 12, .inl (nA SG))), (rA, .inl (cy 0, 7, .inl (nA rr))), (fA, .inl (cy 0, 4, .inl (nA FA)))]) ⟨hx, hb, hml, hown, hts⟩ (qX2_taken l D cy  (SG (k)) hsv) (cwS 1 hts gX2_holds_X2_taken rfl rfl rfl (by decide +kernel) ⟨Nat.le_of_ble_eq_true rfl, Nat.le_of_ble_eq_true rfl⟩) hP hK hD hN hS hA rfl hl.1 rfl (Nat.le_of_ble_eq_true rfl) dX2_holds_19 ⟨Nat.le_of_ble_eq_true rfl, Nat.le_of_ble_eq_true rfl⟩ (fun r w1 H locs hq hP hD hS => ?_)
        obtain ⟨rfl, rfl⟩ := hq
        have hP : va_P D vwCl ([(m0, .inr (2, [.ref (sA), .int (nI (ct)), .ref (rA)])), (sA, .inl (cy 0, 12, .inl (nA SG))), (rA, .inl (cy 0, 7, .inl (nA rr))), (fA, .inl (cy 0, 4, .inl (nA FA)))]) H := hP
        have hD : va_D A ([(m0, .inr (2, [.ref (sA), .int (nI (ct)), .ref (rA)])), (sA, .inl (cy 0, 12, .inl (nA SG))), (rA, .inl (cy 0, 7, .inl (nA rr))), (fA, .inl (cy 0, 4, .inl (nA FA)))]) := hD
        refine ln_isub hx hb dX2_holds_22 (by omega) ?_
        refine lv_istore (lv' := [(4, .int (nI ((d) - (tk (SG (k)))))), (3, .int (nI (k))), (2, .int (nI (d))), (0, .ref (m0)), (1, .ref (fA))]) hx hb dX2_holds_23 hl (by decide) rfl (fun ls hl => ?_)
        refine lv_iload hx hb dX2_holds_25 (lv_at hl 0 rfl) ?_
        refine lv_if_lt (tgt := 37) hx hb dX2_holds_27 (by decide) (fun cc => absurd cc (nI_pos (by omega))) (fun _ => ?_)
        refine lv_iload hx hb dX2_holds_30 (lv_at hl 0 rfl) ?_
        refine lv_bipush (v := (nI (6))) hx hb dX2_holds_32 (by decide) ?_
        refine ln_icmp_lt (tgt := 39) hx hb dX2_holds_34 (by decide) (by omega) (by omega) (fun c2 => ?_) (fun c2 => ?_)
        · refine lv_aload_n hx hb dX2_holds_39 rfl (lv_at hl 3 rfl) ?_
          refine va_get (D := D) (ci := 2) (v := .ref (rA)) (C := RX2) (T := TX2) (N := 3) hx hb hts hinX2 hown hK hP 0 rfl rfl 2 (by decide) (hts (.fieldLink RX2 15 "CornDesk$Form" "row" "[I") (by decide +kernel)) (fun _ h9 => h9) rfl dX2_holds_40 ?_
          refine lv_iload hx hb dX2_holds_43 (lv_at hl 0 rfl) ?_
          refine lv_aload_n hx hb dX2_holds_45 rfl (lv_at hl 3 rfl) ?_
          refine va_get (D := D) (ci := 2) (v := .ref (sA)) (C := RX2) (T := TX2) (N := 3) hx hb hts hinX2 hown hK hP 0 rfl rfl 0 (by decide) (hts (.fieldLink RX2 9 "CornDesk$Form" "signs" "[I") (by decide +kernel)) (fun _ h9 => h9) rfl dX2_holds_46 ?_
          refine lv_iload_n hx hb dX2_holds_49 rfl (lv_at hl 1 rfl) ?_
          refine ln_iald hx hb hK hP 1 0 rfl rfl (by decide) (by omega) dX2_holds_50 ?_
          refine lv_aload_n hx hb dX2_holds_51 rfl (lv_at hl 3 rfl) ?_
          refine va_get (D := D) (ci := 2) (v := .ref (rA)) (C := RX2) (T := TX2) (N := 3) hx hb hts hinX2 hown hK hP 0 rfl rfl 2 (by decide) (hts (.fieldLink RX2 15 "CornDesk$Form" "row" "[I") (by decide +kernel)) (fun _ h9 => h9) rfl dX2_holds_52 ?_
          refine lv_iload hx hb dX2_holds_55 (lv_at hl 0 rfl) ?_
          refine ln_iald hx hb hK hP 2 0 rfl rfl (by decide) (by omega) dX2_holds_57 ?_
          refine lv_aload_n hx hb dX2_holds_58 rfl (lv_at hl 3 rfl) ?_
          refine va_get (D := D) (ci := 2) (v := .ref (rA)) (C := RX2) (T := TX2) (N := 3) hx hb hts hinX2 hown hK hP 0 rfl rfl 2 (by decide) (hts (.fieldLink RX2 15 "CornDesk$Form" "row" "[I") (by decide +kernel)) (fun _ h9 => h9) rfl dX2_holds_59 ?_
          refine lv_iload hx hb dX2_holds_62 (lv_at hl 0 rfl) ?_
          refine lv_iconst (v := (nI (1))) hx hb dX2_holds_64 (by decide) ?_
          refine ln_iadd hx hb dX2_holds_65 ?_
          refine ln_iald hx hb hK hP 2 0 rfl rfl (by decide) (by omega) dX2_holds_66 ?_
          refine lv_aload_n hx hb dX2_holds_67 rfl (lv_at hl 4 rfl) ?_
          have hP := hP.sub (ws' := [(fA, .inl (cy 0, 4, .inl (nA FA))), (m0, .inr (2, [.ref (sA), .int (nI (ct)), .ref (rA)])), (sA, .inl (cy 0, 12, .inl (nA SG))), (rA, .inl (cy 0, 7, .inl (nA rr)))]) [3, 0, 1, 2] rfl
          have hD := hD.sub (ws' := [(fA, .inl (cy 0, 4, .inl (nA FA))), (m0, .inr (2, [.ref (sA), .int (nI (ct)), .ref (rA)])), (sA, .inl (cy 0, 12, .inl (nA SG))), (rA, .inl (cy 0, 7, .inl (nA rr)))]) [3, 0, 1, 2] (by decide) rfl
          refine nq_Si (As := [.int (nI (SG (k))), .int (nI (rr ((d) - (tk (SG (k)))))), .int (nI (rr ((d) - (tk (SG (k))) + 1))), .ref (fA)]) (rest := [.int (nI ((d) - (tk (SG (k))))), .ref (rA)]) (w := [(fA, .inl (cy 0, 4, .inl (nA FA)))]) (wr := [(m0, .inr (2, [.ref (sA), .int (nI (ct)), .ref (rA)])), (sA, .inl (cy 0, 12, .inl (nA SG))), (rA, .inl (cy 0, 7, .inl (nA rr)))]) ⟨hx, hb, hml, hown, hts⟩ (qX2_read l D cy fA FA (SG (k)) (rr ((d) - (tk (SG (k))))) (rr ((d) - (tk (SG (k))) + 1)) hs (by omega) (by omega)) (cwS 4 hts gX2_holds_X2_read rfl rfl rfl (by decide +kernel) ⟨Nat.le_of_ble_eq_true rfl, Nat.le_of_ble_eq_true rfl⟩) hP hK hD hN hS hA rfl hl.1 rfl (Nat.le_of_ble_eq_true rfl) dX2_holds_68 ⟨Nat.le_of_ble_eq_true rfl, Nat.le_of_ble_eq_true rfl⟩ (fun r w1 H locs hq hP hD hS => ?_)
          obtain ⟨rfl, rfl⟩ := hq
          have hP : va_P D vwCl ([(fA, .inl (cy 0, 4, .inl (nA FA))), (m0, .inr (2, [.ref (sA), .int (nI (ct)), .ref (rA)])), (sA, .inl (cy 0, 12, .inl (nA SG))), (rA, .inl (cy 0, 7, .inl (nA rr)))]) H := hP
          have hD : va_D A ([(fA, .inl (cy 0, 4, .inl (nA FA))), (m0, .inr (2, [.ref (sA), .int (nI (ct)), .ref (rA)])), (sA, .inl (cy 0, 12, .inl (nA SG))), (rA, .inl (cy 0, 7, .inl (nA rr)))]) := hD
          have hP := hP.sub (ws' := [(m0, .inr (2, [.ref (sA), .int (nI (ct)), .ref (rA)])), (sA, .inl (cy 0, 12, .inl (nA SG))), (rA, .inl (cy 0, 7, .inl (nA rr))), (fA, .inl (cy 0, 4, .inl (nA FA)))]) [1, 2, 3, 0] rfl
          have hD := hD.sub (ws' := [(m0, .inr (2, [.ref (sA), .int (nI (ct)), .ref (rA)])), (sA, .inl (cy 0, 12, .inl (nA SG))), (rA, .inl (cy 0, 7, .inl (nA rr))), (fA, .inl (cy 0, 4, .inl (nA FA)))]) [1, 2, 3, 0] (by decide) rfl
          refine ln_iastN hx hb hK hP hD hS 2 0 rfl rfl (by decide) (by omega) dX2_holds_71 (fun H locs hP hD hS => ?_)
          have hP : va_P D vwCl ([(m0, .inr (2, [.ref (sA), .int (nI (ct)), .ref (rA)])), (sA, .inl (cy 0, 12, .inl (nA SG))), (rA, .inl (cy 0, 7, .inl (nA (upN rr ((d) - (tk (SG (k)))) (rdV (fun u => FA (u - 1)) (SG (k)) (rr ((d) - (tk (SG (k))))) (rr ((d) - (tk (SG (k))) + 1))))))), (fA, .inl (cy 0, 4, .inl (nA FA)))]) H := hP
          have hD : va_D A ([(m0, .inr (2, [.ref (sA), .int (nI (ct)), .ref (rA)])), (sA, .inl (cy 0, 12, .inl (nA SG))), (rA, .inl (cy 0, 7, .inl (nA (upN rr ((d) - (tk (SG (k)))) (rdV (fun u => FA (u - 1)) (SG (k)) (rr ((d) - (tk (SG (k))))) (rr ((d) - (tk (SG (k))) + 1))))))), (fA, .inl (cy 0, 4, .inl (nA FA)))]) := hD
          refine lv_iload hx hb dX2_holds_72 (lv_at hl 0 rfl) ?_
          refine lv_iconst (v := (nI (1))) hx hb dX2_holds_74 (by decide) ?_
          refine ln_iadd hx hb dX2_holds_75 ?_
          refine lv_istore_n (lv' := [(2, .int (nI ((d) - (tk (SG (k))) + 1))), (4, .int (nI ((d) - (tk (SG (k)))))), (3, .int (nI (k))), (0, .ref (m0)), (1, .ref (fA))]) hx hb dX2_holds_76 rfl hl (by decide) rfl (fun ls hl => ?_)
          refine lv_iinc (v := (nI (k + 1))) (lv' := [(3, .int (nI (k + 1))), (2, .int (nI ((d) - (tk (SG (k))) + 1))), (4, .int (nI ((d) - (tk (SG (k)))))), (0, .ref (m0)), (1, .ref (fA))]) hx hb dX2_holds_77 hl (k := 2) rfl (by rw [show (Int32.ofInt 1) = nI 1 from rfl, nI_add]) (by decide) rfl (fun ls hl => ?_)
          refine lv_goto (tgt := 4) hx hb dX2_holds_80 (by decide) ?_
          exact ih (k + 1) (d - tk (SG k) + 1) (upN rr ((d) - (tk (SG (k)))) (rdV (fun u => FA (u - 1)) (SG (k)) (rr ((d) - (tk (SG (k))))) (rr ((d) - (tk (SG (k))) + 1)))) (by omega) (hw2) (by rw [exS_s hex rfl]) (fun j hj => by simp only [upN]; split; exact hrd; exact hrb j hj) _ _ _ hP hD hS (lv_sub hl [0, 1, 3, 4] rfl)
        · exact absurd ht2 (by omega)
  exact lp (ct) (0) (0) (RO) (by omega) (hw0) (rfl) (hRO) _ _ _ hP hD hS hl
