section LZA
variable {p : Program} {l : Launch} {e : Env} {R : Room} {s : State} {m : MethodId} {args : Array Value} {below : List Frame} {meth : Method} {c : Code} {H : Heap} {locs : List Loc} {cells slots : Nat} {Q : State → Prop}
variable {cc : ByteArray} {pc : Nat} {ls : Array Slot} {rest : List Value} {D : va_G} {cl : List vw_C} {tys : List (ClassId × FieldType)} {ws : va_W} {a : Nat} {A : Nat → Prop} {H0 : Heap}
theorem nar_b {z : Nat} (h : z ≤ 1) : narrow .boolean (.int (nI z)) = .int (nI z) := by
  rcases (show z = 0 ∨ z = 1 by omega) with rfl | rfl <;> rfl
theorem fit_b {z : Nat} (h : z ≤ 1) : fits .boolean (.int (nI z)) = true := by
  rcases (show z = 0 ∨ z = 1 by omega) with rfl | rfl <;> rfl
theorem ln_zald (hx : p.tables.exec = Jvm.exec) (hb : c.code = cc) (hK : va_K D cl tys s) (hP : va_P D cl ws H) (q0 t0 : Nat) {cA : ClassId} {n : Nat} {f : Nat → Int32} (ha : ws[q0]? = some (a, .inl (cA, n, .inl f))) (ht : tys[t0]? = some (cA, .boolean)) {i : Nat} (hn : n < 2 ^ 31) (hi : i < n) (hdg : decode cc pc = .ok (.baload, 1)) (kk : W p l e R s m args below meth c H locs cells slots Q (F0 m (pc + 1) ls (.int (f i) :: rest))) : W p l e R s m args below meth c H locs cells slots Q (F0 m pc ls (.int (nI i) :: .ref a :: rest)) :=
  va_zald hx hb hK hP q0 t0 ha ht (vp_in_nI hi hn) hdg (by rw [nI_clamp (Nat.lt_trans hi hn)]; exact kk)
theorem ln_zastN (hx : p.tables.exec = Jvm.exec) (hb : c.code = cc) (hK : va_K D cl tys s) (hP : va_P D cl ws H) (hD : va_D A ws) (hS : va_S A H0 H locs) (q0 t0 : Nat) {cA : ClassId} {n : Nat} {f : Nat → Nat} (ha : ws[q0]? = some (a, .inl (cA, n, .inl (nA f)))) (ht : tys[t0]? = some (cA, .boolean)) {i x : Nat} (hn : n < 2 ^ 31) (hi : i < n ∧ x ≤ 1) (hdg : decode cc pc = .ok (.bastore, 1))
    (kk : ∀ (H1 : Heap) (locs1 : List Loc), va_P D cl (ws.set q0 (a, .inl (cA, n, .inl (nA (upN f i x))))) H1 → va_D A (ws.set q0 (a, .inl (cA, n, .inl (nA (upN f i x))))) → va_S A H0 H1 locs1 → W p l e R s m args below meth c H1 locs1 cells slots Q (F0 m (pc + 1) ls rest)) : W p l e R s m args below meth c H locs cells slots Q (F0 m pc ls (.int (nI x) :: .int (nI i) :: .ref a :: rest)) :=
  va_zast hx hb hK hP hD hS q0 t0 ha ht (vp_in_nI hi.1 hn) hdg (by
    have e1 : vp_nar .boolean (nI x) = nI x := by
      rcases (show x = 0 ∨ x = 1 by omega) with rfl | rfl <;> rfl
    rw [nI_clamp (Nat.lt_trans hi.1 hn), e1, nA_up]
    exact kk)
end LZA
set_option maxHeartbeats 4000000 in
set_option maxRecDepth 100000 in
theorem qX10_count1 (l : Launch) (D : va_G) (cy : Nat → ClassId) (t0 : Nat) (up : Nat) (lo : Nat) (UP : Nat → Nat) (LO : Nat → Nat) (ce : Nat) (sn : Nat) (hc : ce < 64) (hs : sn ≤ 1) : nq_v l D (cT cy) yX10_count wsX10_count 0 0 0 0 [.ref (t0), .int (nI (ce)), .int (nI (sn)), .int (nI (1))] ([(t0, .inr (10, [.ref (up), .ref (lo)])), (up, .inl (cy 0, 64, .inl (nA UP))), (lo, .inl (cy 0, 64, .inl (nA LO)))]) (fun w1 => w1 = [(t0, .inr (10, [.ref (up), .ref (lo)])), (up, .inl (cy 0, 64, .inl (nA (upN UP ce (UP ce + sn))))), (lo, .inl (cy 0, 64, .inl (nA (upN LO ce (LO ce + 1)))))]) := by
  refine nq_v_of (cc := cX10_count) (maxL := 4) (by decide) rfl (Nat.le_of_ble_eq_true rfl) ?_
  intro p e s m args below meth c A Q ls hx hb hts hown hml hnm hN hA hP hK hD hS hl hret
  have hown : s.vm.findClass RX10 = some m.cls := hown
  have hinX10 : ∀ w ∈ u_ws RX10 TX10 2, w ∈ wsX10_count := by decide +kernel
  have hl : lv_has ls 4 [(0, .ref (t0)), (1, .int (nI (ce))), (2, .int (nI (sn))), (3, .int (nI (1)))] := hl
  have hP : va_P D vwCl ([(t0, .inr (10, [.ref (up), .ref (lo)])), (up, .inl (cy 0, 64, .inl (nA UP))), (lo, .inl (cy 0, 64, .inl (nA LO)))]) s.heap := hP
  refine lv_iload_n hx hb dX10_count_0 rfl (lv_at hl 1 rfl) ?_
  refine lv_if_lt (tgt := 38) hx hb dX10_count_1 (by decide) (fun cc => absurd cc (nI_pos (by omega))) (fun _ => ?_)
  refine lv_iload_n hx hb dX10_count_4 rfl (lv_at hl 1 rfl) ?_
  refine lv_bipush (v := (nI (64))) hx hb dX10_count_5 (by decide) ?_
  refine ln_icmp_ge (tgt := 38) hx hb dX10_count_7 (by decide) (by omega) (by omega) (fun c1 => ?_) (fun c1 => ?_)
  · exact absurd hc (by omega)
  · refine lv_aload_n hx hb dX10_count_10 rfl (lv_at hl 0 rfl) ?_
    refine va_get (D := D) (ci := 10) (v := .ref (up)) (C := RX10) (T := TX10) (N := 2) hx hb hts hinX10 hown hK hP 0 rfl rfl 0 (by decide) (hts (.fieldLink RX10 11 "CornDesk$Table" "upper" "[I") (by decide +kernel)) (fun _ h9 => h9) rfl dX10_count_11 ?_
    refine lv_iload_n hx hb dX10_count_14 rfl (lv_at hl 1 rfl) ?_
    refine lv_dup2_11 hx hb dX10_count_15 rfl rfl ?_
    refine ln_iald hx hb hK hP 1 0 rfl rfl (by decide) (by omega) dX10_count_16 ?_
    refine lv_iload_n hx hb dX10_count_17 rfl (lv_at hl 2 rfl) ?_
    refine ln_if_eq (tgt := 25) hx hb dX10_count_18 (by decide) (by omega) (fun c2 => ?_) (fun c2 => ?_)
    · refine lv_iconst (v := (nI (0))) hx hb dX10_count_25 (by decide) ?_
      refine ln_iadd hx hb dX10_count_26 ?_
      refine ln_iastN hx hb hK hP hD hS 1 0 rfl rfl (by decide) (by omega) dX10_count_27 (fun H locs hP hD hS => ?_)
      have hP : va_P D vwCl ([(t0, .inr (10, [.ref (up), .ref (lo)])), (up, .inl (cy 0, 64, .inl (nA (upN UP (ce) (UP (ce) + 0))))), (lo, .inl (cy 0, 64, .inl (nA LO)))]) H := hP
      have hD : va_D A ([(t0, .inr (10, [.ref (up), .ref (lo)])), (up, .inl (cy 0, 64, .inl (nA (upN UP (ce) (UP (ce) + 0))))), (lo, .inl (cy 0, 64, .inl (nA LO)))]) := hD
      refine lv_aload_n hx hb dX10_count_28 rfl (lv_at hl 0 rfl) ?_
      refine va_get (D := D) (ci := 10) (v := .ref (lo)) (C := RX10) (T := TX10) (N := 2) hx hb hts hinX10 hown hK hP 0 rfl rfl 1 (by decide) (hts (.fieldLink RX10 15 "CornDesk$Table" "lower" "[I") (by decide +kernel)) (fun _ h9 => h9) rfl dX10_count_29 ?_
      refine lv_iload_n hx hb dX10_count_32 rfl (lv_at hl 1 rfl) ?_
      refine lv_dup2_11 hx hb dX10_count_33 rfl rfl ?_
      refine ln_iald hx hb hK hP 2 0 rfl rfl (by decide) (by omega) dX10_count_34 ?_
      refine lv_iload_n hx hb dX10_count_35 rfl (lv_at hl 3 rfl) ?_
      refine ln_iadd hx hb dX10_count_36 ?_
      refine ln_iastN hx hb hK hP hD hS 2 0 rfl rfl (by decide) (by omega) dX10_count_37 (fun H locs hP hD hS => ?_)
      have hP : va_P D vwCl ([(t0, .inr (10, [.ref (up), .ref (lo)])), (up, .inl (cy 0, 64, .inl (nA (upN UP (ce) (UP (ce) + 0))))), (lo, .inl (cy 0, 64, .inl (nA (upN LO (ce) (LO (ce) + 1)))))]) H := hP
      have hD : va_D A ([(t0, .inr (10, [.ref (up), .ref (lo)])), (up, .inl (cy 0, 64, .inl (nA (upN UP (ce) (UP (ce) + 0))))), (lo, .inl (cy 0, 64, .inl (nA (upN LO (ce) (LO (ce) + 1)))))]) := hD
      exact hret _ _ _ _ _ (by rw [show sn = 0 by omega]) hP hD hS dX10_count_38
    · refine lv_iload_n hx hb dX10_count_21 rfl (lv_at hl 3 rfl) ?_
      refine lv_goto (tgt := 26) hx hb dX10_count_22 (by decide) ?_
      refine ln_iadd hx hb dX10_count_26 ?_
      refine ln_iastN hx hb hK hP hD hS 1 0 rfl rfl (by decide) (by omega) dX10_count_27 (fun H locs hP hD hS => ?_)
      have hP : va_P D vwCl ([(t0, .inr (10, [.ref (up), .ref (lo)])), (up, .inl (cy 0, 64, .inl (nA (upN UP (ce) (UP (ce) + 1))))), (lo, .inl (cy 0, 64, .inl (nA LO)))]) H := hP
      have hD : va_D A ([(t0, .inr (10, [.ref (up), .ref (lo)])), (up, .inl (cy 0, 64, .inl (nA (upN UP (ce) (UP (ce) + 1))))), (lo, .inl (cy 0, 64, .inl (nA LO)))]) := hD
      refine lv_aload_n hx hb dX10_count_28 rfl (lv_at hl 0 rfl) ?_
      refine va_get (D := D) (ci := 10) (v := .ref (lo)) (C := RX10) (T := TX10) (N := 2) hx hb hts hinX10 hown hK hP 0 rfl rfl 1 (by decide) (hts (.fieldLink RX10 15 "CornDesk$Table" "lower" "[I") (by decide +kernel)) (fun _ h9 => h9) rfl dX10_count_29 ?_
      refine lv_iload_n hx hb dX10_count_32 rfl (lv_at hl 1 rfl) ?_
      refine lv_dup2_11 hx hb dX10_count_33 rfl rfl ?_
      refine ln_iald hx hb hK hP 2 0 rfl rfl (by decide) (by omega) dX10_count_34 ?_
      refine lv_iload_n hx hb dX10_count_35 rfl (lv_at hl 3 rfl) ?_
      refine ln_iadd hx hb dX10_count_36 ?_
      refine ln_iastN hx hb hK hP hD hS 2 0 rfl rfl (by decide) (by omega) dX10_count_37 (fun H locs hP hD hS => ?_)
      have hP : va_P D vwCl ([(t0, .inr (10, [.ref (up), .ref (lo)])), (up, .inl (cy 0, 64, .inl (nA (upN UP (ce) (UP (ce) + 1))))), (lo, .inl (cy 0, 64, .inl (nA (upN LO (ce) (LO (ce) + 1)))))]) H := hP
      have hD : va_D A ([(t0, .inr (10, [.ref (up), .ref (lo)])), (up, .inl (cy 0, 64, .inl (nA (upN UP (ce) (UP (ce) + 1))))), (lo, .inl (cy 0, 64, .inl (nA (upN LO (ce) (LO (ce) + 1)))))]) := hD
      exact hret _ _ _ _ _ (by rw [show sn = 1 by omega]) hP hD hS dX10_count_38
set_option maxHeartbeats 4000000 in
set_option maxRecDepth 100000 in
theorem qX10_countm (l : Launch) (D : va_G) (cy : Nat → ClassId) (t0 : Nat) (up : Nat) (lo : Nat) (UP : Nat → Nat) (LO : Nat → Nat) (ce : Nat) (sn : Nat) (hc : ce < 64) (hs : sn ≤ 1) (hu : sn ≤ UP ce) (hl1 : 1 ≤ LO ce) : nq_v l D (cT cy) yX10_count wsX10_count 0 0 0 0 [.ref (t0), .int (nI (ce)), .int (nI (sn)), .int (-1)] ([(t0, .inr (10, [.ref (up), .ref (lo)])), (up, .inl (cy 0, 64, .inl (nA UP))), (lo, .inl (cy 0, 64, .inl (nA LO)))]) (fun w1 => w1 = [(t0, .inr (10, [.ref (up), .ref (lo)])), (up, .inl (cy 0, 64, .inl (nA (upN UP ce (UP ce - sn))))), (lo, .inl (cy 0, 64, .inl (nA (upN LO ce (LO ce - 1)))))]) := by
  refine nq_v_of (cc := cX10_count) (maxL := 4) (by decide) rfl (Nat.le_of_ble_eq_true rfl) ?_
  intro p e s m args below meth c A Q ls hx hb hts hown hml hnm hN hA hP hK hD hS hl hret
  have hown : s.vm.findClass RX10 = some m.cls := hown
  have hinX10 : ∀ w ∈ u_ws RX10 TX10 2, w ∈ wsX10_count := by decide +kernel
  have hl : lv_has ls 4 [(0, .ref (t0)), (1, .int (nI (ce))), (2, .int (nI (sn))), (3, .int (-1))] := hl
  have hP : va_P D vwCl ([(t0, .inr (10, [.ref (up), .ref (lo)])), (up, .inl (cy 0, 64, .inl (nA UP))), (lo, .inl (cy 0, 64, .inl (nA LO)))]) s.heap := hP
  refine lv_iload_n hx hb dX10_count_0 rfl (lv_at hl 1 rfl) ?_
  refine lv_if_lt (tgt := 38) hx hb dX10_count_1 (by decide) (fun cc => absurd cc (nI_pos (by omega))) (fun _ => ?_)
  refine lv_iload_n hx hb dX10_count_4 rfl (lv_at hl 1 rfl) ?_
  refine lv_bipush (v := (nI (64))) hx hb dX10_count_5 (by decide) ?_
  refine ln_icmp_ge (tgt := 38) hx hb dX10_count_7 (by decide) (by omega) (by omega) (fun c1 => ?_) (fun c1 => ?_)
  · exact absurd hc (by omega)
  · refine lv_aload_n hx hb dX10_count_10 rfl (lv_at hl 0 rfl) ?_
    refine va_get (D := D) (ci := 10) (v := .ref (up)) (C := RX10) (T := TX10) (N := 2) hx hb hts hinX10 hown hK hP 0 rfl rfl 0 (by decide) (hts (.fieldLink RX10 11 "CornDesk$Table" "upper" "[I") (by decide +kernel)) (fun _ h9 => h9) rfl dX10_count_11 ?_
    refine lv_iload_n hx hb dX10_count_14 rfl (lv_at hl 1 rfl) ?_
    refine lv_dup2_11 hx hb dX10_count_15 rfl rfl ?_
    refine ln_iald hx hb hK hP 1 0 rfl rfl (by decide) (by omega) dX10_count_16 ?_
    refine lv_iload_n hx hb dX10_count_17 rfl (lv_at hl 2 rfl) ?_
    refine ln_if_eq (tgt := 25) hx hb dX10_count_18 (by decide) (by omega) (fun c2 => ?_) (fun c2 => ?_)
    · refine lv_iconst (v := (nI (0))) hx hb dX10_count_25 (by decide) ?_
      refine ln_iadd hx hb dX10_count_26 ?_
      refine ln_iastN hx hb hK hP hD hS 1 0 rfl rfl (by decide) (by omega) dX10_count_27 (fun H locs hP hD hS => ?_)
      have hP : va_P D vwCl ([(t0, .inr (10, [.ref (up), .ref (lo)])), (up, .inl (cy 0, 64, .inl (nA (upN UP (ce) (UP (ce) + 0))))), (lo, .inl (cy 0, 64, .inl (nA LO)))]) H := hP
      have hD : va_D A ([(t0, .inr (10, [.ref (up), .ref (lo)])), (up, .inl (cy 0, 64, .inl (nA (upN UP (ce) (UP (ce) + 0))))), (lo, .inl (cy 0, 64, .inl (nA LO)))]) := hD
      refine lv_aload_n hx hb dX10_count_28 rfl (lv_at hl 0 rfl) ?_
      refine va_get (D := D) (ci := 10) (v := .ref (lo)) (C := RX10) (T := TX10) (N := 2) hx hb hts hinX10 hown hK hP 0 rfl rfl 1 (by decide) (hts (.fieldLink RX10 15 "CornDesk$Table" "lower" "[I") (by decide +kernel)) (fun _ h9 => h9) rfl dX10_count_29 ?_
      refine lv_iload_n hx hb dX10_count_32 rfl (lv_at hl 1 rfl) ?_
      refine lv_dup2_11 hx hb dX10_count_33 rfl rfl ?_
      refine ln_iald hx hb hK hP 2 0 rfl rfl (by decide) (by omega) dX10_count_34 ?_
      refine lv_iload_n hx hb dX10_count_35 rfl (lv_at hl 3 rfl) ?_
      refine lv_iadd hx hb dX10_count_36 ?_
      refine ln_eqi (y := (nI (LO ce - 1))) (sb_m1 (by omega)) ?_
      refine ln_iastN hx hb hK hP hD hS 2 0 rfl rfl (by decide) (by omega) dX10_count_37 (fun H locs hP hD hS => ?_)
      have hP : va_P D vwCl ([(t0, .inr (10, [.ref (up), .ref (lo)])), (up, .inl (cy 0, 64, .inl (nA (upN UP (ce) (UP (ce) + 0))))), (lo, .inl (cy 0, 64, .inl (nA (upN LO (ce) (LO ce - 1)))))]) H := hP
      have hD : va_D A ([(t0, .inr (10, [.ref (up), .ref (lo)])), (up, .inl (cy 0, 64, .inl (nA (upN UP (ce) (UP (ce) + 0))))), (lo, .inl (cy 0, 64, .inl (nA (upN LO (ce) (LO ce - 1)))))]) := hD
      exact hret _ _ _ _ _ (by rw [show sn = 0 by omega]; try rfl) hP hD hS dX10_count_38
    · refine lv_iload_n hx hb dX10_count_21 rfl (lv_at hl 3 rfl) ?_
      refine lv_goto (tgt := 26) hx hb dX10_count_22 (by decide) ?_
      refine lv_iadd hx hb dX10_count_26 ?_
      refine ln_eqi (y := (nI (UP ce - 1))) (sb_m1 (by omega)) ?_
      refine ln_iastN hx hb hK hP hD hS 1 0 rfl rfl (by decide) (by omega) dX10_count_27 (fun H locs hP hD hS => ?_)
      have hP : va_P D vwCl ([(t0, .inr (10, [.ref (up), .ref (lo)])), (up, .inl (cy 0, 64, .inl (nA (upN UP (ce) (UP ce - 1))))), (lo, .inl (cy 0, 64, .inl (nA LO)))]) H := hP
      have hD : va_D A ([(t0, .inr (10, [.ref (up), .ref (lo)])), (up, .inl (cy 0, 64, .inl (nA (upN UP (ce) (UP ce - 1))))), (lo, .inl (cy 0, 64, .inl (nA LO)))]) := hD
      refine lv_aload_n hx hb dX10_count_28 rfl (lv_at hl 0 rfl) ?_
      refine va_get (D := D) (ci := 10) (v := .ref (lo)) (C := RX10) (T := TX10) (N := 2) hx hb hts hinX10 hown hK hP 0 rfl rfl 1 (by decide) (hts (.fieldLink RX10 15 "CornDesk$Table" "lower" "[I") (by decide +kernel)) (fun _ h9 => h9) rfl dX10_count_29 ?_
      refine lv_iload_n hx hb dX10_count_32 rfl (lv_at hl 1 rfl) ?_
      refine lv_dup2_11 hx hb dX10_count_33 rfl rfl ?_
      refine ln_iald hx hb hK hP 2 0 rfl rfl (by decide) (by omega) dX10_count_34 ?_
      refine lv_iload_n hx hb dX10_count_35 rfl (lv_at hl 3 rfl) ?_
      refine lv_iadd hx hb dX10_count_36 ?_
      refine ln_eqi (y := (nI (LO ce - 1))) (sb_m1 (by omega)) ?_
      refine ln_iastN hx hb hK hP hD hS 2 0 rfl rfl (by decide) (by omega) dX10_count_37 (fun H locs hP hD hS => ?_)
      have hP : va_P D vwCl ([(t0, .inr (10, [.ref (up), .ref (lo)])), (up, .inl (cy 0, 64, .inl (nA (upN UP (ce) (UP ce - 1))))), (lo, .inl (cy 0, 64, .inl (nA (upN LO (ce) (LO ce - 1)))))]) H := hP
      have hD : va_D A ([(t0, .inr (10, [.ref (up), .ref (lo)])), (up, .inl (cy 0, 64, .inl (nA (upN UP (ce) (UP ce - 1))))), (lo, .inl (cy 0, 64, .inl (nA (upN LO (ce) (LO ce - 1)))))]) := hD
      exact hret _ _ _ _ _ (by rw [show sn = 1 by omega]; try rfl) hP hD hS dX10_count_38
set_option maxHeartbeats 4000000 in
set_option maxRecDepth 100000 in
theorem qX0_looks (l : Launch) (D : va_G) (cy : Nat → ClassId) (f0 : Nat) (so : Nat) (ch : Nat) (ho : Nat) (cA : Nat) (dA : Nat) (sA : Nat) (lk : Nat) (dg : Nat) (fo : Nat) (CR : Nat → Nat) (DR : Nat → Nat) (SN : Nat → Nat)   : nq_i l D (cT cy) yX0_looks wsX0_looks 0 0 0 0 [.ref (f0)] ([(f0, .inr (0, [.int (nI (so)), .int (nI (ch)), .int (nI (ho)), .ref (cA), .ref (dA), .ref (sA), .int (nI (lk)), .int (nI (dg)), .int (nI (fo))])), (cA, .inl (cy 0, 4, .inl (nA CR))), (dA, .inl (cy 0, 4, .inl (nA DR))), (sA, .inl (cy 2, 4, .inl (nA SN)))]) (fun r w1 => r = nI lk ∧ w1 = [(f0, .inr (0, [.int (nI (so)), .int (nI (ch)), .int (nI (ho)), .ref (cA), .ref (dA), .ref (sA), .int (nI (lk)), .int (nI (dg)), .int (nI (fo))])), (cA, .inl (cy 0, 4, .inl (nA CR))), (dA, .inl (cy 0, 4, .inl (nA DR))), (sA, .inl (cy 2, 4, .inl (nA SN)))]) := by
  refine nq_i_of (cc := cX0_looks) (maxL := 1) (by decide) rfl (Nat.le_of_ble_eq_true rfl) ?_
  intro p e s m args below meth c A Q ls hx hb hts hown hml hnm hN hA hP hK hD hS hl hret
  have hown : s.vm.findClass RX0 = some m.cls := hown
  have hinX0 : ∀ w ∈ u_ws RX0 TX0 9, w ∈ wsX0_looks := by decide +kernel
  have hl : lv_has ls 1 [(0, .ref (f0))] := hl
  have hP : va_P D vwCl ([(f0, .inr (0, [.int (nI (so)), .int (nI (ch)), .int (nI (ho)), .ref (cA), .ref (dA), .ref (sA), .int (nI (lk)), .int (nI (dg)), .int (nI (fo))])), (cA, .inl (cy 0, 4, .inl (nA CR))), (dA, .inl (cy 0, 4, .inl (nA DR))), (sA, .inl (cy 2, 4, .inl (nA SN)))]) s.heap := hP
  refine lv_aload_n hx hb dX0_looks_0 rfl (lv_at hl 0 rfl) ?_
  refine va_get (D := D) (ci := 0) (v := .int (nI (lk))) (C := RX0) (T := TX0) (N := 9) hx hb hts hinX0 hown hK hP 0 rfl rfl 6 (by decide) (hts (.fieldLink RX0 32 "CornDesk$Field" "looks" "I") (by decide +kernel)) (fun _ h9 => h9) rfl dX0_looks_1 ?_
  exact hret _ _ _ _ _ _ ⟨rfl, rfl⟩ hP hD hS dX0_looks_4
set_option maxHeartbeats 4000000 in
set_option maxRecDepth 100000 in
theorem qX0_isDug (l : Launch) (D : va_G) (cy : Nat → ClassId) (f0 : Nat) (so : Nat) (ch : Nat) (ho : Nat) (cA : Nat) (dA : Nat) (sA : Nat) (lk : Nat) (dg : Nat) (fo : Nat) (CR : Nat → Nat) (DR : Nat → Nat) (SN : Nat → Nat)  (hd9 : dg ≤ 1) : nq_i l D (cT cy) yX0_isDug wsX0_isDug 0 0 0 0 [.ref (f0)] ([(f0, .inr (0, [.int (nI (so)), .int (nI (ch)), .int (nI (ho)), .ref (cA), .ref (dA), .ref (sA), .int (nI (lk)), .int (nI (dg)), .int (nI (fo))])), (cA, .inl (cy 0, 4, .inl (nA CR))), (dA, .inl (cy 0, 4, .inl (nA DR))), (sA, .inl (cy 2, 4, .inl (nA SN)))]) (fun r w1 => r = nI dg ∧ w1 = [(f0, .inr (0, [.int (nI (so)), .int (nI (ch)), .int (nI (ho)), .ref (cA), .ref (dA), .ref (sA), .int (nI (lk)), .int (nI (dg)), .int (nI (fo))])), (cA, .inl (cy 0, 4, .inl (nA CR))), (dA, .inl (cy 0, 4, .inl (nA DR))), (sA, .inl (cy 2, 4, .inl (nA SN)))]) := by
  refine nq_z_of (cc := cX0_isDug) (maxL := 1) (by decide) rfl (Nat.le_of_ble_eq_true rfl) ?_
  intro p e s m args below meth c A Q ls hx hb hts hown hml hnm hN hA hP hK hD hS hl hret
  have hown : s.vm.findClass RX0 = some m.cls := hown
  have hinX0 : ∀ w ∈ u_ws RX0 TX0 9, w ∈ wsX0_isDug := by decide +kernel
  have hl : lv_has ls 1 [(0, .ref (f0))] := hl
  have hP : va_P D vwCl ([(f0, .inr (0, [.int (nI (so)), .int (nI (ch)), .int (nI (ho)), .ref (cA), .ref (dA), .ref (sA), .int (nI (lk)), .int (nI (dg)), .int (nI (fo))])), (cA, .inl (cy 0, 4, .inl (nA CR))), (dA, .inl (cy 0, 4, .inl (nA DR))), (sA, .inl (cy 2, 4, .inl (nA SN)))]) s.heap := hP
  refine lv_aload_n hx hb dX0_isDug_0 rfl (lv_at hl 0 rfl) ?_
  refine va_get (D := D) (ci := 0) (v := .int (nI (dg))) (C := RX0) (T := TX0) (N := 9) hx hb hts hinX0 hown hK hP 0 rfl rfl 7 (by decide) (hts (.fieldLink RX0 35 "CornDesk$Field" "dug" "Z") (by decide +kernel)) (fun _ h9 => h9) rfl dX0_isDug_1 ?_
  exact hret _ _ _ _ _ _ (nar_b hd9) ⟨rfl, rfl⟩ hP hD hS dX0_isDug_4
set_option maxHeartbeats 4000000 in
set_option maxRecDepth 100000 in
theorem qX0_addLook (l : Launch) (D : va_G) (cy : Nat → ClassId) (f0 : Nat) (so : Nat) (ch : Nat) (ho : Nat) (cA : Nat) (dA : Nat) (sA : Nat) (lk : Nat) (dg : Nat) (fo : Nat) (CR : Nat → Nat) (DR : Nat → Nat) (SN : Nat → Nat) (x : Nat) (y : Nat) (z : Nat) (hk4 : lk < 4) (hz : z ≤ 1) : nq_v l D (cT cy) yX0_addLook wsX0_addLook 0 0 0 0 [.ref (f0), .int (nI (x)), .int (nI (y)), .int (nI (z))] ([(f0, .inr (0, [.int (nI (so)), .int (nI (ch)), .int (nI (ho)), .ref (cA), .ref (dA), .ref (sA), .int (nI (lk)), .int (nI (dg)), .int (nI (fo))])), (cA, .inl (cy 0, 4, .inl (nA CR))), (dA, .inl (cy 0, 4, .inl (nA DR))), (sA, .inl (cy 2, 4, .inl (nA SN)))]) (fun w1 => w1 = [(f0, .inr (0, [.int (nI (so)), .int (nI (ch)), .int (nI (ho)), .ref (cA), .ref (dA), .ref (sA), .int (nI (lk + 1)), .int (nI (dg)), .int (nI (fo))])), (cA, .inl (cy 0, 4, .inl (nA (upN CR lk x)))), (dA, .inl (cy 0, 4, .inl (nA (upN DR lk y)))), (sA, .inl (cy 2, 4, .inl (nA (upN SN lk z))))]) := by
  refine nq_v_of (cc := cX0_addLook) (maxL := 4) (by decide) rfl (Nat.le_of_ble_eq_true rfl) ?_
  intro p e s m args below meth c A Q ls hx hb hts hown hml hnm hN hA hP hK hD hS hl hret
  have hown : s.vm.findClass RX0 = some m.cls := hown
  have hinX0 : ∀ w ∈ u_ws RX0 TX0 9, w ∈ wsX0_addLook := by decide +kernel
  have hl : lv_has ls 4 [(0, .ref (f0)), (1, .int (nI (x))), (2, .int (nI (y))), (3, .int (nI (z)))] := hl
  have hP : va_P D vwCl ([(f0, .inr (0, [.int (nI (so)), .int (nI (ch)), .int (nI (ho)), .ref (cA), .ref (dA), .ref (sA), .int (nI (lk)), .int (nI (dg)), .int (nI (fo))])), (cA, .inl (cy 0, 4, .inl (nA CR))), (dA, .inl (cy 0, 4, .inl (nA DR))), (sA, .inl (cy 2, 4, .inl (nA SN)))]) s.heap := hP
  refine lv_aload_n hx hb dX0_addLook_0 rfl (lv_at hl 0 rfl) ?_
  refine va_get (D := D) (ci := 0) (v := .int (nI (lk))) (C := RX0) (T := TX0) (N := 9) hx hb hts hinX0 hown hK hP 0 rfl rfl 6 (by decide) (hts (.fieldLink RX0 32 "CornDesk$Field" "looks" "I") (by decide +kernel)) (fun _ h9 => h9) rfl dX0_addLook_1 ?_
  refine lv_iconst (v := (nI (4))) hx hb dX0_addLook_4 (by decide) ?_
  refine ln_icmp_ge (tgt := 48) hx hb dX0_addLook_5 (by decide) (by omega) (by omega) (fun c1 => ?_) (fun c1 => ?_)
  · exact absurd hk4 (by omega)
  · refine lv_aload_n hx hb dX0_addLook_8 rfl (lv_at hl 0 rfl) ?_
    refine va_get (D := D) (ci := 0) (v := .ref (cA)) (C := RX0) (T := TX0) (N := 9) hx hb hts hinX0 hown hK hP 0 rfl rfl 3 (by decide) (hts (.fieldLink RX0 9 "CornDesk$Field" "crops" "[I") (by decide +kernel)) (fun _ h9 => h9) rfl dX0_addLook_9 ?_
    refine lv_aload_n hx hb dX0_addLook_12 rfl (lv_at hl 0 rfl) ?_
    refine va_get (D := D) (ci := 0) (v := .int (nI (lk))) (C := RX0) (T := TX0) (N := 9) hx hb hts hinX0 hown hK hP 0 rfl rfl 6 (by decide) (hts (.fieldLink RX0 32 "CornDesk$Field" "looks" "I") (by decide +kernel)) (fun _ h9 => h9) rfl dX0_addLook_13 ?_
    refine lv_iload_n hx hb dX0_addLook_16 rfl (lv_at hl 1 rfl) ?_
    refine ln_iastN hx hb hK hP hD hS 1 0 rfl rfl (by decide) (by omega) dX0_addLook_17 (fun H locs hP hD hS => ?_)
    have hP : va_P D vwCl ([(f0, .inr (0, [.int (nI (so)), .int (nI (ch)), .int (nI (ho)), .ref (cA), .ref (dA), .ref (sA), .int (nI (lk)), .int (nI (dg)), .int (nI (fo))])), (cA, .inl (cy 0, 4, .inl (nA (upN CR (lk) (x))))), (dA, .inl (cy 0, 4, .inl (nA DR))), (sA, .inl (cy 2, 4, .inl (nA SN)))]) H := hP
    have hD : va_D A ([(f0, .inr (0, [.int (nI (so)), .int (nI (ch)), .int (nI (ho)), .ref (cA), .ref (dA), .ref (sA), .int (nI (lk)), .int (nI (dg)), .int (nI (fo))])), (cA, .inl (cy 0, 4, .inl (nA (upN CR (lk) (x))))), (dA, .inl (cy 0, 4, .inl (nA DR))), (sA, .inl (cy 2, 4, .inl (nA SN)))]) := hD
    refine lv_aload_n hx hb dX0_addLook_18 rfl (lv_at hl 0 rfl) ?_
    refine va_get (D := D) (ci := 0) (v := .ref (dA)) (C := RX0) (T := TX0) (N := 9) hx hb hts hinX0 hown hK hP 0 rfl rfl 4 (by decide) (hts (.fieldLink RX0 15 "CornDesk$Field" "drys" "[I") (by decide +kernel)) (fun _ h9 => h9) rfl dX0_addLook_19 ?_
    refine lv_aload_n hx hb dX0_addLook_22 rfl (lv_at hl 0 rfl) ?_
    refine va_get (D := D) (ci := 0) (v := .int (nI (lk))) (C := RX0) (T := TX0) (N := 9) hx hb hts hinX0 hown hK hP 0 rfl rfl 6 (by decide) (hts (.fieldLink RX0 32 "CornDesk$Field" "looks" "I") (by decide +kernel)) (fun _ h9 => h9) rfl dX0_addLook_23 ?_
    refine lv_iload_n hx hb dX0_addLook_26 rfl (lv_at hl 2 rfl) ?_
    refine ln_iastN hx hb hK hP hD hS 2 0 rfl rfl (by decide) (by omega) dX0_addLook_27 (fun H locs hP hD hS => ?_)
    have hP : va_P D vwCl ([(f0, .inr (0, [.int (nI (so)), .int (nI (ch)), .int (nI (ho)), .ref (cA), .ref (dA), .ref (sA), .int (nI (lk)), .int (nI (dg)), .int (nI (fo))])), (cA, .inl (cy 0, 4, .inl (nA (upN CR (lk) (x))))), (dA, .inl (cy 0, 4, .inl (nA (upN DR (lk) (y))))), (sA, .inl (cy 2, 4, .inl (nA SN)))]) H := hP
    have hD : va_D A ([(f0, .inr (0, [.int (nI (so)), .int (nI (ch)), .int (nI (ho)), .ref (cA), .ref (dA), .ref (sA), .int (nI (lk)), .int (nI (dg)), .int (nI (fo))])), (cA, .inl (cy 0, 4, .inl (nA (upN CR (lk) (x))))), (dA, .inl (cy 0, 4, .inl (nA (upN DR (lk) (y))))), (sA, .inl (cy 2, 4, .inl (nA SN)))]) := hD
    refine lv_aload_n hx hb dX0_addLook_28 rfl (lv_at hl 0 rfl) ?_
    refine va_get (D := D) (ci := 0) (v := .ref (sA)) (C := RX0) (T := TX0) (N := 9) hx hb hts hinX0 hown hK hP 0 rfl rfl 5 (by decide) (hts (.fieldLink RX0 18 "CornDesk$Field" "seen" "[Z") (by decide +kernel)) (fun _ h9 => h9) rfl dX0_addLook_29 ?_
    refine lv_aload_n hx hb dX0_addLook_32 rfl (lv_at hl 0 rfl) ?_
    refine va_get (D := D) (ci := 0) (v := .int (nI (lk))) (C := RX0) (T := TX0) (N := 9) hx hb hts hinX0 hown hK hP 0 rfl rfl 6 (by decide) (hts (.fieldLink RX0 32 "CornDesk$Field" "looks" "I") (by decide +kernel)) (fun _ h9 => h9) rfl dX0_addLook_33 ?_
    refine lv_iload_n hx hb dX0_addLook_36 rfl (lv_at hl 3 rfl) ?_
    refine ln_zastN hx hb hK hP hD hS 3 2 rfl rfl (by decide) ⟨by omega, hz⟩ dX0_addLook_37 (fun H locs hP hD hS => ?_)
    have hP : va_P D vwCl ([(f0, .inr (0, [.int (nI (so)), .int (nI (ch)), .int (nI (ho)), .ref (cA), .ref (dA), .ref (sA), .int (nI (lk)), .int (nI (dg)), .int (nI (fo))])), (cA, .inl (cy 0, 4, .inl (nA (upN CR (lk) (x))))), (dA, .inl (cy 0, 4, .inl (nA (upN DR (lk) (y))))), (sA, .inl (cy 2, 4, .inl (nA (upN SN (lk) (z)))))]) H := hP
    have hD : va_D A ([(f0, .inr (0, [.int (nI (so)), .int (nI (ch)), .int (nI (ho)), .ref (cA), .ref (dA), .ref (sA), .int (nI (lk)), .int (nI (dg)), .int (nI (fo))])), (cA, .inl (cy 0, 4, .inl (nA (upN CR (lk) (x))))), (dA, .inl (cy 0, 4, .inl (nA (upN DR (lk) (y))))), (sA, .inl (cy 2, 4, .inl (nA (upN SN (lk) (z)))))]) := hD
    refine lv_aload_n hx hb dX0_addLook_38 rfl (lv_at hl 0 rfl) ?_
    refine lv_dup hx hb dX0_addLook_39 rfl ?_
    refine va_get (D := D) (ci := 0) (v := .int (nI (lk))) (C := RX0) (T := TX0) (N := 9) hx hb hts hinX0 hown hK hP 0 rfl rfl 6 (by decide) (hts (.fieldLink RX0 32 "CornDesk$Field" "looks" "I") (by decide +kernel)) (fun _ h9 => h9) rfl dX0_addLook_40 ?_
    refine lv_iconst (v := (nI (1))) hx hb dX0_addLook_43 (by decide) ?_
    refine ln_iadd hx hb dX0_addLook_44 ?_
    refine va_put (D := D) (ci := 0) (v := .int (nI (lk + 1))) (ty := .int) (C := RX0) (T := TX0) (N := 9) hx hb hts hinX0 tyX0 tyX0_ok nmX0 hown hK hP hD hS 0 rfl rfl 6 (by decide) (hts (.fieldLink RX0 32 "CornDesk$Field" "looks" "I") (by decide +kernel)) (fun _ h9 => h9) rfl (by decide +kernel) rfl rfl (Nat.le_of_ble_eq_true rfl) dX0_addLook_45 (fun H locs hP hD hS => ?_)
    have hP : va_P D vwCl ([(f0, .inr (0, [.int (nI (so)), .int (nI (ch)), .int (nI (ho)), .ref (cA), .ref (dA), .ref (sA), .int (nI (lk + 1)), .int (nI (dg)), .int (nI (fo))])), (cA, .inl (cy 0, 4, .inl (nA (upN CR (lk) (x))))), (dA, .inl (cy 0, 4, .inl (nA (upN DR (lk) (y))))), (sA, .inl (cy 2, 4, .inl (nA (upN SN (lk) (z)))))]) H := hP
    have hD : va_D A ([(f0, .inr (0, [.int (nI (so)), .int (nI (ch)), .int (nI (ho)), .ref (cA), .ref (dA), .ref (sA), .int (nI (lk + 1)), .int (nI (dg)), .int (nI (fo))])), (cA, .inl (cy 0, 4, .inl (nA (upN CR (lk) (x))))), (dA, .inl (cy 0, 4, .inl (nA (upN DR (lk) (y))))), (sA, .inl (cy 2, 4, .inl (nA (upN SN (lk) (z)))))]) := hD
    exact hret _ _ _ _ _ rfl hP hD hS dX0_addLook_48
set_option maxHeartbeats 4000000 in
set_option maxRecDepth 100000 in
theorem qX0_dropLook (l : Launch) (D : va_G) (cy : Nat → ClassId) (f0 : Nat) (so : Nat) (ch : Nat) (ho : Nat) (cA : Nat) (dA : Nat) (sA : Nat) (lk : Nat) (dg : Nat) (fo : Nat) (CR : Nat → Nat) (DR : Nat → Nat) (SN : Nat → Nat)  (hk4 : lk ≤ 4) (hk0 : 0 < lk) : nq_v l D (cT cy) yX0_dropLook wsX0_dropLook 0 0 0 0 [.ref (f0)] ([(f0, .inr (0, [.int (nI (so)), .int (nI (ch)), .int (nI (ho)), .ref (cA), .ref (dA), .ref (sA), .int (nI (lk)), .int (nI (dg)), .int (nI (fo))])), (cA, .inl (cy 0, 4, .inl (nA CR))), (dA, .inl (cy 0, 4, .inl (nA DR))), (sA, .inl (cy 2, 4, .inl (nA SN)))]) (fun w1 => w1 = [(f0, .inr (0, [.int (nI (so)), .int (nI (ch)), .int (nI (ho)), .ref (cA), .ref (dA), .ref (sA), .int (nI (lk - 1)), .int (nI (dg)), .int (nI (fo))])), (cA, .inl (cy 0, 4, .inl (nA CR))), (dA, .inl (cy 0, 4, .inl (nA DR))), (sA, .inl (cy 2, 4, .inl (nA SN)))]) := by
  refine nq_v_of (cc := cX0_dropLook) (maxL := 1) (by decide) rfl (Nat.le_of_ble_eq_true rfl) ?_
  intro p e s m args below meth c A Q ls hx hb hts hown hml hnm hN hA hP hK hD hS hl hret
  have hown : s.vm.findClass RX0 = some m.cls := hown
  have hinX0 : ∀ w ∈ u_ws RX0 TX0 9, w ∈ wsX0_dropLook := by decide +kernel
  have hl : lv_has ls 1 [(0, .ref (f0))] := hl
  have hP : va_P D vwCl ([(f0, .inr (0, [.int (nI (so)), .int (nI (ch)), .int (nI (ho)), .ref (cA), .ref (dA), .ref (sA), .int (nI (lk)), .int (nI (dg)), .int (nI (fo))])), (cA, .inl (cy 0, 4, .inl (nA CR))), (dA, .inl (cy 0, 4, .inl (nA DR))), (sA, .inl (cy 2, 4, .inl (nA SN)))]) s.heap := hP
  refine lv_aload_n hx hb dX0_dropLook_0 rfl (lv_at hl 0 rfl) ?_
  refine va_get (D := D) (ci := 0) (v := .int (nI (lk))) (C := RX0) (T := TX0) (N := 9) hx hb hts hinX0 hown hK hP 0 rfl rfl 6 (by decide) (hts (.fieldLink RX0 32 "CornDesk$Field" "looks" "I") (by decide +kernel)) (fun _ h9 => h9) rfl dX0_dropLook_1 ?_
  refine lv_if_le (tgt := 17) hx hb dX0_dropLook_4 (by decide) (fun cc => absurd cc (nI_nle hk0 (by omega))) (fun _ => ?_)
  refine lv_aload_n hx hb dX0_dropLook_7 rfl (lv_at hl 0 rfl) ?_
  refine lv_dup hx hb dX0_dropLook_8 rfl ?_
  refine va_get (D := D) (ci := 0) (v := .int (nI (lk))) (C := RX0) (T := TX0) (N := 9) hx hb hts hinX0 hown hK hP 0 rfl rfl 6 (by decide) (hts (.fieldLink RX0 32 "CornDesk$Field" "looks" "I") (by decide +kernel)) (fun _ h9 => h9) rfl dX0_dropLook_9 ?_
  refine lv_iconst (v := (nI (1))) hx hb dX0_dropLook_12 (by decide) ?_
  refine ln_isub hx hb dX0_dropLook_13 (by omega) ?_
  refine va_put (D := D) (ci := 0) (v := .int (nI ((lk) - (1)))) (ty := .int) (C := RX0) (T := TX0) (N := 9) hx hb hts hinX0 tyX0 tyX0_ok nmX0 hown hK hP hD hS 0 rfl rfl 6 (by decide) (hts (.fieldLink RX0 32 "CornDesk$Field" "looks" "I") (by decide +kernel)) (fun _ h9 => h9) rfl (by decide +kernel) rfl rfl (Nat.le_of_ble_eq_true rfl) dX0_dropLook_14 (fun H locs hP hD hS => ?_)
  have hP : va_P D vwCl ([(f0, .inr (0, [.int (nI (so)), .int (nI (ch)), .int (nI (ho)), .ref (cA), .ref (dA), .ref (sA), .int (nI ((lk) - (1))), .int (nI (dg)), .int (nI (fo))])), (cA, .inl (cy 0, 4, .inl (nA CR))), (dA, .inl (cy 0, 4, .inl (nA DR))), (sA, .inl (cy 2, 4, .inl (nA SN)))]) H := hP
  have hD : va_D A ([(f0, .inr (0, [.int (nI (so)), .int (nI (ch)), .int (nI (ho)), .ref (cA), .ref (dA), .ref (sA), .int (nI ((lk) - (1))), .int (nI (dg)), .int (nI (fo))])), (cA, .inl (cy 0, 4, .inl (nA CR))), (dA, .inl (cy 0, 4, .inl (nA DR))), (sA, .inl (cy 2, 4, .inl (nA SN)))]) := hD
  exact hret _ _ _ _ _ rfl hP hD hS dX0_dropLook_17
def fsB (SN : Nat → Nat) : Nat → Bool
  | 0 => false
  | k + 1 => fsB SN k || decide (SN k ≠ 0)
theorem fsB_n {SN : Nat → Nat} {k : Nat} (h : fsB SN k = false) (h2 : SN k = 0) : fsB SN (k + 1) = false := by
  rw [fsB, h, decide_eq_false (fun q => q h2)]
  rfl
theorem fsB_y {SN : Nat → Nat} {k : Nat} (h2 : SN k ≠ 0) : ∀ m, fsB SN (k + 1 + m) = true
  | 0 => by rw [Nat.add_zero, fsB, decide_eq_true h2, Bool.or_true]
  | m + 1 => by rw [← Nat.add_assoc, fsB, fsB_y h2 m, Bool.true_or]
abbrev fcC (so : Nat) (CR DR : Nat → Nat) (k : Nat) : Nat := (so * 4 + CR k) * 4 + DR k
def fcU (so : Nat) (CR DR SN U : Nat → Nat) : Nat → Nat → Nat
  | 0 => U
  | k + 1 => upN (fcU so CR DR SN U k) (fcC so CR DR k) (fcU so CR DR SN U k (fcC so CR DR k) + SN k)
def fcL (so : Nat) (CR DR L : Nat → Nat) : Nat → Nat → Nat
  | 0 => L
  | k + 1 => upN (fcL so CR DR L k) (fcC so CR DR k) (fcL so CR DR L k (fcC so CR DR k) + 1)
def fdU (so : Nat) (CR DR SN U : Nat → Nat) : Nat → Nat → Nat
  | 0 => U
  | k + 1 => upN (fdU so CR DR SN U k) (fcC so CR DR k) (fdU so CR DR SN U k (fcC so CR DR k) - SN k)
def fdL (so : Nat) (CR DR L : Nat → Nat) : Nat → Nat → Nat
  | 0 => L
  | k + 1 => upN (fdL so CR DR L k) (fcC so CR DR k) (fdL so CR DR L k (fcC so CR DR k) - 1)
/-- a field's looks lie within -/
abbrev lkOk (lk : Nat) (CR DR SN : Nat → Nat) : Prop := ∀ k, k < lk → CR k ≤ 3 ∧ DR k ≤ 3 ∧ SN k ≤ 1
set_option maxHeartbeats 4000000 in
set_option maxRecDepth 100000 in
theorem qX0_wasSeen (l : Launch) (D : va_G) (cy : Nat → ClassId) (f0 : Nat) (so : Nat) (ch : Nat) (ho : Nat) (cA : Nat) (dA : Nat) (sA : Nat) (lk : Nat) (dg : Nat) (fo : Nat) (CR : Nat → Nat) (DR : Nat → Nat) (SN : Nat → Nat)  (hk4 : lk ≤ 4) (hlo : lkOk lk CR DR SN) : nq_i l D (cT cy) yX0_wasSeen wsX0_wasSeen 0 0 0 0 [.ref (f0)] ([(f0, .inr (0, [.int (nI (so)), .int (nI (ch)), .int (nI (ho)), .ref (cA), .ref (dA), .ref (sA), .int (nI (lk)), .int (nI (dg)), .int (nI (fo))])), (cA, .inl (cy 0, 4, .inl (nA CR))), (dA, .inl (cy 0, 4, .inl (nA DR))), (sA, .inl (cy 2, 4, .inl (nA SN)))]) (fun r w1 => r = bI (fsB SN lk = true) ∧ w1 = [(f0, .inr (0, [.int (nI (so)), .int (nI (ch)), .int (nI (ho)), .ref (cA), .ref (dA), .ref (sA), .int (nI (lk)), .int (nI (dg)), .int (nI (fo))])), (cA, .inl (cy 0, 4, .inl (nA CR))), (dA, .inl (cy 0, 4, .inl (nA DR))), (sA, .inl (cy 2, 4, .inl (nA SN)))]) := by
  refine nq_z_of (cc := cX0_wasSeen) (maxL := 2) (by decide) rfl (Nat.le_of_ble_eq_true rfl) ?_
  intro p e s m args below meth c A Q ls hx hb hts hown hml hnm hN hA hP hK hD hS hl hret
  have hown : s.vm.findClass RX0 = some m.cls := hown
  have hinX0 : ∀ w ∈ u_ws RX0 TX0 9, w ∈ wsX0_wasSeen := by decide +kernel
  have hl : lv_has ls 2 [(0, .ref (f0))] := hl
  have hP : va_P D vwCl ([(f0, .inr (0, [.int (nI (so)), .int (nI (ch)), .int (nI (ho)), .ref (cA), .ref (dA), .ref (sA), .int (nI (lk)), .int (nI (dg)), .int (nI (fo))])), (cA, .inl (cy 0, 4, .inl (nA CR))), (dA, .inl (cy 0, 4, .inl (nA DR))), (sA, .inl (cy 2, 4, .inl (nA SN)))]) s.heap := hP
  refine lv_iconst (v := (nI (0))) hx hb dX0_wasSeen_0 (by decide) ?_
  refine lv_istore_n (lv' := [(1, .int (nI (0))), (0, .ref (f0))]) hx hb dX0_wasSeen_1 rfl hl (by decide) rfl (fun ls hl => ?_)
  have lp : ∀ (i : Nat) (k : Nat), (k + i = lk) → (fsB SN k = false) → ∀ (H : Heap) (locs : List Loc) (ls : Array Slot), va_P D vwCl ([(f0, .inr (0, [.int (nI (so)), .int (nI (ch)), .int (nI (ho)), .ref (cA), .ref (dA), .ref (sA), .int (nI (lk)), .int (nI (dg)), .int (nI (fo))])), (cA, .inl (cy 0, 4, .inl (nA CR))), (dA, .inl (cy 0, 4, .inl (nA DR))), (sA, .inl (cy 2, 4, .inl (nA SN)))]) H → va_D A ([(f0, .inr (0, [.int (nI (so)), .int (nI (ch)), .int (nI (ho)), .ref (cA), .ref (dA), .ref (sA), .int (nI (lk)), .int (nI (dg)), .int (nI (fo))])), (cA, .inl (cy 0, 4, .inl (nA CR))), (dA, .inl (cy 0, 4, .inl (nA DR))), (sA, .inl (cy 2, 4, .inl (nA SN)))]) → va_S A s.heap H locs → lv_has ls 2 [(1, .int (nI (k))), (0, .ref (f0))] → W p l e (mq_R 0 0 0 0) s m args below meth c H locs 0 0 Q (F0 m 2 ls []) := by
    intro i
    induction i with
    | zero =>
      intro k hk hk2 H locs ls hP hD hS hl
      refine lv_iload_n hx hb dX0_wasSeen_2 rfl (lv_at hl 0 rfl) ?_
      refine lv_aload_n hx hb dX0_wasSeen_3 rfl (lv_at hl 1 rfl) ?_
      refine va_get (D := D) (ci := 0) (v := .int (nI (lk))) (C := RX0) (T := TX0) (N := 9) hx hb hts hinX0 hown hK hP 0 rfl rfl 6 (by decide) (hts (.fieldLink RX0 32 "CornDesk$Field" "looks" "I") (by decide +kernel)) (fun _ h9 => h9) rfl dX0_wasSeen_4 ?_
      refine ln_icmp_ge (tgt := 27) hx hb dX0_wasSeen_7 (by decide) (by omega) (by omega) (fun c1 => ?_) (fun c1 => ?_)
      · refine lv_iconst (v := (nI (0))) hx hb dX0_wasSeen_27 (by decide) ?_
        exact hret _ _ _ _ _ _ rfl ⟨bI_f' (by rw [show lk = k by omega, hk2]; decide), rfl⟩ hP hD hS dX0_wasSeen_28
      · exact absurd hk (by omega)
    | succ i ih =>
      intro k hk hk2 H locs ls hP hD hS hl
      refine lv_iload_n hx hb dX0_wasSeen_2 rfl (lv_at hl 0 rfl) ?_
      refine lv_aload_n hx hb dX0_wasSeen_3 rfl (lv_at hl 1 rfl) ?_
      refine va_get (D := D) (ci := 0) (v := .int (nI (lk))) (C := RX0) (T := TX0) (N := 9) hx hb hts hinX0 hown hK hP 0 rfl rfl 6 (by decide) (hts (.fieldLink RX0 32 "CornDesk$Field" "looks" "I") (by decide +kernel)) (fun _ h9 => h9) rfl dX0_wasSeen_4 ?_
      refine ln_icmp_ge (tgt := 27) hx hb dX0_wasSeen_7 (by decide) (by omega) (by omega) (fun c1 => ?_) (fun c1 => ?_)
      · exact absurd hk (by omega)
      · have hs1 := (hlo k (by omega)).2.2
        refine lv_aload_n hx hb dX0_wasSeen_10 rfl (lv_at hl 1 rfl) ?_
        refine va_get (D := D) (ci := 0) (v := .ref (sA)) (C := RX0) (T := TX0) (N := 9) hx hb hts hinX0 hown hK hP 0 rfl rfl 5 (by decide) (hts (.fieldLink RX0 18 "CornDesk$Field" "seen" "[Z") (by decide +kernel)) (fun _ h9 => h9) rfl dX0_wasSeen_11 ?_
        refine lv_iload_n hx hb dX0_wasSeen_14 rfl (lv_at hl 0 rfl) ?_
        refine ln_zald hx hb hK hP 3 2 rfl rfl (by decide) (by omega) dX0_wasSeen_15 ?_
        refine ln_if_eq (tgt := 21) hx hb dX0_wasSeen_16 (by decide) (by omega) (fun c2 => ?_) (fun c2 => ?_)
        · refine lv_iinc (v := (nI (k + 1))) (lv' := [(1, .int (nI (k + 1))), (0, .ref (f0))]) hx hb dX0_wasSeen_21 hl (k := 0) rfl (by rw [show (Int32.ofInt 1) = nI 1 from rfl, nI_add]) (by decide) rfl (fun ls hl => ?_)
          refine lv_goto (tgt := 2) hx hb dX0_wasSeen_24 (by decide) ?_
          exact ih (k + 1) (by omega) (fsB_n hk2 c2) _ _ _ hP hD hS hl
        · refine lv_iconst (v := (nI (1))) hx hb dX0_wasSeen_19 (by decide) ?_
          exact hret _ _ _ _ _ _ rfl ⟨bI_t' (by rw [show lk = k + 1 + (lk - (k + 1)) by omega]; exact fsB_y (by omega) _), rfl⟩ hP hD hS dX0_wasSeen_20
  exact lp (lk) (0) (by omega) (rfl) _ _ _ hP hD hS hl
