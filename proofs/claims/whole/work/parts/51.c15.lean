set_option maxHeartbeats 4000000 in
set_option maxRecDepth 100000 in
theorem qX5_init (l : Launch) (D : va_G) (cy : Nat → ClassId) (k0 : Nat) (pq : Nat) (kd : Nat) (mu : Nat) (mv : Nat) (ms : Nat) (mg : Nat)  : nq_v l D (cT cy) yX5_init wsX5_init 1 0 0 14 [.ref (k0), .ref (pq), .int (nI (kd)), .int (nI (mu)), .int (nI (mv)), .int (nI (ms)), .int (nI (mg))] ([(k0, .inr (5, [.null, .int (nI (0)), .int (nI (0)), .int (nI (0)), .int (nI (0)), .int (nI (0))]))]) (fun w1 => w1 = [(k0, .inr (5, [.ref (pq), .int (nI (kd)), .int (nI (mu)), .int (nI (mv)), .int (nI (ms)), .int (nI (mg))]))]) := by
  refine nq_v_of (cc := cX5_init) (maxL := 7) (by decide) rfl (Nat.le_of_ble_eq_true rfl) ?_
  intro p e s m args below meth c A Q ls hx hb hts hown hml hnm hN hA hP hK hD hS hl hret
  have hown : s.vm.findClass RX5 = some m.cls := hown
  have hnm : meth.name = "<init>" := hnm
  have hinX5 : ∀ w ∈ u_ws RX5 TX5 6, w ∈ wsX5_init := by decide +kernel
  have hl : lv_has ls 7 [(0, .ref (k0)), (1, .ref (pq)), (2, .int (nI (kd))), (3, .int (nI (mu))), (4, .int (nI (mv))), (5, .int (nI (ms))), (6, .int (nI (mg)))] := hl
  have hP : va_P D vwCl ([(k0, .inr (5, [.null, .int (nI (0)), .int (nI (0)), .int (nI (0)), .int (nI (0)), .int (nI (0))]))]) s.heap := hP
  refine lv_aload_n hx hb dX5_init_0 rfl (lv_at hl 0 rfl) ?_
  refine W.objInit hx hb hown (hts (.methodLink RX5 1 objectInit) (by decide +kernel)) (hts (.instanceMethod objectInit) (by decide +kernel)) (hts (.code objectInit ⟨#[0xb1]⟩ 1 none) (List.mem_cons_of_mem _ (by first | exact List.mem_append_left _ (List.mem_of_getElem? (i := 2) rfl) | exact List.mem_of_getElem? (i := 2) rfl))) rfl (by rw [hml]; exact hl.1) rfl dX5_init_1 (Nat.le_of_ble_eq_true rfl) (Nat.le_of_ble_eq_true rfl) ?_
  refine W.eq (g2 := F0 m 4 ls []) rfl ?_
  refine lv_aload_n hx hb dX5_init_4 rfl (lv_at hl 0 rfl) ?_
  refine lv_aload_n hx hb dX5_init_5 rfl (lv_at hl 1 rfl) ?_
  refine va_putF (D := D) (ci := 5) (v := .ref (pq)) (ty := .object "CornDesk$Picture") (C := RX5) (T := TX5) (N := 6) hx hb hts hinX5 tyX5 tyX5_ok nmX5 hown hK hP hD hS 0 rfl rfl 0 (by decide) (hts (.fieldLink RX5 7 "CornDesk$Mark" "picture" "LCornDesk$Picture;") (by decide +kernel)) (fun _ h9 => h9) rfl hnm rfl (by decide +kernel) rfl rfl (Nat.le_of_ble_eq_true rfl) dX5_init_6 (fun H locs hP hD hS => ?_)
  have hP : va_P D vwCl ([(k0, .inr (5, [.ref (pq), .int (nI (0)), .int (nI (0)), .int (nI (0)), .int (nI (0)), .int (nI (0))]))]) H := hP
  have hD : va_D A ([(k0, .inr (5, [.ref (pq), .int (nI (0)), .int (nI (0)), .int (nI (0)), .int (nI (0)), .int (nI (0))]))]) := hD
  refine lv_aload_n hx hb dX5_init_9 rfl (lv_at hl 0 rfl) ?_
  refine lv_iload_n hx hb dX5_init_10 rfl (lv_at hl 2 rfl) ?_
  refine va_putF (D := D) (ci := 5) (v := .int (nI (kd))) (ty := .int) (C := RX5) (T := TX5) (N := 6) hx hb hts hinX5 tyX5 tyX5_ok nmX5 hown hK hP hD hS 0 rfl rfl 1 (by decide) (hts (.fieldLink RX5 13 "CornDesk$Mark" "kind" "I") (by decide +kernel)) (fun _ h9 => h9) rfl hnm rfl (by decide +kernel) rfl rfl (Nat.le_of_ble_eq_true rfl) dX5_init_11 (fun H locs hP hD hS => ?_)
  have hP : va_P D vwCl ([(k0, .inr (5, [.ref (pq), .int (nI (kd)), .int (nI (0)), .int (nI (0)), .int (nI (0)), .int (nI (0))]))]) H := hP
  have hD : va_D A ([(k0, .inr (5, [.ref (pq), .int (nI (kd)), .int (nI (0)), .int (nI (0)), .int (nI (0)), .int (nI (0))]))]) := hD
  refine lv_aload_n hx hb dX5_init_14 rfl (lv_at hl 0 rfl) ?_
  refine lv_iload_n hx hb dX5_init_15 rfl (lv_at hl 3 rfl) ?_
  refine va_putF (D := D) (ci := 5) (v := .int (nI (mu))) (ty := .int) (C := RX5) (T := TX5) (N := 6) hx hb hts hinX5 tyX5 tyX5_ok nmX5 hown hK hP hD hS 0 rfl rfl 2 (by decide) (hts (.fieldLink RX5 17 "CornDesk$Mark" "u" "I") (by decide +kernel)) (fun _ h9 => h9) rfl hnm rfl (by decide +kernel) rfl rfl (Nat.le_of_ble_eq_true rfl) dX5_init_16 (fun H locs hP hD hS => ?_)
  have hP : va_P D vwCl ([(k0, .inr (5, [.ref (pq), .int (nI (kd)), .int (nI (mu)), .int (nI (0)), .int (nI (0)), .int (nI (0))]))]) H := hP
  have hD : va_D A ([(k0, .inr (5, [.ref (pq), .int (nI (kd)), .int (nI (mu)), .int (nI (0)), .int (nI (0)), .int (nI (0))]))]) := hD
  refine lv_aload_n hx hb dX5_init_19 rfl (lv_at hl 0 rfl) ?_
  refine lv_iload hx hb dX5_init_20 (lv_at hl 4 rfl) ?_
  refine va_putF (D := D) (ci := 5) (v := .int (nI (mv))) (ty := .int) (C := RX5) (T := TX5) (N := 6) hx hb hts hinX5 tyX5 tyX5_ok nmX5 hown hK hP hD hS 0 rfl rfl 3 (by decide) (hts (.fieldLink RX5 20 "CornDesk$Mark" "v" "I") (by decide +kernel)) (fun _ h9 => h9) rfl hnm rfl (by decide +kernel) rfl rfl (Nat.le_of_ble_eq_true rfl) dX5_init_22 (fun H locs hP hD hS => ?_)
  have hP : va_P D vwCl ([(k0, .inr (5, [.ref (pq), .int (nI (kd)), .int (nI (mu)), .int (nI (mv)), .int (nI (0)), .int (nI (0))]))]) H := hP
  have hD : va_D A ([(k0, .inr (5, [.ref (pq), .int (nI (kd)), .int (nI (mu)), .int (nI (mv)), .int (nI (0)), .int (nI (0))]))]) := hD
  refine lv_aload_n hx hb dX5_init_25 rfl (lv_at hl 0 rfl) ?_
  refine lv_iload hx hb dX5_init_26 (lv_at hl 5 rfl) ?_
  refine va_putF (D := D) (ci := 5) (v := .int (nI (ms))) (ty := .int) (C := RX5) (T := TX5) (N := 6) hx hb hts hinX5 tyX5 tyX5_ok nmX5 hown hK hP hD hS 0 rfl rfl 4 (by decide) (hts (.fieldLink RX5 23 "CornDesk$Mark" "size" "I") (by decide +kernel)) (fun _ h9 => h9) rfl hnm rfl (by decide +kernel) rfl rfl (Nat.le_of_ble_eq_true rfl) dX5_init_28 (fun H locs hP hD hS => ?_)
  have hP : va_P D vwCl ([(k0, .inr (5, [.ref (pq), .int (nI (kd)), .int (nI (mu)), .int (nI (mv)), .int (nI (ms)), .int (nI (0))]))]) H := hP
  have hD : va_D A ([(k0, .inr (5, [.ref (pq), .int (nI (kd)), .int (nI (mu)), .int (nI (mv)), .int (nI (ms)), .int (nI (0))]))]) := hD
  refine lv_aload_n hx hb dX5_init_31 rfl (lv_at hl 0 rfl) ?_
  refine lv_iload hx hb dX5_init_32 (lv_at hl 6 rfl) ?_
  refine va_putF (D := D) (ci := 5) (v := .int (nI (mg))) (ty := .int) (C := RX5) (T := TX5) (N := 6) hx hb hts hinX5 tyX5 tyX5_ok nmX5 hown hK hP hD hS 0 rfl rfl 5 (by decide) (hts (.fieldLink RX5 26 "CornDesk$Mark" "gates" "I") (by decide +kernel)) (fun _ h9 => h9) rfl hnm rfl (by decide +kernel) rfl rfl (Nat.le_of_ble_eq_true rfl) dX5_init_34 (fun H locs hP hD hS => ?_)
  have hP : va_P D vwCl ([(k0, .inr (5, [.ref (pq), .int (nI (kd)), .int (nI (mu)), .int (nI (mv)), .int (nI (ms)), .int (nI (mg))]))]) H := hP
  have hD : va_D A ([(k0, .inr (5, [.ref (pq), .int (nI (kd)), .int (nI (mu)), .int (nI (mv)), .int (nI (ms)), .int (nI (mg))]))]) := hD
  exact hret _ _ _ _ _ rfl hP hD hS dX5_init_37
