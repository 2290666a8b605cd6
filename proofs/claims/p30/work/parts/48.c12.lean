set_option maxHeartbeats 4000000 in
set_option maxRecDepth 100000 in
theorem qX1_init (l : Launch) (D : va_G) (cy : Nat → ClassId) (g0 : Nat)   : nq_v l D (cT cy) yX1_init wsX1_init 1 2 16 14 [.ref (g0)] ([(g0, .inr (1, [.null, .null, .int (nI (0)), .long (0), .int (nI (0))]))]) (fun w1 => ∃ a b : Nat, w1 = [(g0, .inr (1, [.ref (a), .ref (b), .int (nI (0)), .long (0), .int (nI (0))])), (a, .inl (cy 1, 8, .inr (.inl (fun _ => 0)))), (b, .inl (cy 0, 8, .inl (nA (fun _ => 0))))]) := by
  refine nq_v_of (cc := cX1_init) (maxL := 1) (by decide) rfl (Nat.le_of_ble_eq_true rfl) ?_
  intro p e s m args below meth c A Q ls hx hb hts hown hml hnm hN hA hP hK hD hS hl hret
  have hown : s.vm.findClass RX1 = some m.cls := hown
  have hnm : meth.name = "<init>" := hnm
  have hinX1 : ∀ w ∈ u_ws RX1 TX1 5, w ∈ wsX1_init := by decide +kernel
  have hl : lv_has ls 1 [(0, .ref (g0))] := hl
  have hP : va_P D vwCl ([(g0, .inr (1, [.null, .null, .int (nI (0)), .long (0), .int (nI (0))]))]) s.heap := hP
  refine lv_aload_n hx hb dX1_init_0 rfl (lv_at hl 0 rfl) ?_
  refine W.objInit hx hb hown (hts (.methodLink RX1 3 objectInit) (by decide +kernel)) (hts (.instanceMethod objectInit) (by decide +kernel)) (hts (.code objectInit ⟨#[0xb1]⟩ 1 none) (List.mem_cons_of_mem _ (by first | exact List.mem_append_left _ (List.mem_of_getElem? (i := 2) rfl) | exact List.mem_of_getElem? (i := 2) rfl))) rfl (by rw [hml]; exact hl.1) rfl dX1_init_1 (Nat.le_of_ble_eq_true rfl) (Nat.le_of_ble_eq_true rfl) ?_
  refine W.eq (g2 := F0 m 4 ls []) rfl ?_
  refine lv_aload_n hx hb dX1_init_4 rfl (lv_at hl 0 rfl) ?_
  refine lv_bipush (v := (nI (8))) hx hb dX1_init_5 (by decide) ?_
  refine mk_l hx hb (hts (.arrayClass .long) (by decide +kernel)) hK hP hD hS hA 1 rfl (by decide) (Nat.le_of_ble_eq_true rfl) (Nat.le_of_ble_eq_true rfl) dX1_init_7 (fun q_1 H hP hD hS => ?_)
  have hP : va_P D vwCl ([(g0, .inr (1, [.null, .null, .int (nI (0)), .long (0), .int (nI (0))])), (q_1, .inl (cy 1, 8, .inr (.inl (fun _ => 0))))]) H := hP
  have hD : va_D A ([(g0, .inr (1, [.null, .null, .int (nI (0)), .long (0), .int (nI (0))])), (q_1, .inl (cy 1, 8, .inr (.inl (fun _ => 0))))]) := hD
  refine va_putF (D := D) (ci := 1) (v := .ref (q_1)) (ty := .array .long) (C := RX1) (T := TX1) (N := 5) hx hb hts hinX1 tyX1 tyX1_ok nmX1 hown hK hP hD hS 0 rfl rfl 0 (by decide) (hts (.fieldLink RX1 9 "CornDesk$Flight" "gains" "[J") (by decide +kernel)) (fun _ h9 => h9) rfl hnm rfl (by decide +kernel) rfl rfl (Nat.le_of_ble_eq_true rfl) dX1_init_9 (fun H locs hP hD hS => ?_)
  have hP : va_P D vwCl ([(g0, .inr (1, [.ref (q_1), .null, .int (nI (0)), .long (0), .int (nI (0))])), (q_1, .inl (cy 1, 8, .inr (.inl (fun _ => 0))))]) H := hP
  have hD : va_D A ([(g0, .inr (1, [.ref (q_1), .null, .int (nI (0)), .long (0), .int (nI (0))])), (q_1, .inl (cy 1, 8, .inr (.inl (fun _ => 0))))]) := hD
  refine lv_aload_n hx hb dX1_init_12 rfl (lv_at hl 0 rfl) ?_
  refine lv_bipush (v := (nI (8))) hx hb dX1_init_13 (by decide) ?_
  refine mk_i hx hb (hts (.arrayClass .int) (by decide +kernel)) hK hP hD hS hA 0 rfl (by decide) (Nat.le_of_ble_eq_true rfl) (Nat.le_of_ble_eq_true rfl) dX1_init_15 (fun q_2 H hP hD hS => ?_)
  have hP : va_P D vwCl ([(g0, .inr (1, [.ref (q_1), .null, .int (nI (0)), .long (0), .int (nI (0))])), (q_1, .inl (cy 1, 8, .inr (.inl (fun _ => 0)))), (q_2, .inl (cy 0, 8, .inl (nA (fun _ => 0))))]) H := hP
  have hD : va_D A ([(g0, .inr (1, [.ref (q_1), .null, .int (nI (0)), .long (0), .int (nI (0))])), (q_1, .inl (cy 1, 8, .inr (.inl (fun _ => 0)))), (q_2, .inl (cy 0, 8, .inl (nA (fun _ => 0))))]) := hD
  refine va_putF (D := D) (ci := 1) (v := .ref (q_2)) (ty := .array .int) (C := RX1) (T := TX1) (N := 5) hx hb hts hinX1 tyX1 tyX1_ok nmX1 hown hK hP hD hS 0 rfl rfl 1 (by decide) (hts (.fieldLink RX1 15 "CornDesk$Flight" "hours" "[I") (by decide +kernel)) (fun _ h9 => h9) rfl hnm rfl (by decide +kernel) rfl rfl (Nat.le_of_ble_eq_true rfl) dX1_init_17 (fun H locs hP hD hS => ?_)
  have hP : va_P D vwCl ([(g0, .inr (1, [.ref (q_1), .ref (q_2), .int (nI (0)), .long (0), .int (nI (0))])), (q_1, .inl (cy 1, 8, .inr (.inl (fun _ => 0)))), (q_2, .inl (cy 0, 8, .inl (nA (fun _ => 0))))]) H := hP
  have hD : va_D A ([(g0, .inr (1, [.ref (q_1), .ref (q_2), .int (nI (0)), .long (0), .int (nI (0))])), (q_1, .inl (cy 1, 8, .inr (.inl (fun _ => 0)))), (q_2, .inl (cy 0, 8, .inl (nA (fun _ => 0))))]) := hD
  exact hret _ _ _ _ _ ⟨q_1, q_2, rfl⟩ hP hD hS dX1_init_20
set_option maxHeartbeats 4000000 in
set_option maxRecDepth 100000 in
theorem qX1_set (l : Launch) (D : va_G) (cy : Nat → ClassId) (g0 : Nat) (ga : Nat) (ho : Nat) (bs : Nat) (bg : Int64) (bh : Nat) (GA : Nat → Int64) (HO : Nat → Nat)   : nq_i l D (cT cy) yX1_set wsX1_set 0 0 0 0 [.ref (g0)] ([(g0, .inr (1, [.ref (ga), .ref (ho), .int (nI (bs)), .long (bg), .int (nI (bh))])), (ga, .inl (cy 1, 8, .inr (.inl GA))), (ho, .inl (cy 0, 8, .inl (nA HO)))]) (fun r w1 => r = nI bs ∧ w1 = [(g0, .inr (1, [.ref (ga), .ref (ho), .int (nI (bs)), .long (bg), .int (nI (bh))])), (ga, .inl (cy 1, 8, .inr (.inl GA))), (ho, .inl (cy 0, 8, .inl (nA HO)))]) := by
  refine nq_i_of (cc := cX1_set) (maxL := 1) (by decide) rfl (Nat.le_of_ble_eq_true rfl) ?_
  intro p e s m args below meth c A Q ls hx hb hts hown hml hnm hN hA hP hK hD hS hl hret
  have hown : s.vm.findClass RX1 = some m.cls := hown
  have hinX1 : ∀ w ∈ u_ws RX1 TX1 5, w ∈ wsX1_set := by decide +kernel
  have hl : lv_has ls 1 [(0, .ref (g0))] := hl
  have hP : va_P D vwCl ([(g0, .inr (1, [.ref (ga), .ref (ho), .int (nI (bs)), .long (bg), .int (nI (bh))])), (ga, .inl (cy 1, 8, .inr (.inl GA))), (ho, .inl (cy 0, 8, .inl (nA HO)))]) s.heap := hP
  refine lv_aload_n hx hb dX1_set_0 rfl (lv_at hl 0 rfl) ?_
  refine va_get (D := D) (ci := 1) (v := .int (nI (bs))) (C := RX1) (T := TX1) (N := 5) hx hb hts hinX1 hown hK hP 0 rfl rfl 2 (by decide) (hts (.fieldLink RX1 19 "CornDesk$Flight" "bestSet" "I") (by decide +kernel)) (fun _ h9 => h9) rfl dX1_set_1 ?_
  exact hret _ _ _ _ _ _ ⟨rfl, rfl⟩ hP hD hS dX1_set_4
set_option maxHeartbeats 4000000 in
set_option maxRecDepth 100000 in
theorem qX1_gain (l : Launch) (D : va_G) (cy : Nat → ClassId) (g0 : Nat) (ga : Nat) (ho : Nat) (bs : Nat) (bg : Int64) (bh : Nat) (GA : Nat → Int64) (HO : Nat → Nat)   : nq_l l D (cT cy) yX1_gain wsX1_gain 0 0 0 0 [.ref (g0)] ([(g0, .inr (1, [.ref (ga), .ref (ho), .int (nI (bs)), .long (bg), .int (nI (bh))])), (ga, .inl (cy 1, 8, .inr (.inl GA))), (ho, .inl (cy 0, 8, .inl (nA HO)))]) (fun r w1 => r = bg ∧ w1 = [(g0, .inr (1, [.ref (ga), .ref (ho), .int (nI (bs)), .long (bg), .int (nI (bh))])), (ga, .inl (cy 1, 8, .inr (.inl GA))), (ho, .inl (cy 0, 8, .inl (nA HO)))]) := by
  refine nq_l_of (cc := cX1_gain) (maxL := 1) (by decide) rfl (Nat.le_of_ble_eq_true rfl) ?_
  intro p e s m args below meth c A Q ls hx hb hts hown hml hnm hN hA hP hK hD hS hl hret
  have hown : s.vm.findClass RX1 = some m.cls := hown
  have hinX1 : ∀ w ∈ u_ws RX1 TX1 5, w ∈ wsX1_gain := by decide +kernel
  have hl : lv_has ls 1 [(0, .ref (g0))] := hl
  have hP : va_P D vwCl ([(g0, .inr (1, [.ref (ga), .ref (ho), .int (nI (bs)), .long (bg), .int (nI (bh))])), (ga, .inl (cy 1, 8, .inr (.inl GA))), (ho, .inl (cy 0, 8, .inl (nA HO)))]) s.heap := hP
  refine lv_aload_n hx hb dX1_gain_0 rfl (lv_at hl 0 rfl) ?_
  refine va_get (D := D) (ci := 1) (v := .long (bg)) (C := RX1) (T := TX1) (N := 5) hx hb hts hinX1 hown hK hP 0 rfl rfl 3 (by decide) (hts (.fieldLink RX1 23 "CornDesk$Flight" "bestGain" "J") (by decide +kernel)) (fun _ h9 => h9) rfl dX1_gain_1 ?_
  exact hret _ _ _ _ _ _ ⟨rfl, rfl⟩ hP hD hS dX1_gain_4
