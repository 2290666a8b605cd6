def tbF (x : Nat) : Nat → Nat := fun j => if j < 64 then x else 0
theorem tb_fill (x : Nat) (f : Nat → Int32) (hf : ∀ j, f j = 0) : cpI f (fun _ => nI x) 0 64 = nA (tbF x) := by
  funext j
  simp only [cpI, nA, tbF]
  by_cases q : j < 64
  · rw [if_pos (by omega), if_pos q]
  · rw [if_neg (by omega), if_neg q, hf]; rfl
set_option maxHeartbeats 4000000 in
set_option maxRecDepth 100000 in
theorem qX10_init (l : Launch) (D : va_G) (cy : Nat → ClassId) (t0 : Nat)   : nq_v l D (cT cy) yX10_init wsX10_init 1 2 128 23 [.ref (t0)] ([(t0, .inr (10, [.null, .null]))]) (fun w1 => ∃ a b : Nat, w1 = [(t0, .inr (10, [.ref (a), .ref (b)])), (a, .inl (cy 0, 64, .inl (nA (tbF 1)))), (b, .inl (cy 0, 64, .inl (nA (tbF 2))))]) := by
  refine nq_v_of (cc := cX10_init) (maxL := 1) (by decide) rfl (Nat.le_of_ble_eq_true rfl) ?_
  intro p e s m args below meth c A Q ls hx hb hts hown hml hnm hN hA hP hK hD hS hl hret
  have hown : s.vm.findClass RX10 = some m.cls := hown
  have hnm : meth.name = "<init>" := hnm
  have hinX10 : ∀ w ∈ u_ws RX10 TX10 2, w ∈ wsX10_init := by decide +kernel
  have hl : lv_has ls 1 [(0, .ref (t0))] := hl
  have hP : va_P D vwCl ([(t0, .inr (10, [.null, .null]))]) s.heap := hP
  refine lv_aload_n hx hb dX10_init_0 rfl (lv_at hl 0 rfl) ?_
  refine W.objInit hx hb hown (hts (.methodLink RX10 3 objectInit) (by decide +kernel)) (hts (.instanceMethod objectInit) (by decide +kernel)) (hts (.code objectInit ⟨#[0xb1]⟩ 1 none) (List.mem_cons_of_mem _ (by first | exact List.mem_append_left _ (List.mem_of_getElem? (i := 2) rfl) | exact List.mem_of_getElem? (i := 2) rfl))) rfl (by rw [hml]; exact hl.1) rfl dX10_init_1 (Nat.le_of_ble_eq_true rfl) (Nat.le_of_ble_eq_true rfl) ?_
  refine W.eq (g2 := F0 m 4 ls []) rfl ?_
  refine lv_aload_n hx hb dX10_init_4 rfl (lv_at hl 0 rfl) ?_
  refine lv_bipush (v := (nI (64))) hx hb dX10_init_5 (by decide) ?_
  refine mk_i hx hb (hts (.arrayClass .int) (by decide +kernel)) hK hP hD hS hA 0 rfl (by decide) (Nat.le_of_ble_eq_true rfl) (Nat.le_of_ble_eq_true rfl) dX10_init_7 (fun q_1 H hP hD hS => ?_)
  have hP : va_P D vwCl ([(t0, .inr (10, [.null, .null])), (q_1, .inl (cy 0, 64, .inl (fun _ => 0)))]) H := hP
  have hD : va_D A ([(t0, .inr (10, [.null, .null])), (q_1, .inl (cy 0, 64, .inl (fun _ => 0)))]) := hD
  refine va_putF (D := D) (ci := 10) (v := .ref (q_1)) (ty := .array .int) (C := RX10) (T := TX10) (N := 2) hx hb hts hinX10 tyX10 tyX10_ok nmX10 hown hK hP hD hS 0 rfl rfl 0 (by decide) (hts (.fieldLink RX10 11 "CornDesk$Table" "upper" "[I") (by decide +kernel)) (fun _ h9 => h9) rfl hnm rfl (by decide +kernel) rfl rfl (Nat.le_of_ble_eq_true rfl) dX10_init_9 (fun H locs hP hD hS => ?_)
  have hP : va_P D vwCl ([(t0, .inr (10, [.ref (q_1), .null])), (q_1, .inl (cy 0, 64, .inl (fun _ => 0)))]) H := hP
  have hD : va_D A ([(t0, .inr (10, [.ref (q_1), .null])), (q_1, .inl (cy 0, 64, .inl (fun _ => 0)))]) := hD
  refine lv_aload_n hx hb dX10_init_12 rfl (lv_at hl 0 rfl) ?_
  refine lv_bipush (v := (nI (64))) hx hb dX10_init_13 (by decide) ?_
  refine mk_i hx hb (hts (.arrayClass .int) (by decide +kernel)) hK hP hD hS hA 0 rfl (by decide) (Nat.le_of_ble_eq_true rfl) (Nat.le_of_ble_eq_true rfl) dX10_init_15 (fun q_2 H hP hD hS => ?_)
  have hP : va_P D vwCl ([(t0, .inr (10, [.ref (q_1), .null])), (q_1, .inl (cy 0, 64, .inl (fun _ => 0))), (q_2, .inl (cy 0, 64, .inl (fun _ => 0)))]) H := hP
  have hD : va_D A ([(t0, .inr (10, [.ref (q_1), .null])), (q_1, .inl (cy 0, 64, .inl (fun _ => 0))), (q_2, .inl (cy 0, 64, .inl (fun _ => 0)))]) := hD
  refine va_putF (D := D) (ci := 10) (v := .ref (q_2)) (ty := .array .int) (C := RX10) (T := TX10) (N := 2) hx hb hts hinX10 tyX10 tyX10_ok nmX10 hown hK hP hD hS 0 rfl rfl 1 (by decide) (hts (.fieldLink RX10 15 "CornDesk$Table" "lower" "[I") (by decide +kernel)) (fun _ h9 => h9) rfl hnm rfl (by decide +kernel) rfl rfl (Nat.le_of_ble_eq_true rfl) dX10_init_17 (fun H locs hP hD hS => ?_)
  have hP : va_P D vwCl ([(t0, .inr (10, [.ref (q_1), .ref (q_2)])), (q_1, .inl (cy 0, 64, .inl (fun _ => 0))), (q_2, .inl (cy 0, 64, .inl (fun _ => 0)))]) H := hP
  have hD : va_D A ([(t0, .inr (10, [.ref (q_1), .ref (q_2)])), (q_1, .inl (cy 0, 64, .inl (fun _ => 0))), (q_2, .inl (cy 0, 64, .inl (fun _ => 0)))]) := hD
  refine lv_aload_n hx hb dX10_init_20 rfl (lv_at hl 0 rfl) ?_
  refine va_get (D := D) (ci := 10) (v := .ref (q_1)) (C := RX10) (T := TX10) (N := 2) hx hb hts hinX10 hown hK hP 0 rfl rfl 0 (by decide) (hts (.fieldLink RX10 11 "CornDesk$Table" "upper" "[I") (by decide +kernel)) (fun _ h9 => h9) rfl dX10_init_21 ?_
  refine lv_iconst (v := (nI (1))) hx hb dX10_init_24 (by decide) ?_
  have hP := hP.sub (ws' := [(q_1, .inl (cy 0, 64, .inl (fun _ => 0))), (t0, .inr (10, [.ref (q_1), .ref (q_2)])), (q_2, .inl (cy 0, 64, .inl (fun _ => 0)))]) [1, 0, 2] rfl
  have hD := hD.sub (ws' := [(q_1, .inl (cy 0, 64, .inl (fun _ => 0))), (t0, .inr (10, [.ref (q_1), .ref (q_2)])), (q_2, .inl (cy 0, 64, .inl (fun _ => 0)))]) [1, 0, 2] (by decide) rfl
  refine nq_Sv (As := [.ref (q_1), .int (nI (1))]) (rest := []) (w := [(q_1, .inl (cy 0, 64, .inl (fun _ => 0)))]) (wr := [(t0, .inr (10, [.ref (q_1), .ref (q_2)])), (q_2, .inl (cy 0, 64, .inl (fun _ => 0)))]) ⟨hx, hb, hml, hown, hts⟩ (qJ7_fill_53178 l D cy q_1 64 (fun _ => 0) (nI (1)) (by decide)) (va_cwS 2 hts gX10_init_J7_fill_53178 rfl rfl rfl (by decide +kernel) ⟨Nat.le_of_ble_eq_true rfl, Nat.le_of_ble_eq_true rfl⟩) hP hK hD hN hS hA rfl hl.1 rfl (Nat.le_of_ble_eq_true rfl) dX10_init_25 ⟨Nat.le_of_ble_eq_true rfl, Nat.le_of_ble_eq_true rfl⟩ (fun w1 H locs hq hP hD hS => ?_)
  subst hq
  have hP : va_P D vwCl ([(q_1, .inl (cy 0, 64, .inl (cpI (fun _ => 0) (fun _ => (nI (1))) 0 64))), (t0, .inr (10, [.ref (q_1), .ref (q_2)])), (q_2, .inl (cy 0, 64, .inl (fun _ => 0)))]) H := hP
  have hD : va_D A ([(q_1, .inl (cy 0, 64, .inl (cpI (fun _ => 0) (fun _ => (nI (1))) 0 64))), (t0, .inr (10, [.ref (q_1), .ref (q_2)])), (q_2, .inl (cy 0, 64, .inl (fun _ => 0)))]) := hD
  refine lv_aload_n hx hb dX10_init_28 rfl (lv_at hl 0 rfl) ?_
  refine va_get (D := D) (ci := 10) (v := .ref (q_2)) (C := RX10) (T := TX10) (N := 2) hx hb hts hinX10 hown hK hP 1 rfl rfl 1 (by decide) (hts (.fieldLink RX10 15 "CornDesk$Table" "lower" "[I") (by decide +kernel)) (fun _ h9 => h9) rfl dX10_init_29 ?_
  refine lv_iconst (v := (nI (2))) hx hb dX10_init_32 (by decide) ?_
  have hP := hP.sub (ws' := [(q_2, .inl (cy 0, 64, .inl (fun _ => 0))), (q_1, .inl (cy 0, 64, .inl (cpI (fun _ => 0) (fun _ => (nI (1))) 0 64))), (t0, .inr (10, [.ref (q_1), .ref (q_2)]))]) [2, 0, 1] rfl
  have hD := hD.sub (ws' := [(q_2, .inl (cy 0, 64, .inl (fun _ => 0))), (q_1, .inl (cy 0, 64, .inl (cpI (fun _ => 0) (fun _ => (nI (1))) 0 64))), (t0, .inr (10, [.ref (q_1), .ref (q_2)]))]) [2, 0, 1] (by decide) rfl
  refine nq_Sv (As := [.ref (q_2), .int (nI (2))]) (rest := []) (w := [(q_2, .inl (cy 0, 64, .inl (fun _ => 0)))]) (wr := [(q_1, .inl (cy 0, 64, .inl (cpI (fun _ => 0) (fun _ => (nI (1))) 0 64))), (t0, .inr (10, [.ref (q_1), .ref (q_2)]))]) ⟨hx, hb, hml, hown, hts⟩ (qJ7_fill_53178 l D cy q_2 64 (fun _ => 0) (nI (2)) (by decide)) (va_cwS 2 hts gX10_init_J7_fill_53178 rfl rfl rfl (by decide +kernel) ⟨Nat.le_of_ble_eq_true rfl, Nat.le_of_ble_eq_true rfl⟩) hP hK hD hN hS hA rfl hl.1 rfl (Nat.le_of_ble_eq_true rfl) dX10_init_33 ⟨Nat.le_of_ble_eq_true rfl, Nat.le_of_ble_eq_true rfl⟩ (fun w1 H locs hq hP hD hS => ?_)
  subst hq
  have hP : va_P D vwCl ([(q_2, .inl (cy 0, 64, .inl (cpI (fun _ => 0) (fun _ => (nI (2))) 0 64))), (q_1, .inl (cy 0, 64, .inl (cpI (fun _ => 0) (fun _ => (nI (1))) 0 64))), (t0, .inr (10, [.ref (q_1), .ref (q_2)]))]) H := hP
  have hD : va_D A ([(q_2, .inl (cy 0, 64, .inl (cpI (fun _ => 0) (fun _ => (nI (2))) 0 64))), (q_1, .inl (cy 0, 64, .inl (cpI (fun _ => 0) (fun _ => (nI (1))) 0 64))), (t0, .inr (10, [.ref (q_1), .ref (q_2)]))]) := hD
  have hP := hP.sub (ws' := [(t0, .inr (10, [.ref (q_1), .ref (q_2)])), (q_1, .inl (cy 0, 64, .inl (cpI (fun _ => 0) (fun _ => (nI (1))) 0 64))), (q_2, .inl (cy 0, 64, .inl (cpI (fun _ => 0) (fun _ => (nI (2))) 0 64)))]) [2, 1, 0] rfl
  have hD := hD.sub (ws' := [(t0, .inr (10, [.ref (q_1), .ref (q_2)])), (q_1, .inl (cy 0, 64, .inl (cpI (fun _ => 0) (fun _ => (nI (1))) 0 64))), (q_2, .inl (cy 0, 64, .inl (cpI (fun _ => 0) (fun _ => (nI (2))) 0 64)))]) [2, 1, 0] (by decide) rfl
  rw [tb_fill 1 _ (fun _ => rfl), tb_fill 2 _ (fun _ => rfl)] at hP hD
  exact hret _ _ _ _ _ ⟨q_1, q_2, rfl⟩ hP hD hS dX10_init_36
