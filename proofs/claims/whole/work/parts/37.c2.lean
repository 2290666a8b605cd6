theorem xor_neg {x y : Int64} (hy : 0 ≤ y.toInt) : (x ^^^ y) < 0 ↔ x.toInt < 0 := by
  have e1 : (x ^^^ y).toBitVec.msb = (x.toBitVec.msb ^^ y.toBitVec.msb) := by rw [Int64.toBitVec_xor, BitVec.msb_xor]
  have e2 : y.toBitVec.msb = false := by rw [BitVec.msb_eq_toInt]; exact decide_eq_false (show ¬ y.toInt < 0 by omega)
  rw [e2, Bool.xor_false, BitVec.msb_eq_toInt, BitVec.msb_eq_toInt] at e1
  rw [Int64.lt_iff_toInt_lt]
  exact decide_eq_decide.mp e1
set_option maxHeartbeats 4000000 in
set_option maxRecDepth 100000 in
theorem qX4_drop (l : Launch) (D : va_G) (cy : Nat → ClassId) (h : Nat) (f : Nat) (t : Nat) (n : Nat) (b : Int64) (sl : Int64) (sp : Int64) (so : Int64) (wo : Int64) (F : Nat → Nat) (T : Nat → Nat)  (hn : n ≤ 8) (hF : w9 F n) (hT : w9 T n) (hn0 : 0 < n) : nq_v l D (cT cy) yX4_drop wsX4_drop 3 0 0 80 [.ref (h)] ([(h, .inr (4, [.ref (f), .ref (t), .int (nI (n)), .long (b), .long (sl), .long (sp), .long (so), .long (wo)])), (f, .inl (cy 0, 8, .inl (nA F))), (t, .inl (cy 0, 8, .inl (nA T)))]) (fun w1 => w1 = [(h, .inr (4, [.ref (f), .ref (t), .int (nI (n - 1)), .long (lZ (vBs F T (n - 1))), .long (lZ (vSl F T (n - 1))), .long (lZ (vSp F (n - 1))), .long (lZ (vSp T (n - 1))), .long (lN (vWo F T (n - 1)))])), (f, .inl (cy 0, 8, .inl (nA F))), (t, .inl (cy 0, 8, .inl (nA T)))]) := by
  refine nq_v_of (cc := cX4_drop) (maxL := 1) (by decide) rfl (Nat.le_of_ble_eq_true rfl) ?_
  intro p e s m args below meth c A Q ls hx hb hts hown hml hnm hN hA hP hK hD hS hl hret
  have hown : s.vm.findClass RX4 = some m.cls := hown
  have hinX4 : ∀ w ∈ u_ws RX4 TX4 8, w ∈ wsX4_drop := by decide +kernel
  have hl : lv_has ls 1 [(0, .ref (h))] := hl
  have hP : va_P D vwCl ([(h, .inr (4, [.ref (f), .ref (t), .int (nI (n)), .long (b), .long (sl), .long (sp), .long (so), .long (wo)])), (f, .inl (cy 0, 8, .inl (nA F))), (t, .inl (cy 0, 8, .inl (nA T)))]) s.heap := hP
  refine lv_aload_n hx hb dX4_drop_0 rfl (lv_at hl 0 rfl) ?_
  refine va_get (D := D) (ci := 4) (v := .int (nI (n))) (C := RX4) (T := TX4) (N := 8) hx hb hts hinX4 hown hK hP 0 rfl rfl 2 (by decide) (hts (.fieldLink RX4 18 "CornDesk$Line" "count" "I") (by decide +kernel)) (fun _ h9 => h9) rfl dX4_drop_1 ?_
  refine lv_if_le (tgt := 21) hx hb dX4_drop_4 (by decide) (fun cc => absurd cc (nI_nle hn0 (by omega))) (fun _ => ?_)
  refine lv_aload_n hx hb dX4_drop_7 rfl (lv_at hl 0 rfl) ?_
  refine lv_dup hx hb dX4_drop_8 rfl ?_
  refine va_get (D := D) (ci := 4) (v := .int (nI (n))) (C := RX4) (T := TX4) (N := 8) hx hb hts hinX4 hown hK hP 0 rfl rfl 2 (by decide) (hts (.fieldLink RX4 18 "CornDesk$Line" "count" "I") (by decide +kernel)) (fun _ h9 => h9) rfl dX4_drop_9 ?_
  refine lv_iconst (v := (nI (1))) hx hb dX4_drop_12 (by decide) ?_
  refine ln_isub hx hb dX4_drop_13 (by omega) ?_
  refine va_put (D := D) (ci := 4) (v := .int (nI ((n) - (1)))) (ty := .int) (C := RX4) (T := TX4) (N := 8) hx hb hts hinX4 tyX4 tyX4_ok nmX4 hown hK hP hD hS 0 rfl rfl 2 (by decide) (hts (.fieldLink RX4 18 "CornDesk$Line" "count" "I") (by decide +kernel)) (fun _ h9 => h9) rfl (by decide +kernel) rfl rfl (Nat.le_of_ble_eq_true rfl) dX4_drop_14 (fun H locs hP hD hS => ?_)
  have hP : va_P D vwCl ([(h, .inr (4, [.ref (f), .ref (t), .int (nI ((n) - (1))), .long (b), .long (sl), .long (sp), .long (so), .long (wo)])), (f, .inl (cy 0, 8, .inl (nA F))), (t, .inl (cy 0, 8, .inl (nA T)))]) H := hP
  have hD : va_D A ([(h, .inr (4, [.ref (f), .ref (t), .int (nI ((n) - (1))), .long (b), .long (sl), .long (sp), .long (so), .long (wo)])), (f, .inl (cy 0, 8, .inl (nA F))), (t, .inl (cy 0, 8, .inl (nA T)))]) := hD
  refine lv_aload_n hx hb dX4_drop_17 rfl (lv_at hl 0 rfl) ?_
  refine nq_Vv (As := []) (rest := []) (w := [(h, .inr (4, [.ref (f), .ref (t), .int (nI ((n) - (1))), .long (b), .long (sl), .long (sp), .long (so), .long (wo)])), (f, .inl (cy 0, 8, .inl (nA F))), (t, .inl (cy 0, 8, .inl (nA T)))]) (wr := []) (ci := 4) (k0 := 0) ⟨hx, hb, hml, hown, hts⟩ (qX4_fit l D cy h f t ((n) - (1)) b sl sp so wo F T  (by omega) (fun k hk => hF k (by omega)) (fun k hk => hT k (by omega))) (cwV 0 hts gX4_drop_X4_fit rfl rfl rfl (by decide +kernel) ⟨Nat.le_of_ble_eq_true rfl, Nat.le_of_ble_eq_true rfl⟩) rfl rfl hP hK hD hN hS hA rfl hl.1 rfl (Nat.le_of_ble_eq_true rfl) dX4_drop_18 ⟨Nat.le_of_ble_eq_true rfl, Nat.le_of_ble_eq_true rfl⟩ (fun w1 H locs hq hP hD hS => ?_)
  subst hq
  have hP : va_P D vwCl ([(h, .inr (4, [.ref (f), .ref (t), .int (nI ((n) - (1))), .long (lZ (vBs F T ((n) - (1)))), .long (lZ (vSl F T ((n) - (1)))), .long (lZ (vSp F ((n) - (1)))), .long (lZ (vSp T ((n) - (1)))), .long (lN (vWo F T ((n) - (1))))])), (f, .inl (cy 0, 8, .inl (nA F))), (t, .inl (cy 0, 8, .inl (nA T)))]) H := hP
  have hD : va_D A ([(h, .inr (4, [.ref (f), .ref (t), .int (nI ((n) - (1))), .long (lZ (vBs F T ((n) - (1)))), .long (lZ (vSl F T ((n) - (1)))), .long (lZ (vSp F ((n) - (1)))), .long (lZ (vSp T ((n) - (1)))), .long (lN (vWo F T ((n) - (1))))])), (f, .inl (cy 0, 8, .inl (nA F))), (t, .inl (cy 0, 8, .inl (nA T)))]) := hD
  exact hret _ _ _ _ _ rfl hP hD hS dX4_drop_21
set_option maxHeartbeats 4000000 in
set_option maxRecDepth 100000 in
theorem qX4_init (l : Launch) (D : va_G) (cy : Nat → ClassId) (h : Nat)   : nq_v l D (cT cy) yX4_init wsX4_init 1 2 16 14 [.ref (h)] ([(h, .inr (4, [.null, .null, .int (nI (0)), .long (0), .long (0), .long (0), .long (0), .long (0)]))]) (fun w1 => ∃ f t : Nat, w1 = [(h, .inr (4, [.ref (f), .ref (t), .int (nI (0)), .long (0), .long (0), .long (0), .long (0), .long (0)])), (f, .inl (cy 0, 8, .inl (nA (fun _ => 0)))), (t, .inl (cy 0, 8, .inl (nA (fun _ => 0))))]) := by
  refine nq_v_of (cc := cX4_init) (maxL := 1) (by decide) rfl (Nat.le_of_ble_eq_true rfl) ?_
  intro p e s m args below meth c A Q ls hx hb hts hown hml hnm hN hA hP hK hD hS hl hret
  have hown : s.vm.findClass RX4 = some m.cls := hown
  have hnm : meth.name = "<init>" := hnm
  have hinX4 : ∀ w ∈ u_ws RX4 TX4 8, w ∈ wsX4_init := by decide +kernel
  have hl : lv_has ls 1 [(0, .ref (h))] := hl
  have hP : va_P D vwCl ([(h, .inr (4, [.null, .null, .int (nI (0)), .long (0), .long (0), .long (0), .long (0), .long (0)]))]) s.heap := hP
  refine lv_aload_n hx hb dX4_init_0 rfl (lv_at hl 0 rfl) ?_
  refine W.objInit hx hb hown (hts (.methodLink RX4 3 objectInit) (by decide +kernel)) (hts (.instanceMethod objectInit) (by decide +kernel)) (hts (.code objectInit ⟨#[0xb1]⟩ 1 none) (List.mem_cons_of_mem _ (by first | exact List.mem_append_left _ (List.mem_of_getElem? (i := 2) rfl) | exact List.mem_of_getElem? (i := 2) rfl))) rfl (by rw [hml]; exact hl.1) rfl dX4_init_1 (Nat.le_of_ble_eq_true rfl) (Nat.le_of_ble_eq_true rfl) ?_
  refine W.eq (g2 := F0 m 4 ls []) rfl ?_
  refine lv_aload_n hx hb dX4_init_4 rfl (lv_at hl 0 rfl) ?_
  refine lv_bipush (v := (nI (8))) hx hb dX4_init_5 (by decide) ?_
  refine mk_i hx hb (hts (.arrayClass .int) (by decide +kernel)) hK hP hD hS hA 0 rfl (by decide) (Nat.le_of_ble_eq_true rfl) (Nat.le_of_ble_eq_true rfl) dX4_init_7 (fun q_1 H hP hD hS => ?_)
  have hP : va_P D vwCl ([(h, .inr (4, [.null, .null, .int (nI (0)), .long (0), .long (0), .long (0), .long (0), .long (0)])), (q_1, .inl (cy 0, 8, .inl (nA (fun _ => 0))))]) H := hP
  have hD : va_D A ([(h, .inr (4, [.null, .null, .int (nI (0)), .long (0), .long (0), .long (0), .long (0), .long (0)])), (q_1, .inl (cy 0, 8, .inl (nA (fun _ => 0))))]) := hD
  refine va_putF (D := D) (ci := 4) (v := .ref (q_1)) (ty := .array .int) (C := RX4) (T := TX4) (N := 8) hx hb hts hinX4 tyX4 tyX4_ok nmX4 hown hK hP hD hS 0 rfl rfl 0 (by decide) (hts (.fieldLink RX4 9 "CornDesk$Line" "from" "[I") (by decide +kernel)) (fun _ h9 => h9) rfl hnm rfl (by decide +kernel) rfl rfl (Nat.le_of_ble_eq_true rfl) dX4_init_9 (fun H locs hP hD hS => ?_)
  have hP : va_P D vwCl ([(h, .inr (4, [.ref (q_1), .null, .int (nI (0)), .long (0), .long (0), .long (0), .long (0), .long (0)])), (q_1, .inl (cy 0, 8, .inl (nA (fun _ => 0))))]) H := hP
  have hD : va_D A ([(h, .inr (4, [.ref (q_1), .null, .int (nI (0)), .long (0), .long (0), .long (0), .long (0), .long (0)])), (q_1, .inl (cy 0, 8, .inl (nA (fun _ => 0))))]) := hD
  refine lv_aload_n hx hb dX4_init_12 rfl (lv_at hl 0 rfl) ?_
  refine lv_bipush (v := (nI (8))) hx hb dX4_init_13 (by decide) ?_
  refine mk_i hx hb (hts (.arrayClass .int) (by decide +kernel)) hK hP hD hS hA 0 rfl (by decide) (Nat.le_of_ble_eq_true rfl) (Nat.le_of_ble_eq_true rfl) dX4_init_15 (fun q_2 H hP hD hS => ?_)
  have hP : va_P D vwCl ([(h, .inr (4, [.ref (q_1), .null, .int (nI (0)), .long (0), .long (0), .long (0), .long (0), .long (0)])), (q_1, .inl (cy 0, 8, .inl (nA (fun _ => 0)))), (q_2, .inl (cy 0, 8, .inl (nA (fun _ => 0))))]) H := hP
  have hD : va_D A ([(h, .inr (4, [.ref (q_1), .null, .int (nI (0)), .long (0), .long (0), .long (0), .long (0), .long (0)])), (q_1, .inl (cy 0, 8, .inl (nA (fun _ => 0)))), (q_2, .inl (cy 0, 8, .inl (nA (fun _ => 0))))]) := hD
  refine va_putF (D := D) (ci := 4) (v := .ref (q_2)) (ty := .array .int) (C := RX4) (T := TX4) (N := 8) hx hb hts hinX4 tyX4 tyX4_ok nmX4 hown hK hP hD hS 0 rfl rfl 1 (by decide) (hts (.fieldLink RX4 15 "CornDesk$Line" "to" "[I") (by decide +kernel)) (fun _ h9 => h9) rfl hnm rfl (by decide +kernel) rfl rfl (Nat.le_of_ble_eq_true rfl) dX4_init_17 (fun H locs hP hD hS => ?_)
  have hP : va_P D vwCl ([(h, .inr (4, [.ref (q_1), .ref (q_2), .int (nI (0)), .long (0), .long (0), .long (0), .long (0), .long (0)])), (q_1, .inl (cy 0, 8, .inl (nA (fun _ => 0)))), (q_2, .inl (cy 0, 8, .inl (nA (fun _ => 0))))]) H := hP
  have hD : va_D A ([(h, .inr (4, [.ref (q_1), .ref (q_2), .int (nI (0)), .long (0), .long (0), .long (0), .long (0), .long (0)])), (q_1, .inl (cy 0, 8, .inl (nA (fun _ => 0)))), (q_2, .inl (cy 0, 8, .inl (nA (fun _ => 0))))]) := hD
  exact hret _ _ _ _ _ ⟨q_1, q_2, rfl⟩ hP hD hS dX4_init_20
set_option maxHeartbeats 4000000 in
set_option maxRecDepth 100000 in
theorem qX7_size (l : Launch) (D : va_G) (cy : Nat → ClassId) (p0 : Nat) (hX : Nat) (hY : Nat) (fX : Nat) (tX : Nat) (n : Nat) (bX : Int64) (slX : Int64) (spX : Int64) (soX : Int64) (woX : Int64) (FX : Nat → Nat) (TX : Nat → Nat) (fY : Nat) (tY : Nat) (bY : Int64) (slY : Int64) (spY : Int64) (soY : Int64) (woY : Int64) (FY : Nat → Nat) (TY : Nat → Nat)   : nq_i l D (cT cy) yX7_size wsX7_size 1 0 0 20 [.ref (p0)] ([(p0, .inr (7, [.ref (hX), .ref (hY)])), (hX, .inr (4, [.ref (fX), .ref (tX), .int (nI (n)), .long (bX), .long (slX), .long (spX), .long (soX), .long (woX)])), (fX, .inl (cy 0, 8, .inl (nA FX))), (tX, .inl (cy 0, 8, .inl (nA TX))), (hY, .inr (4, [.ref (fY), .ref (tY), .int (nI (n)), .long (bY), .long (slY), .long (spY), .long (soY), .long (woY)])), (fY, .inl (cy 0, 8, .inl (nA FY))), (tY, .inl (cy 0, 8, .inl (nA TY)))]) (fun r w1 => r = nI n ∧ w1 = [(p0, .inr (7, [.ref (hX), .ref (hY)])), (hX, .inr (4, [.ref (fX), .ref (tX), .int (nI (n)), .long (bX), .long (slX), .long (spX), .long (soX), .long (woX)])), (fX, .inl (cy 0, 8, .inl (nA FX))), (tX, .inl (cy 0, 8, .inl (nA TX))), (hY, .inr (4, [.ref (fY), .ref (tY), .int (nI (n)), .long (bY), .long (slY), .long (spY), .long (soY), .long (woY)])), (fY, .inl (cy 0, 8, .inl (nA FY))), (tY, .inl (cy 0, 8, .inl (nA TY)))]) := by
  refine nq_i_of (cc := cX7_size) (maxL := 1) (by decide) rfl (Nat.le_of_ble_eq_true rfl) ?_
  intro p e s m args below meth c A Q ls hx hb hts hown hml hnm hN hA hP hK hD hS hl hret
  have hown : s.vm.findClass RX7 = some m.cls := hown
  have hinX7 : ∀ w ∈ u_ws RX7 TX7 2, w ∈ wsX7_size := by decide +kernel
  have hl : lv_has ls 1 [(0, .ref (p0))] := hl
  have hP : va_P D vwCl ([(p0, .inr (7, [.ref (hX), .ref (hY)])), (hX, .inr (4, [.ref (fX), .ref (tX), .int (nI (n)), .long (bX), .long (slX), .long (spX), .long (soX), .long (woX)])), (fX, .inl (cy 0, 8, .inl (nA FX))), (tX, .inl (cy 0, 8, .inl (nA TX))), (hY, .inr (4, [.ref (fY), .ref (tY), .int (nI (n)), .long (bY), .long (slY), .long (spY), .long (soY), .long (woY)])), (fY, .inl (cy 0, 8, .inl (nA FY))), (tY, .inl (cy 0, 8, .inl (nA TY)))]) s.heap := hP
  refine lv_aload_n hx hb dX7_size_0 rfl (lv_at hl 0 rfl) ?_
  refine va_get (D := D) (ci := 7) (v := .ref (hX)) (C := RX7) (T := TX7) (N := 2) hx hb hts hinX7 hown hK hP 0 rfl rfl 0 (by decide) (hts (.fieldLink RX7 10 "CornDesk$Picture" "alongX" "LCornDesk$Line;") (by decide +kernel)) (fun _ h9 => h9) rfl dX7_size_1 ?_
  have hP := hP.sub (ws' := [(hX, .inr (4, [.ref (fX), .ref (tX), .int (nI (n)), .long (bX), .long (slX), .long (spX), .long (soX), .long (woX)])), (fX, .inl (cy 0, 8, .inl (nA FX))), (tX, .inl (cy 0, 8, .inl (nA TX))), (p0, .inr (7, [.ref (hX), .ref (hY)])), (hY, .inr (4, [.ref (fY), .ref (tY), .int (nI (n)), .long (bY), .long (slY), .long (spY), .long (soY), .long (woY)])), (fY, .inl (cy 0, 8, .inl (nA FY))), (tY, .inl (cy 0, 8, .inl (nA TY)))]) [1, 2, 3, 0, 4, 5, 6] rfl
  have hD := hD.sub (ws' := [(hX, .inr (4, [.ref (fX), .ref (tX), .int (nI (n)), .long (bX), .long (slX), .long (spX), .long (soX), .long (woX)])), (fX, .inl (cy 0, 8, .inl (nA FX))), (tX, .inl (cy 0, 8, .inl (nA TX))), (p0, .inr (7, [.ref (hX), .ref (hY)])), (hY, .inr (4, [.ref (fY), .ref (tY), .int (nI (n)), .long (bY), .long (slY), .long (spY), .long (soY), .long (woY)])), (fY, .inl (cy 0, 8, .inl (nA FY))), (tY, .inl (cy 0, 8, .inl (nA TY)))]) [1, 2, 3, 0, 4, 5, 6] (by decide) rfl
  refine nq_Vi (As := []) (rest := []) (w := [(hX, .inr (4, [.ref (fX), .ref (tX), .int (nI (n)), .long (bX), .long (slX), .long (spX), .long (soX), .long (woX)])), (fX, .inl (cy 0, 8, .inl (nA FX))), (tX, .inl (cy 0, 8, .inl (nA TX)))]) (wr := [(p0, .inr (7, [.ref (hX), .ref (hY)])), (hY, .inr (4, [.ref (fY), .ref (tY), .int (nI (n)), .long (bY), .long (slY), .long (spY), .long (soY), .long (woY)])), (fY, .inl (cy 0, 8, .inl (nA FY))), (tY, .inl (cy 0, 8, .inl (nA TY)))]) (ci := 4) (k0 := 0) ⟨hx, hb, hml, hown, hts⟩ (qX4_size l D cy hX fX tX n bX slX spX soX woX FX TX  ) (cwV 0 hts gX7_size_X4_size rfl rfl rfl (by decide +kernel) ⟨Nat.le_of_ble_eq_true rfl, Nat.le_of_ble_eq_true rfl⟩) rfl rfl hP hK hD hN hS hA rfl hl.1 rfl (Nat.le_of_ble_eq_true rfl) dX7_size_4 ⟨Nat.le_of_ble_eq_true rfl, Nat.le_of_ble_eq_true rfl⟩ (fun r w1 H locs hq hP hD hS => ?_)
  obtain ⟨rfl, rfl⟩ := hq
  have hP : va_P D vwCl ([(hX, .inr (4, [.ref (fX), .ref (tX), .int (nI (n)), .long (bX), .long (slX), .long (spX), .long (soX), .long (woX)])), (fX, .inl (cy 0, 8, .inl (nA FX))), (tX, .inl (cy 0, 8, .inl (nA TX))), (p0, .inr (7, [.ref (hX), .ref (hY)])), (hY, .inr (4, [.ref (fY), .ref (tY), .int (nI (n)), .long (bY), .long (slY), .long (spY), .long (soY), .long (woY)])), (fY, .inl (cy 0, 8, .inl (nA FY))), (tY, .inl (cy 0, 8, .inl (nA TY)))]) H := hP
  have hD : va_D A ([(hX, .inr (4, [.ref (fX), .ref (tX), .int (nI (n)), .long (bX), .long (slX), .long (spX), .long (soX), .long (woX)])), (fX, .inl (cy 0, 8, .inl (nA FX))), (tX, .inl (cy 0, 8, .inl (nA TX))), (p0, .inr (7, [.ref (hX), .ref (hY)])), (hY, .inr (4, [.ref (fY), .ref (tY), .int (nI (n)), .long (bY), .long (slY), .long (spY), .long (soY), .long (woY)])), (fY, .inl (cy 0, 8, .inl (nA FY))), (tY, .inl (cy 0, 8, .inl (nA TY)))]) := hD
  have hP := hP.sub (ws' := [(p0, .inr (7, [.ref (hX), .ref (hY)])), (hX, .inr (4, [.ref (fX), .ref (tX), .int (nI (n)), .long (bX), .long (slX), .long (spX), .long (soX), .long (woX)])), (fX, .inl (cy 0, 8, .inl (nA FX))), (tX, .inl (cy 0, 8, .inl (nA TX))), (hY, .inr (4, [.ref (fY), .ref (tY), .int (nI (n)), .long (bY), .long (slY), .long (spY), .long (soY), .long (woY)])), (fY, .inl (cy 0, 8, .inl (nA FY))), (tY, .inl (cy 0, 8, .inl (nA TY)))]) [3, 0, 1, 2, 4, 5, 6] rfl
  have hD := hD.sub (ws' := [(p0, .inr (7, [.ref (hX), .ref (hY)])), (hX, .inr (4, [.ref (fX), .ref (tX), .int (nI (n)), .long (bX), .long (slX), .long (spX), .long (soX), .long (woX)])), (fX, .inl (cy 0, 8, .inl (nA FX))), (tX, .inl (cy 0, 8, .inl (nA TX))), (hY, .inr (4, [.ref (fY), .ref (tY), .int (nI (n)), .long (bY), .long (slY), .long (spY), .long (soY), .long (woY)])), (fY, .inl (cy 0, 8, .inl (nA FY))), (tY, .inl (cy 0, 8, .inl (nA TY)))]) [3, 0, 1, 2, 4, 5, 6] (by decide) rfl
  exact hret _ _ _ _ _ _ ⟨rfl, rfl⟩ hP hD hS dX7_size_7
set_option maxHeartbeats 4000000 in
set_option maxRecDepth 100000 in
theorem qX7_way (l : Launch) (D : va_G) (cy : Nat → ClassId) (p0 : Nat) (hX : Nat) (hY : Nat) (fX : Nat) (tX : Nat) (n : Nat) (bX : Int64) (slX : Int64) (spX : Int64) (soX : Int64) (woX : Int64) (FX : Nat → Nat) (TX : Nat → Nat) (fY : Nat) (tY : Nat) (bY : Int64) (slY : Int64) (spY : Int64) (soY : Int64) (woY : Int64) (FY : Nat → Nat) (TY : Nat → Nat) (zf : Int32)  : nq_r l D (cT cy) yX7_way wsX7_way 0 0 0 0 [.ref (p0), .int (zf)] ([(p0, .inr (7, [.ref (hX), .ref (hY)])), (hX, .inr (4, [.ref (fX), .ref (tX), .int (nI (n)), .long (bX), .long (slX), .long (spX), .long (soX), .long (woX)])), (fX, .inl (cy 0, 8, .inl (nA FX))), (tX, .inl (cy 0, 8, .inl (nA TX))), (hY, .inr (4, [.ref (fY), .ref (tY), .int (nI (n)), .long (bY), .long (slY), .long (spY), .long (soY), .long (woY)])), (fY, .inl (cy 0, 8, .inl (nA FY))), (tY, .inl (cy 0, 8, .inl (nA TY)))]) (fun r w1 => r = (if zf = 0 then some hX else some hY) ∧ w1 = [(p0, .inr (7, [.ref (hX), .ref (hY)])), (hX, .inr (4, [.ref (fX), .ref (tX), .int (nI (n)), .long (bX), .long (slX), .long (spX), .long (soX), .long (woX)])), (fX, .inl (cy 0, 8, .inl (nA FX))), (tX, .inl (cy 0, 8, .inl (nA TX))), (hY, .inr (4, [.ref (fY), .ref (tY), .int (nI (n)), .long (bY), .long (slY), .long (spY), .long (soY), .long (woY)])), (fY, .inl (cy 0, 8, .inl (nA FY))), (tY, .inl (cy 0, 8, .inl (nA TY)))]) := by
  refine nq_r_of (cc := cX7_way) (maxL := 2) (by decide) rfl (by first | exact Or.inl ⟨_, rfl⟩ | exact Or.inr ⟨_, rfl⟩) (Nat.le_of_ble_eq_true rfl) ?_
  intro p e s m args below meth c A Q ls hx hb hts hown hml hnm hN hA hP hK hD hS hl hret
  have hown : s.vm.findClass RX7 = some m.cls := hown
  have hinX7 : ∀ w ∈ u_ws RX7 TX7 2, w ∈ wsX7_way := by decide +kernel
  have hl : lv_has ls 2 [(0, .ref (p0)), (1, .int (zf))] := hl
  have hP : va_P D vwCl ([(p0, .inr (7, [.ref (hX), .ref (hY)])), (hX, .inr (4, [.ref (fX), .ref (tX), .int (nI (n)), .long (bX), .long (slX), .long (spX), .long (soX), .long (woX)])), (fX, .inl (cy 0, 8, .inl (nA FX))), (tX, .inl (cy 0, 8, .inl (nA TX))), (hY, .inr (4, [.ref (fY), .ref (tY), .int (nI (n)), .long (bY), .long (slY), .long (spY), .long (soY), .long (woY)])), (fY, .inl (cy 0, 8, .inl (nA FY))), (tY, .inl (cy 0, 8, .inl (nA TY)))]) s.heap := hP
  refine lv_iload_n hx hb dX7_way_0 rfl (lv_at hl 1 rfl) ?_
  refine lv_if_eq (tgt := 11) hx hb dX7_way_1 (by decide) (fun c1 => ?_) (fun c1 => ?_)
  · refine lv_aload_n hx hb dX7_way_11 rfl (lv_at hl 0 rfl) ?_
    refine va_get (D := D) (ci := 7) (v := .ref (hX)) (C := RX7) (T := TX7) (N := 2) hx hb hts hinX7 hown hK hP 0 rfl rfl 0 (by decide) (hts (.fieldLink RX7 10 "CornDesk$Picture" "alongX" "LCornDesk$Line;") (by decide +kernel)) (fun _ h9 => h9) rfl dX7_way_12 ?_
    exact hret (some hX) _ _ _ _ _ ⟨by rw [if_pos c1], rfl⟩ hP hD hS dX7_way_15
  · refine lv_aload_n hx hb dX7_way_4 rfl (lv_at hl 0 rfl) ?_
    refine va_get (D := D) (ci := 7) (v := .ref (hY)) (C := RX7) (T := TX7) (N := 2) hx hb hts hinX7 hown hK hP 0 rfl rfl 1 (by decide) (hts (.fieldLink RX7 16 "CornDesk$Picture" "alongY" "LCornDesk$Line;") (by decide +kernel)) (fun _ h9 => h9) rfl dX7_way_5 ?_
    refine lv_goto (tgt := 15) hx hb dX7_way_8 (by decide) ?_
    exact hret (some hY) _ _ _ _ _ ⟨by rw [if_neg c1], rfl⟩ hP hD hS dX7_way_15
