theorem sumS_z (v : Nat → Nat) : ∀ n, sumS v 0 n = 0
  | 0 => rfl
  | n + 1 => by rw [sumS, sumS_z v n]; simp
theorem plB_1 (V HO : Nat → Nat) (hr : Nat) : plB (fun st => sumS V st 8) (fun st => sumS HO st 8) hr 1 = (0, 0, 0) :=
  plB_n rfl (fun h => by
    have h2 : 0 < sumS V 0 8 ∨ (sumS V 0 8 = 0 ∧ sumS HO 0 8 < 0) := h.2
    rw [sumS_z, sumS_z] at h2
    omega)
set_option maxHeartbeats 4000000 in
set_option maxRecDepth 100000 in
theorem qX1_choose (l : Launch) (D : va_G) (cy : Nat → ClassId) (g0 : Nat) (ga : Nat) (ho : Nat) (bs : Nat) (bg : Int64) (bh : Nat) (GA : Nat → Int64) (HO : Nat → Nat) (ct : Nat) (hr : Nat) (V : Nat → Nat) (hG : ∀ j, j < 8 → GA j = lN (V j)) (hV : ∀ j, j < 8 → V j ≤ 49500000) (hH : ∀ j, j < 8 → HO j ≤ 9) (hct : ct ≤ 8) (hhr : hr ≤ 99) : nq_v l D (cT cy) yX1_choose wsX1_choose 1 0 0 26 [.ref (g0), .int (nI (ct)), .int (nI (hr))] ([(g0, .inr (1, [.ref (ga), .ref (ho), .int (nI (bs)), .long (bg), .int (nI (bh))])), (ga, .inl (cy 1, 8, .inr (.inl GA))), (ho, .inl (cy 0, 8, .inl (nA HO)))]) (fun w1 => w1 = [(g0, .inr (1, [.ref (ga), .ref (ho), .int (nI ((plB (fun st => sumS V st 8) (fun st => sumS HO st 8) hr (2 ^ ct)).1)), .long (lN (plB (fun st => sumS V st 8) (fun st => sumS HO st 8) hr (2 ^ ct)).2.1), .int (nI ((plB (fun st => sumS V st 8) (fun st => sumS HO st 8) hr (2 ^ ct)).2.2))])), (ga, .inl (cy 1, 8, .inr (.inl GA))), (ho, .inl (cy 0, 8, .inl (nA HO)))]) := by
  refine nq_v_of (cc := cX1_choose) (maxL := 5) (by decide) rfl (Nat.le_of_ble_eq_true rfl) ?_
  intro p e s m args below meth c A Q ls hx hb hts hown hml hnm hN hA hP hK hD hS hl hret
  have hown : s.vm.findClass RX1 = some m.cls := hown
  have hinX1 : ∀ w ∈ u_ws RX1 TX1 5, w ∈ wsX1_choose := by decide +kernel
  have hl : lv_has ls 5 [(0, .ref (g0)), (1, .int (nI (ct))), (2, .int (nI (hr)))] := hl
  have hP : va_P D vwCl ([(g0, .inr (1, [.ref (ga), .ref (ho), .int (nI (bs)), .long (bg), .int (nI (bh))])), (ga, .inl (cy 1, 8, .inr (.inl GA))), (ho, .inl (cy 0, 8, .inl (nA HO)))]) s.heap := hP
  have h256 : 2 ^ ct ≤ 2 ^ 8 := Nat.pow_le_pow_right (by decide) hct
  have h1p : 1 ≤ 2 ^ ct := Nat.one_le_two_pow
  refine lv_aload_n hx hb dX1_choose_0 rfl (lv_at hl 0 rfl) ?_
  refine lv_iconst (v := (nI (0))) hx hb dX1_choose_1 (by decide) ?_
  refine va_put (D := D) (ci := 1) (v := .int (nI (0))) (ty := .int) (C := RX1) (T := TX1) (N := 5) hx hb hts hinX1 tyX1 tyX1_ok nmX1 hown hK hP hD hS 0 rfl rfl 2 (by decide) (hts (.fieldLink RX1 19 "CornDesk$Flight" "bestSet" "I") (by decide +kernel)) (fun _ h9 => h9) rfl (by decide +kernel) rfl rfl (Nat.le_of_ble_eq_true rfl) dX1_choose_2 (fun H locs hP hD hS => ?_)
  have hP : va_P D vwCl ([(g0, .inr (1, [.ref (ga), .ref (ho), .int (nI (0)), .long (bg), .int (nI (bh))])), (ga, .inl (cy 1, 8, .inr (.inl GA))), (ho, .inl (cy 0, 8, .inl (nA HO)))]) H := hP
  have hD : va_D A ([(g0, .inr (1, [.ref (ga), .ref (ho), .int (nI (0)), .long (bg), .int (nI (bh))])), (ga, .inl (cy 1, 8, .inr (.inl GA))), (ho, .inl (cy 0, 8, .inl (nA HO)))]) := hD
  refine lv_aload_n hx hb dX1_choose_5 rfl (lv_at hl 0 rfl) ?_
  refine lv_lconst (v := 0) hx hb dX1_choose_6 (by decide) ?_
  refine va_put (D := D) (ci := 1) (v := .long (0)) (ty := .long) (C := RX1) (T := TX1) (N := 5) hx hb hts hinX1 tyX1 tyX1_ok nmX1 hown hK hP hD hS 0 rfl rfl 3 (by decide) (hts (.fieldLink RX1 23 "CornDesk$Flight" "bestGain" "J") (by decide +kernel)) (fun _ h9 => h9) rfl (by decide +kernel) rfl rfl (Nat.le_of_ble_eq_true rfl) dX1_choose_7 (fun H locs hP hD hS => ?_)
  have hP : va_P D vwCl ([(g0, .inr (1, [.ref (ga), .ref (ho), .int (nI (0)), .long (0), .int (nI (bh))])), (ga, .inl (cy 1, 8, .inr (.inl GA))), (ho, .inl (cy 0, 8, .inl (nA HO)))]) H := hP
  have hD : va_D A ([(g0, .inr (1, [.ref (ga), .ref (ho), .int (nI (0)), .long (0), .int (nI (bh))])), (ga, .inl (cy 1, 8, .inr (.inl GA))), (ho, .inl (cy 0, 8, .inl (nA HO)))]) := hD
  refine lv_aload_n hx hb dX1_choose_10 rfl (lv_at hl 0 rfl) ?_
  refine lv_iconst (v := (nI (0))) hx hb dX1_choose_11 (by decide) ?_
  refine va_put (D := D) (ci := 1) (v := .int (nI (0))) (ty := .int) (C := RX1) (T := TX1) (N := 5) hx hb hts hinX1 tyX1 tyX1_ok nmX1 hown hK hP hD hS 0 rfl rfl 4 (by decide) (hts (.fieldLink RX1 35 "CornDesk$Flight" "bestHours" "I") (by decide +kernel)) (fun _ h9 => h9) rfl (by decide +kernel) rfl rfl (Nat.le_of_ble_eq_true rfl) dX1_choose_12 (fun H locs hP hD hS => ?_)
  have hP : va_P D vwCl ([(g0, .inr (1, [.ref (ga), .ref (ho), .int (nI (0)), .long (0), .int (nI (0))])), (ga, .inl (cy 1, 8, .inr (.inl GA))), (ho, .inl (cy 0, 8, .inl (nA HO)))]) H := hP
  have hD : va_D A ([(g0, .inr (1, [.ref (ga), .ref (ho), .int (nI (0)), .long (0), .int (nI (0))])), (ga, .inl (cy 1, 8, .inr (.inl GA))), (ho, .inl (cy 0, 8, .inl (nA HO)))]) := hD
  refine lv_iconst (v := (nI (1))) hx hb dX1_choose_15 (by decide) ?_
  refine lv_iload_n hx hb dX1_choose_16 rfl (lv_at hl 1 rfl) ?_
  refine lv_bipush (v := (nI (8))) hx hb dX1_choose_17 (by decide) ?_
  refine va_mmin hx hb (hml.trans hl.1.symm) hown (hts (.methodLink RX1 38 Lib.Math.min.name) (by decide +kernel)) (hts (.static Lib.Math.min.name) (by decide +kernel)) (hts (.initialized "java/lang/Math") (by decide +kernel)) (hts (.code Lib.Math.min.name Lib.Math.min.code 2 (some .int)) (by decide +kernel)) (Nat.le_of_ble_eq_true rfl) (Nat.le_of_ble_eq_true rfl) (Nat.le_of_ble_eq_true rfl) (Nat.le_of_ble_eq_true rfl) dX1_choose_19 ?_
  refine ln_eqi (y := (nI (ct))) (by rw [min_N (by omega) (by decide), Nat.min_eq_left hct]) ?_
  refine lv_ishl hx hb dX1_choose_22 ?_
  refine ln_eqi (y := (nI (2 ^ ct))) (show nI 1 <<< (nI ct &&& 31) = nI (2 ^ ct) by rw [pk_shlN (n := 1) _ ct (sl31 _ (by omega)) (by omega), Nat.one_mul]) ?_
  refine lv_istore_n (lv' := [(3, .int (nI (2 ^ ct))), (0, .ref (g0)), (1, .int (nI (ct))), (2, .int (nI (hr)))]) hx hb dX1_choose_23 rfl hl (by decide) rfl (fun ls hl => ?_)
  refine lv_iconst (v := (nI (1))) hx hb dX1_choose_24 (by decide) ?_
  refine lv_istore (lv' := [(4, .int (nI (1))), (3, .int (nI (2 ^ ct))), (0, .ref (g0)), (1, .int (nI (ct))), (2, .int (nI (hr)))]) hx hb dX1_choose_25 hl (by decide) rfl (fun ls hl => ?_)
  have lp : ∀ (i : Nat) (st : Nat) (x : Nat) (y : Nat) (z : Nat), (st + i = 2 ^ ct) → (plB (fun st => sumS V st 8) (fun st => sumS HO st 8) hr st = (x, y, z)) → (y ≤ 400000000) → (z ≤ 100) → ∀ (H : Heap) (locs : List Loc) (ls : Array Slot), va_P D vwCl ([(g0, .inr (1, [.ref (ga), .ref (ho), .int (nI (x)), .long (lN y), .int (nI (z))])), (ga, .inl (cy 1, 8, .inr (.inl GA))), (ho, .inl (cy 0, 8, .inl (nA HO)))]) H → va_D A ([(g0, .inr (1, [.ref (ga), .ref (ho), .int (nI (x)), .long (lN y), .int (nI (z))])), (ga, .inl (cy 1, 8, .inr (.inl GA))), (ho, .inl (cy 0, 8, .inl (nA HO)))]) → va_S A s.heap H locs → lv_has ls 5 [(4, .int (nI (st))), (3, .int (nI (2 ^ ct))), (0, .ref (g0)), (1, .int (nI (ct))), (2, .int (nI (hr)))] → W p l e (mq_R 1 0 0 26) s m args below meth c H locs 0 0 Q (F0 m 27 ls []) := by
    intro i
    induction i with
    | zero =>
      intro st x y z hk hpl hyb hzb H locs ls hP hD hS hl
      refine lv_iload hx hb dX1_choose_27 (lv_at hl 0 rfl) ?_
      refine lv_iload_n hx hb dX1_choose_29 rfl (lv_at hl 1 rfl) ?_
      refine ln_icmp_ge (tgt := 46) hx hb dX1_choose_30 (by decide) (by omega) (by omega) (fun c1 => ?_) (fun c1 => ?_)
      · have hs0 : st = 2 ^ ct := by omega
        subst hs0
        exact hret _ _ _ _ _ (by rw [hpl]) hP hD hS dX1_choose_46
      · exact absurd hk (by omega)
    | succ i ih =>
      intro st x y z hk hpl hyb hzb H locs ls hP hD hS hl
      refine lv_iload hx hb dX1_choose_27 (lv_at hl 0 rfl) ?_
      refine lv_iload_n hx hb dX1_choose_29 rfl (lv_at hl 1 rfl) ?_
      refine ln_icmp_ge (tgt := 46) hx hb dX1_choose_30 (by decide) (by omega) (by omega) (fun c1 => ?_) (fun c1 => ?_)
      · exact absurd hk (by omega)
      · refine lv_aload_n hx hb dX1_choose_33 rfl (lv_at hl 2 rfl) ?_
        refine lv_iload hx hb dX1_choose_34 (lv_at hl 0 rfl) ?_
        refine lv_iload_n hx hb dX1_choose_36 rfl (lv_at hl 4 rfl) ?_
        refine nq_Vv (As := [.int (nI (st)), .int (nI (hr))]) (rest := []) (w := [(g0, .inr (1, [.ref (ga), .ref (ho), .int (nI (x)), .long (lN y), .int (nI (z))])), (ga, .inl (cy 1, 8, .inr (.inl GA))), (ho, .inl (cy 0, 8, .inl (nA HO)))]) (wr := []) (ci := 1) (k0 := 0) ⟨hx, hb, hml, hown, hts⟩ (qX1_weighSet l D cy g0 ga ho x (lN y) z GA HO (st) (hr) V y hG hV hH (by omega) hhr rfl hyb hzb) (cwV 2 hts gX1_choose_X1_weighSet rfl rfl rfl (by decide +kernel) ⟨Nat.le_of_ble_eq_true rfl, Nat.le_of_ble_eq_true rfl⟩) rfl rfl hP hK hD hN hS hA rfl hl.1 rfl (Nat.le_of_ble_eq_true rfl) dX1_choose_37 ⟨Nat.le_of_ble_eq_true rfl, Nat.le_of_ble_eq_true rfl⟩ (fun w1 H locs hq hP hD hS => ?_)
        obtain ⟨x_1, y_2, z_3, hpl2, hyb2, hzb2, rfl⟩ : ∃ x_1 y_2 z_3 : Nat, plB (fun st => sumS V st 8) (fun st => sumS HO st 8) hr (st + 1) = (x_1, y_2, z_3) ∧ y_2 ≤ 400000000 ∧ z_3 ≤ 100 ∧ w1 = [(g0, .inr (1, [.ref (ga), .ref (ho), .int (nI (x_1)), .long (lN y_2), .int (nI (z_3))])), (ga, .inl (cy 1, 8, .inr (.inl GA))), (ho, .inl (cy 0, 8, .inl (nA HO)))] := by
          have hB1 : sumS V st 8 ≤ 8 * 49500000 := sumS_b hV
          have hB2 : sumS HO st 8 ≤ 8 * 9 := sumS_b hH
          rcases hq with ⟨h, rfl⟩ | ⟨h, rfl⟩
          · exact ⟨_, _, _, plB_y hpl h, by omega, by omega, rfl⟩
          · exact ⟨_, _, _, plB_n hpl h, hyb, hzb, rfl⟩
        have hP : va_P D vwCl ([(g0, .inr (1, [.ref (ga), .ref (ho), .int (nI (x_1)), .long (lN y_2), .int (nI (z_3))])), (ga, .inl (cy 1, 8, .inr (.inl GA))), (ho, .inl (cy 0, 8, .inl (nA HO)))]) H := hP
        have hD : va_D A ([(g0, .inr (1, [.ref (ga), .ref (ho), .int (nI (x_1)), .long (lN y_2), .int (nI (z_3))])), (ga, .inl (cy 1, 8, .inr (.inl GA))), (ho, .inl (cy 0, 8, .inl (nA HO)))]) := hD
        refine lv_iinc (v := (nI (st + 1))) (lv' := [(4, .int (nI (st + 1))), (3, .int (nI (2 ^ ct))), (0, .ref (g0)), (1, .int (nI (ct))), (2, .int (nI (hr)))]) hx hb dX1_choose_40 hl (k := 0) rfl (by rw [show (Int32.ofInt 1) = nI 1 from rfl, nI_add]) (by decide) rfl (fun ls hl => ?_)
        refine lv_goto (tgt := 27) hx hb dX1_choose_43 (by decide) ?_
        exact ih (st + 1) (x_1) (y_2) (z_3) (by omega) (hpl2) (hyb2) (hzb2) _ _ _ hP hD hS hl
  exact lp (2 ^ ct - 1) (1) (0) (0) (0) (by omega) (plB_1 V HO hr) (by decide) (by decide) _ _ _ hP hD hS hl
