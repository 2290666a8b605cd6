def buU (ch so : Nat) (CR DR U L : Nat → Nat) : Nat → Nat
  | 0 => ch
  | k + 1 => buU ch so CR DR U L k * (L (fcC so CR DR k) - U (fcC so CR DR k))
def buN (ch so : Nat) (CR DR L : Nat → Nat) : Nat → Nat
  | 0 => 100 - ch
  | k + 1 => buN ch so CR DR L k * L (fcC so CR DR k)
abbrev tbOk (U L : Nat → Nat) : Prop := ∀ c, c < 64 → 1 ≤ U c ∧ U c < L c ∧ L c ≤ 5000
theorem fcC_lt {so lk k : Nat} {CR DR SN : Nat → Nat} (hs : so ≤ 3) (h : lkOk lk CR DR SN) (hk : k < lk) : fcC so CR DR k < 64 := by
  obtain ⟨h1, h2, -⟩ := h k hk
  show (so * 4 + CR k) * 4 + DR k < 64
  omega
set_option maxHeartbeats 4000000 in
set_option maxRecDepth 100000 in
theorem qX0_believed (l : Launch) (D : va_G) (cy : Nat → ClassId) (f0 : Nat) (so : Nat) (ch : Nat) (ho : Nat) (cA : Nat) (dA : Nat) (sA : Nat) (lk : Nat) (dg : Nat) (fo : Nat) (CR : Nat → Nat) (DR : Nat → Nat) (SN : Nat → Nat) (t0 : Nat) (up : Nat) (lo : Nat) (UP : Nat → Nat) (LO : Nat → Nat) (zf : Int32) (hk4 : lk ≤ 4) (hlo : lkOk lk CR DR SN) (hso : so ≤ 3) (hch : 1 ≤ ch ∧ ch ≤ 99) (htb : tbOk UP LO) (hbU : buU ch so CR DR UP LO lk < 2 ^ 49) (hbN : buN ch so CR DR LO lk < 2 ^ 49) (hb0 : 0 < buN ch so CR DR LO lk) : nq_l l D (cT cy) yX0_believed wsX0_believed 4 0 0 87 [.ref (f0), .ref (t0), .int (zf)] ([(f0, .inr (0, [.int (nI (so)), .int (nI (ch)), .int (nI (ho)), .ref (cA), .ref (dA), .ref (sA), .int (nI (lk)), .int (nI (dg)), .int (nI (fo))])), (cA, .inl (cy 0, 4, .inl (nA CR))), (dA, .inl (cy 0, 4, .inl (nA DR))), (sA, .inl (cy 2, 4, .inl (nA SN))), (t0, .inr (10, [.ref (up), .ref (lo)])), (up, .inl (cy 0, 64, .inl (nA UP))), (lo, .inl (cy 0, 64, .inl (nA LO)))]) (fun r w1 => r = (if fsB SN lk = true then 1 else pcI ((buU ch so CR DR UP LO lk : Nat) : Int) (buU ch so CR DR UP LO lk + buN ch so CR DR LO lk) zf) ∧ w1 = [(f0, .inr (0, [.int (nI (so)), .int (nI (ch)), .int (nI (ho)), .ref (cA), .ref (dA), .ref (sA), .int (nI (lk)), .int (nI (dg)), .int (nI (fo))])), (cA, .inl (cy 0, 4, .inl (nA CR))), (dA, .inl (cy 0, 4, .inl (nA DR))), (sA, .inl (cy 2, 4, .inl (nA SN))), (t0, .inr (10, [.ref (up), .ref (lo)])), (up, .inl (cy 0, 64, .inl (nA UP))), (lo, .inl (cy 0, 64, .inl (nA LO)))]) := by
  refine nq_l_of (cc := cX0_believed) (maxL := 14) (by decide) rfl (Nat.le_of_ble_eq_true rfl) ?_
  intro p e s m args below meth c A Q ls hx hb hts hown hml hnm hN hA hP hK hD hS hl hret
  have hown : s.vm.findClass RX0 = some m.cls := hown
  have hinX0 : ∀ w ∈ u_ws RX0 TX0 9, w ∈ wsX0_believed := by decide +kernel
  have hl : lv_has ls 14 [(0, .ref (f0)), (1, .ref (t0)), (2, .int (zf))] := hl
  have hP : va_P D vwCl ([(f0, .inr (0, [.int (nI (so)), .int (nI (ch)), .int (nI (ho)), .ref (cA), .ref (dA), .ref (sA), .int (nI (lk)), .int (nI (dg)), .int (nI (fo))])), (cA, .inl (cy 0, 4, .inl (nA CR))), (dA, .inl (cy 0, 4, .inl (nA DR))), (sA, .inl (cy 2, 4, .inl (nA SN))), (t0, .inr (10, [.ref (up), .ref (lo)])), (up, .inl (cy 0, 64, .inl (nA UP))), (lo, .inl (cy 0, 64, .inl (nA LO)))]) s.heap := hP
  refine lv_aload_n hx hb dX0_believed_0 rfl (lv_at hl 0 rfl) ?_
  refine nq_Vi (As := []) (rest := []) (w := [(f0, .inr (0, [.int (nI (so)), .int (nI (ch)), .int (nI (ho)), .ref (cA), .ref (dA), .ref (sA), .int (nI (lk)), .int (nI (dg)), .int (nI (fo))])), (cA, .inl (cy 0, 4, .inl (nA CR))), (dA, .inl (cy 0, 4, .inl (nA DR))), (sA, .inl (cy 2, 4, .inl (nA SN)))]) (wr := [(t0, .inr (10, [.ref (up), .ref (lo)])), (up, .inl (cy 0, 64, .inl (nA UP))), (lo, .inl (cy 0, 64, .inl (nA LO)))]) (ci := 0) (k0 := 0) ⟨hx, hb, hml, hown, hts⟩ (qX0_wasSeen l D cy f0 so ch ho cA dA sA lk dg fo CR DR SN  hk4 hlo) (cwV 0 hts gX0_believed_X0_wasSeen rfl rfl rfl (by decide +kernel) ⟨Nat.le_of_ble_eq_true rfl, Nat.le_of_ble_eq_true rfl⟩) rfl rfl hP hK hD hN hS hA rfl hl.1 rfl (Nat.le_of_ble_eq_true rfl) dX0_believed_1 ⟨Nat.le_of_ble_eq_true rfl, Nat.le_of_ble_eq_true rfl⟩ (fun r w1 H locs hq hP hD hS => ?_)
  obtain ⟨rfl, rfl⟩ := hq
  have hP : va_P D vwCl ([(f0, .inr (0, [.int (nI (so)), .int (nI (ch)), .int (nI (ho)), .ref (cA), .ref (dA), .ref (sA), .int (nI (lk)), .int (nI (dg)), .int (nI (fo))])), (cA, .inl (cy 0, 4, .inl (nA CR))), (dA, .inl (cy 0, 4, .inl (nA DR))), (sA, .inl (cy 2, 4, .inl (nA SN))), (t0, .inr (10, [.ref (up), .ref (lo)])), (up, .inl (cy 0, 64, .inl (nA UP))), (lo, .inl (cy 0, 64, .inl (nA LO)))]) H := hP
  have hD : va_D A ([(f0, .inr (0, [.int (nI (so)), .int (nI (ch)), .int (nI (ho)), .ref (cA), .ref (dA), .ref (sA), .int (nI (lk)), .int (nI (dg)), .int (nI (fo))])), (cA, .inl (cy 0, 4, .inl (nA CR))), (dA, .inl (cy 0, 4, .inl (nA DR))), (sA, .inl (cy 2, 4, .inl (nA SN))), (t0, .inr (10, [.ref (up), .ref (lo)])), (up, .inl (cy 0, 64, .inl (nA UP))), (lo, .inl (cy 0, 64, .inl (nA LO)))]) := hD
  refine lb_if_eq (tgt := 9) hx hb dX0_believed_4 (by decide) (fun c1 => ?_) (fun c1 => ?_)
  · refine lv_aload_n hx hb dX0_believed_9 rfl (lv_at hl 0 rfl) ?_
    refine va_get (D := D) (ci := 0) (v := .int (nI (ch))) (C := RX0) (T := TX0) (N := 9) hx hb hts hinX0 hown hK hP 0 rfl rfl 1 (by decide) (hts (.fieldLink RX0 26 "CornDesk$Field" "chance" "I") (by decide +kernel)) (fun _ h9 => h9) rfl dX0_believed_10 ?_
    refine lv_i2l hx hb dX0_believed_13 rfl ?_
    refine ln_eql (y := (lN ch)) (nI_l (by omega)) ?_
    refine lv_lstore_n (lv' := [(3, .long (lN ch)), (0, .ref (f0)), (1, .ref (t0)), (2, .int (zf))]) hx hb dX0_believed_14 rfl hl (by decide) rfl (fun ls hl => ?_)
    refine lv_ldc2 (v := 100) hx hb hown (hts (.constantLong RX0 59 100) (by decide +kernel)) dX0_believed_15 ?_
    refine ln_eql (y := (lN (ch + (100 - ch)))) (by rw [show ch + (100 - ch) = 100 by omega]; rfl) ?_
    refine lv_lstore (lv' := [(5, .long (lN (ch + (100 - ch)))), (3, .long (lN ch)), (0, .ref (f0)), (1, .ref (t0)), (2, .int (zf))]) hx hb dX0_believed_18 hl (by decide) rfl (fun ls hl => ?_)
    refine lv_iconst (v := (nI (0))) hx hb dX0_believed_20 (by decide) ?_
    refine lv_istore (lv' := [(7, .int (nI (0))), (5, .long (lN (ch + (100 - ch)))), (3, .long (lN ch)), (0, .ref (f0)), (1, .ref (t0)), (2, .int (zf))]) hx hb dX0_believed_21 hl (by decide) rfl (fun ls hl => ?_)
    have lp : ∀ (i : Nat) (k : Nat), (k + i = lk) → ∀ (H : Heap) (locs : List Loc) (ls : Array Slot), va_P D vwCl ([(f0, .inr (0, [.int (nI (so)), .int (nI (ch)), .int (nI (ho)), .ref (cA), .ref (dA), .ref (sA), .int (nI (lk)), .int (nI (dg)), .int (nI (fo))])), (cA, .inl (cy 0, 4, .inl (nA CR))), (dA, .inl (cy 0, 4, .inl (nA DR))), (sA, .inl (cy 2, 4, .inl (nA SN))), (t0, .inr (10, [.ref (up), .ref (lo)])), (up, .inl (cy 0, 64, .inl (nA UP))), (lo, .inl (cy 0, 64, .inl (nA LO)))]) H → va_D A ([(f0, .inr (0, [.int (nI (so)), .int (nI (ch)), .int (nI (ho)), .ref (cA), .ref (dA), .ref (sA), .int (nI (lk)), .int (nI (dg)), .int (nI (fo))])), (cA, .inl (cy 0, 4, .inl (nA CR))), (dA, .inl (cy 0, 4, .inl (nA DR))), (sA, .inl (cy 2, 4, .inl (nA SN))), (t0, .inr (10, [.ref (up), .ref (lo)])), (up, .inl (cy 0, 64, .inl (nA UP))), (lo, .inl (cy 0, 64, .inl (nA LO)))]) → va_S A s.heap H locs → lv_has ls 14 [(7, .int (nI (k))), (3, .long (lN (buU ch so CR DR UP LO k))), (5, .long (lN (buU ch so CR DR UP LO k + buN ch so CR DR LO k))), (0, .ref (f0)), (1, .ref (t0)), (2, .int (zf))] → W p l e (mq_R 4 0 0 87) s m args below meth c H locs 0 0 Q (F0 m 23 ls []) := by
      intro i
      induction i with
      | zero =>
        intro k hk H locs ls hP hD hS hl
        refine lv_iload hx hb dX0_believed_23 (lv_at hl 0 rfl) ?_
        refine lv_aload_n hx hb dX0_believed_25 rfl (lv_at hl 3 rfl) ?_
        refine va_get (D := D) (ci := 0) (v := .int (nI (lk))) (C := RX0) (T := TX0) (N := 9) hx hb hts hinX0 hown hK hP 0 rfl rfl 6 (by decide) (hts (.fieldLink RX0 32 "CornDesk$Field" "looks" "I") (by decide +kernel)) (fun _ h9 => h9) rfl dX0_believed_26 ?_
        refine ln_icmp_ge (tgt := 112) hx hb dX0_believed_29 (by decide) (by omega) (by omega) (fun c2 => ?_) (fun c2 => ?_)
        · have hk0 : lk = k := by omega
          refine lv_lload_n hx hb dX0_believed_112 rfl (lv_at hl 1 rfl) ?_
          refine lv_lload hx hb dX0_believed_113 (lv_at hl 2 rfl) ?_
          refine lv_iload_n hx hb dX0_believed_115 rfl (lv_at hl 5 rfl) ?_
          have eU : lN (buU ch so CR DR UP LO k) = lZ ((buU ch so CR DR UP LO k : Nat) : Int) := lZ_N _
          rw [eU]
          rw [hk0] at hbU hbN hb0
          refine nq_SNl (As := [.long (lZ ((buU ch so CR DR UP LO k : Nat) : Int)), .long (lN (buU ch so CR DR UP LO k + buN ch so CR DR LO k)), .int (zf)]) (rest := []) (w := []) (wr := [(f0, .inr (0, [.int (nI (so)), .int (nI (ch)), .int (nI (ho)), .ref (cA), .ref (dA), .ref (sA), .int (nI (lk)), .int (nI (dg)), .int (nI (fo))])), (cA, .inl (cy 0, 4, .inl (nA CR))), (dA, .inl (cy 0, 4, .inl (nA DR))), (sA, .inl (cy 2, 4, .inl (nA SN))), (t0, .inr (10, [.ref (up), .ref (lo)])), (up, .inl (cy 0, 64, .inl (nA UP))), (lo, .inl (cy 0, 64, .inl (nA LO)))]) ⟨hx, hb, hml, hown, hts⟩ (qX11_part l D cy  (((buU ch so CR DR UP LO k : Nat) : Int)) ((buU ch so CR DR UP LO k + buN ch so CR DR LO k)) (zf) (by omega) (by omega) (by omega)) ⟨va_cnB (host := "CornDesk") 3 hts ggX0_believed_X11_part rfl rfl rfl (nst_m hN (by decide)) (hts (.initialized RX11) (by decide +kernel)) (by decide +kernel) ⟨Nat.le_of_ble_eq_true rfl, Nat.le_of_ble_eq_true rfl⟩, hts (.static yX11_part) (by decide +kernel), trivial⟩ hP hK hD hN hS hA rfl hl.1 rfl (Nat.le_of_ble_eq_true rfl) dX0_believed_116 ⟨Nat.le_of_ble_eq_true rfl, Nat.le_of_ble_eq_true rfl⟩ (fun r w1 H locs hq hP hD hS => ?_)
          obtain ⟨rfl, rfl⟩ := hq
          have hP : va_P D vwCl ([(f0, .inr (0, [.int (nI (so)), .int (nI (ch)), .int (nI (ho)), .ref (cA), .ref (dA), .ref (sA), .int (nI (lk)), .int (nI (dg)), .int (nI (fo))])), (cA, .inl (cy 0, 4, .inl (nA CR))), (dA, .inl (cy 0, 4, .inl (nA DR))), (sA, .inl (cy 2, 4, .inl (nA SN))), (t0, .inr (10, [.ref (up), .ref (lo)])), (up, .inl (cy 0, 64, .inl (nA UP))), (lo, .inl (cy 0, 64, .inl (nA LO)))]) H := hP
          have hD : va_D A ([(f0, .inr (0, [.int (nI (so)), .int (nI (ch)), .int (nI (ho)), .ref (cA), .ref (dA), .ref (sA), .int (nI (lk)), .int (nI (dg)), .int (nI (fo))])), (cA, .inl (cy 0, 4, .inl (nA CR))), (dA, .inl (cy 0, 4, .inl (nA DR))), (sA, .inl (cy 2, 4, .inl (nA SN))), (t0, .inr (10, [.ref (up), .ref (lo)])), (up, .inl (cy 0, 64, .inl (nA UP))), (lo, .inl (cy 0, 64, .inl (nA LO)))]) := hD
          exact hret _ _ _ _ _ _ ⟨by rw [if_neg c1, hk0], rfl⟩ hP hD hS dX0_believed_119
        · exact absurd hk (by omega)
      | succ i ih =>
        intro k hk H locs ls hP hD hS hl
        refine lv_iload hx hb dX0_believed_23 (lv_at hl 0 rfl) ?_
        refine lv_aload_n hx hb dX0_believed_25 rfl (lv_at hl 3 rfl) ?_
        refine va_get (D := D) (ci := 0) (v := .int (nI (lk))) (C := RX0) (T := TX0) (N := 9) hx hb hts hinX0 hown hK hP 0 rfl rfl 6 (by decide) (hts (.fieldLink RX0 32 "CornDesk$Field" "looks" "I") (by decide +kernel)) (fun _ h9 => h9) rfl dX0_believed_26 ?_
        refine ln_icmp_ge (tgt := 112) hx hb dX0_believed_29 (by decide) (by omega) (by omega) (fun c2 => ?_) (fun c2 => ?_)
        · exact absurd hk (by omega)
        · obtain ⟨h1, h2, -⟩ := hlo k (by omega)
          have hcc := fcC_lt hso hlo (show k < lk by omega)
          obtain ⟨t1, t2, t3⟩ := htb _ hcc
          have eq1 : (nI (UP (fcC so CR DR k))).toInt64 = lN (UP (fcC so CR DR k)) := nI_l (by omega)
          have eq2 : (nI (LO (fcC so CR DR k))).toInt64 = lN (LO (fcC so CR DR k)) := nI_l (by omega)
          refine lv_aload_n hx hb dX0_believed_32 rfl (lv_at hl 4 rfl) ?_
          refine lv_aload_n hx hb dX0_believed_33 rfl (lv_at hl 3 rfl) ?_
          refine va_get (D := D) (ci := 0) (v := .int (nI (so))) (C := RX0) (T := TX0) (N := 9) hx hb hts hinX0 hown hK hP 0 rfl rfl 0 (by decide) (hts (.fieldLink RX0 22 "CornDesk$Field" "soil" "I") (by decide +kernel)) (fun _ h9 => h9) rfl dX0_believed_34 ?_
          refine lv_aload_n hx hb dX0_believed_37 rfl (lv_at hl 3 rfl) ?_
          refine va_get (D := D) (ci := 0) (v := .ref (cA)) (C := RX0) (T := TX0) (N := 9) hx hb hts hinX0 hown hK hP 0 rfl rfl 3 (by decide) (hts (.fieldLink RX0 9 "CornDesk$Field" "crops" "[I") (by decide +kernel)) (fun _ h9 => h9) rfl dX0_believed_38 ?_
          refine lv_iload hx hb dX0_believed_41 (lv_at hl 0 rfl) ?_
          refine ln_iald hx hb hK hP 1 0 rfl rfl (by decide) (by omega) dX0_believed_43 ?_
          refine lv_aload_n hx hb dX0_believed_44 rfl (lv_at hl 3 rfl) ?_
          refine va_get (D := D) (ci := 0) (v := .ref (dA)) (C := RX0) (T := TX0) (N := 9) hx hb hts hinX0 hown hK hP 0 rfl rfl 4 (by decide) (hts (.fieldLink RX0 15 "CornDesk$Field" "drys" "[I") (by decide +kernel)) (fun _ h9 => h9) rfl dX0_believed_45 ?_
          refine lv_iload hx hb dX0_believed_48 (lv_at hl 0 rfl) ?_
          refine ln_iald hx hb hK hP 2 0 rfl rfl (by decide) (by omega) dX0_believed_50 ?_
          have hP := hP.sub (ws' := [(t0, .inr (10, [.ref (up), .ref (lo)])), (up, .inl (cy 0, 64, .inl (nA UP))), (lo, .inl (cy 0, 64, .inl (nA LO))), (f0, .inr (0, [.int (nI (so)), .int (nI (ch)), .int (nI (ho)), .ref (cA), .ref (dA), .ref (sA), .int (nI (lk)), .int (nI (dg)), .int (nI (fo))])), (cA, .inl (cy 0, 4, .inl (nA CR))), (dA, .inl (cy 0, 4, .inl (nA DR))), (sA, .inl (cy 2, 4, .inl (nA SN)))]) [4, 5, 6, 0, 1, 2, 3] rfl
          have hD := hD.sub (ws' := [(t0, .inr (10, [.ref (up), .ref (lo)])), (up, .inl (cy 0, 64, .inl (nA UP))), (lo, .inl (cy 0, 64, .inl (nA LO))), (f0, .inr (0, [.int (nI (so)), .int (nI (ch)), .int (nI (ho)), .ref (cA), .ref (dA), .ref (sA), .int (nI (lk)), .int (nI (dg)), .int (nI (fo))])), (cA, .inl (cy 0, 4, .inl (nA CR))), (dA, .inl (cy 0, 4, .inl (nA DR))), (sA, .inl (cy 2, 4, .inl (nA SN)))]) [4, 5, 6, 0, 1, 2, 3] (by decide) rfl
          refine nq_Vi (As := [.int (nI (so)), .int (nI (CR (k))), .int (nI (DR (k)))]) (rest := []) (w := [(t0, .inr (10, [.ref (up), .ref (lo)])), (up, .inl (cy 0, 64, .inl (nA UP))), (lo, .inl (cy 0, 64, .inl (nA LO)))]) (wr := [(f0, .inr (0, [.int (nI (so)), .int (nI (ch)), .int (nI (ho)), .ref (cA), .ref (dA), .ref (sA), .int (nI (lk)), .int (nI (dg)), .int (nI (fo))])), (cA, .inl (cy 0, 4, .inl (nA CR))), (dA, .inl (cy 0, 4, .inl (nA DR))), (sA, .inl (cy 2, 4, .inl (nA SN)))]) (ci := 10) (k0 := 0) ⟨hx, hb, hml, hown, hts⟩ (qX10_upper l D cy t0 up lo UP LO (so) (CR (k)) (DR (k)) hso h1 h2) (cwV 3 hts gX0_believed_X10_upper rfl rfl rfl (by decide +kernel) ⟨Nat.le_of_ble_eq_true rfl, Nat.le_of_ble_eq_true rfl⟩) rfl rfl hP hK hD hN hS hA rfl hl.1 rfl (Nat.le_of_ble_eq_true rfl) dX0_believed_51 ⟨Nat.le_of_ble_eq_true rfl, Nat.le_of_ble_eq_true rfl⟩ (fun r w1 H locs hq hP hD hS => ?_)
          obtain ⟨rfl, rfl⟩ := hq
          have hP : va_P D vwCl ([(t0, .inr (10, [.ref (up), .ref (lo)])), (up, .inl (cy 0, 64, .inl (nA UP))), (lo, .inl (cy 0, 64, .inl (nA LO))), (f0, .inr (0, [.int (nI (so)), .int (nI (ch)), .int (nI (ho)), .ref (cA), .ref (dA), .ref (sA), .int (nI (lk)), .int (nI (dg)), .int (nI (fo))])), (cA, .inl (cy 0, 4, .inl (nA CR))), (dA, .inl (cy 0, 4, .inl (nA DR))), (sA, .inl (cy 2, 4, .inl (nA SN)))]) H := hP
          have hD : va_D A ([(t0, .inr (10, [.ref (up), .ref (lo)])), (up, .inl (cy 0, 64, .inl (nA UP))), (lo, .inl (cy 0, 64, .inl (nA LO))), (f0, .inr (0, [.int (nI (so)), .int (nI (ch)), .int (nI (ho)), .ref (cA), .ref (dA), .ref (sA), .int (nI (lk)), .int (nI (dg)), .int (nI (fo))])), (cA, .inl (cy 0, 4, .inl (nA CR))), (dA, .inl (cy 0, 4, .inl (nA DR))), (sA, .inl (cy 2, 4, .inl (nA SN)))]) := hD
          refine lv_i2l hx hb dX0_believed_54 rfl ?_
          refine ln_eql (y := (lN (UP (fcC so CR DR k)))) eq1 ?_
          refine lv_lstore (lv' := [(8, .long (lN (UP (fcC so CR DR k)))), (7, .int (nI (k))), (3, .long (lN (buU ch so CR DR UP LO k))), (5, .long (lN (buU ch so CR DR UP LO k + buN ch so CR DR LO k))), (0, .ref (f0)), (1, .ref (t0)), (2, .int (zf))]) hx hb dX0_believed_55 hl (by decide) rfl (fun ls hl => ?_)
          refine lv_aload_n hx hb dX0_believed_57 rfl (lv_at hl 5 rfl) ?_
          refine lv_aload_n hx hb dX0_believed_58 rfl (lv_at hl 4 rfl) ?_
          refine va_get (D := D) (ci := 0) (v := .int (nI (so))) (C := RX0) (T := TX0) (N := 9) hx hb hts hinX0 hown hK hP 3 rfl rfl 0 (by decide) (hts (.fieldLink RX0 22 "CornDesk$Field" "soil" "I") (by decide +kernel)) (fun _ h9 => h9) rfl dX0_believed_59 ?_
          refine lv_aload_n hx hb dX0_believed_62 rfl (lv_at hl 4 rfl) ?_
          refine va_get (D := D) (ci := 0) (v := .ref (cA)) (C := RX0) (T := TX0) (N := 9) hx hb hts hinX0 hown hK hP 3 rfl rfl 3 (by decide) (hts (.fieldLink RX0 9 "CornDesk$Field" "crops" "[I") (by decide +kernel)) (fun _ h9 => h9) rfl dX0_believed_63 ?_
          refine lv_iload hx hb dX0_believed_66 (lv_at hl 1 rfl) ?_
          refine ln_iald hx hb hK hP 4 0 rfl rfl (by decide) (by omega) dX0_believed_68 ?_
          refine lv_aload_n hx hb dX0_believed_69 rfl (lv_at hl 4 rfl) ?_
          refine va_get (D := D) (ci := 0) (v := .ref (dA)) (C := RX0) (T := TX0) (N := 9) hx hb hts hinX0 hown hK hP 3 rfl rfl 4 (by decide) (hts (.fieldLink RX0 15 "CornDesk$Field" "drys" "[I") (by decide +kernel)) (fun _ h9 => h9) rfl dX0_believed_70 ?_
          refine lv_iload hx hb dX0_believed_73 (lv_at hl 1 rfl) ?_
          refine ln_iald hx hb hK hP 5 0 rfl rfl (by decide) (by omega) dX0_believed_75 ?_
          refine nq_Vi (As := [.int (nI (so)), .int (nI (CR (k))), .int (nI (DR (k)))]) (rest := []) (w := [(t0, .inr (10, [.ref (up), .ref (lo)])), (up, .inl (cy 0, 64, .inl (nA UP))), (lo, .inl (cy 0, 64, .inl (nA LO)))]) (wr := [(f0, .inr (0, [.int (nI (so)), .int (nI (ch)), .int (nI (ho)), .ref (cA), .ref (dA), .ref (sA), .int (nI (lk)), .int (nI (dg)), .int (nI (fo))])), (cA, .inl (cy 0, 4, .inl (nA CR))), (dA, .inl (cy 0, 4, .inl (nA DR))), (sA, .inl (cy 2, 4, .inl (nA SN)))]) (ci := 10) (k0 := 0) ⟨hx, hb, hml, hown, hts⟩ (qX10_lower l D cy t0 up lo UP LO (so) (CR (k)) (DR (k)) hso h1 h2) (cwV 3 hts gX0_believed_X10_lower rfl rfl rfl (by decide +kernel) ⟨Nat.le_of_ble_eq_true rfl, Nat.le_of_ble_eq_true rfl⟩) rfl rfl hP hK hD hN hS hA rfl hl.1 rfl (Nat.le_of_ble_eq_true rfl) dX0_believed_76 ⟨Nat.le_of_ble_eq_true rfl, Nat.le_of_ble_eq_true rfl⟩ (fun r w1 H locs hq hP hD hS => ?_)
          obtain ⟨rfl, rfl⟩ := hq
          have hP : va_P D vwCl ([(t0, .inr (10, [.ref (up), .ref (lo)])), (up, .inl (cy 0, 64, .inl (nA UP))), (lo, .inl (cy 0, 64, .inl (nA LO))), (f0, .inr (0, [.int (nI (so)), .int (nI (ch)), .int (nI (ho)), .ref (cA), .ref (dA), .ref (sA), .int (nI (lk)), .int (nI (dg)), .int (nI (fo))])), (cA, .inl (cy 0, 4, .inl (nA CR))), (dA, .inl (cy 0, 4, .inl (nA DR))), (sA, .inl (cy 2, 4, .inl (nA SN)))]) H := hP
          have hD : va_D A ([(t0, .inr (10, [.ref (up), .ref (lo)])), (up, .inl (cy 0, 64, .inl (nA UP))), (lo, .inl (cy 0, 64, .inl (nA LO))), (f0, .inr (0, [.int (nI (so)), .int (nI (ch)), .int (nI (ho)), .ref (cA), .ref (dA), .ref (sA), .int (nI (lk)), .int (nI (dg)), .int (nI (fo))])), (cA, .inl (cy 0, 4, .inl (nA CR))), (dA, .inl (cy 0, 4, .inl (nA DR))), (sA, .inl (cy 2, 4, .inl (nA SN)))]) := hD
          refine lv_i2l hx hb dX0_believed_79 rfl ?_
          refine ln_eql (y := (lN (LO (fcC so CR DR k)))) eq2 ?_
          refine lv_lstore (lv' := [(10, .long (lN (LO (fcC so CR DR k)))), (8, .long (lN (UP (fcC so CR DR k)))), (7, .int (nI (k))), (3, .long (lN (buU ch so CR DR UP LO k))), (5, .long (lN (buU ch so CR DR UP LO k + buN ch so CR DR LO k))), (0, .ref (f0)), (1, .ref (t0)), (2, .int (zf))]) hx hb dX0_believed_80 hl (by decide) rfl (fun ls hl => ?_)
          refine lv_lload_n hx hb dX0_believed_82 rfl (lv_at hl 3 rfl) ?_
          refine lv_lload hx hb dX0_believed_83 (lv_at hl 0 rfl) ?_
          refine lv_lload hx hb dX0_believed_85 (lv_at hl 1 rfl) ?_
          refine lv_lsub hx hb dX0_believed_87 ?_
          refine ln_eql (y := (lN (LO (fcC so CR DR k) - UP (fcC so CR DR k)))) (lN_sub (by omega)) ?_
          refine lv_lmul hx hb dX0_believed_88 ?_
          refine ln_eql (y := (lN (buU ch so CR DR UP LO (k + 1)))) (lN_mul _ _) ?_
          refine lv_lstore (lv' := [(12, .long (lN (buU ch so CR DR UP LO (k + 1)))), (10, .long (lN (LO (fcC so CR DR k)))), (8, .long (lN (UP (fcC so CR DR k)))), (7, .int (nI (k))), (3, .long (lN (buU ch so CR DR UP LO k))), (5, .long (lN (buU ch so CR DR UP LO k + buN ch so CR DR LO k))), (0, .ref (f0)), (1, .ref (t0)), (2, .int (zf))]) hx hb dX0_believed_89 hl (by decide) rfl (fun ls hl => ?_)
          refine lv_lload hx hb dX0_believed_91 (lv_at hl 0 rfl) ?_
          refine lv_lload hx hb dX0_believed_93 (lv_at hl 5 rfl) ?_
          refine lv_lload_n hx hb dX0_believed_95 rfl (lv_at hl 4 rfl) ?_
          refine lv_lsub hx hb dX0_believed_96 ?_
          refine ln_eql (y := (lN (buN ch so CR DR LO k))) (by rw [lN_sub (by omega), Nat.add_sub_cancel_left]) ?_
          refine lv_lload hx hb dX0_believed_97 (lv_at hl 1 rfl) ?_
          refine lv_lmul hx hb dX0_believed_99 ?_
          refine ln_eql (y := (lN (buN ch so CR DR LO (k + 1)))) (lN_mul _ _) ?_
          refine lv_ladd hx hb dX0_believed_100 ?_
          refine ln_eql (y := (lN (buU ch so CR DR UP LO (k + 1) + buN ch so CR DR LO (k + 1)))) (lN_add _ _) ?_
          refine lv_lstore (lv' := [(5, .long (lN (buU ch so CR DR UP LO (k + 1) + buN ch so CR DR LO (k + 1)))), (12, .long (lN (buU ch so CR DR UP LO (k + 1)))), (10, .long (lN (LO (fcC so CR DR k)))), (8, .long (lN (UP (fcC so CR DR k)))), (7, .int (nI (k))), (3, .long (lN (buU ch so CR DR UP LO k))), (0, .ref (f0)), (1, .ref (t0)), (2, .int (zf))]) hx hb dX0_believed_101 hl (by decide) rfl (fun ls hl => ?_)
          refine lv_lload hx hb dX0_believed_103 (lv_at hl 1 rfl) ?_
          refine lv_lstore_n (lv' := [(3, .long (lN (buU ch so CR DR UP LO (k + 1)))), (5, .long (lN (buU ch so CR DR UP LO (k + 1) + buN ch so CR DR LO (k + 1)))), (12, .long (lN (buU ch so CR DR UP LO (k + 1)))), (10, .long (lN (LO (fcC so CR DR k)))), (8, .long (lN (UP (fcC so CR DR k)))), (7, .int (nI (k))), (0, .ref (f0)), (1, .ref (t0)), (2, .int (zf))]) hx hb dX0_believed_105 rfl hl (by decide) rfl (fun ls hl => ?_)
          refine lv_iinc (v := (nI (k + 1))) (lv' := [(7, .int (nI (k + 1))), (3, .long (lN (buU ch so CR DR UP LO (k + 1)))), (5, .long (lN (buU ch so CR DR UP LO (k + 1) + buN ch so CR DR LO (k + 1)))), (12, .long (lN (buU ch so CR DR UP LO (k + 1)))), (10, .long (lN (LO (fcC so CR DR k)))), (8, .long (lN (UP (fcC so CR DR k)))), (0, .ref (f0)), (1, .ref (t0)), (2, .int (zf))]) hx hb dX0_believed_106 hl (k := 5) rfl (by rw [show (Int32.ofInt 1) = nI 1 from rfl, nI_add]) (by decide) rfl (fun ls hl => ?_)
          refine lv_goto (tgt := 23) hx hb dX0_believed_109 (by decide) ?_
          have hP := hP.sub (ws' := [(f0, .inr (0, [.int (nI (so)), .int (nI (ch)), .int (nI (ho)), .ref (cA), .ref (dA), .ref (sA), .int (nI (lk)), .int (nI (dg)), .int (nI (fo))])), (cA, .inl (cy 0, 4, .inl (nA CR))), (dA, .inl (cy 0, 4, .inl (nA DR))), (sA, .inl (cy 2, 4, .inl (nA SN))), (t0, .inr (10, [.ref (up), .ref (lo)])), (up, .inl (cy 0, 64, .inl (nA UP))), (lo, .inl (cy 0, 64, .inl (nA LO)))]) [3, 4, 5, 6, 0, 1, 2] rfl
          have hD := hD.sub (ws' := [(f0, .inr (0, [.int (nI (so)), .int (nI (ch)), .int (nI (ho)), .ref (cA), .ref (dA), .ref (sA), .int (nI (lk)), .int (nI (dg)), .int (nI (fo))])), (cA, .inl (cy 0, 4, .inl (nA CR))), (dA, .inl (cy 0, 4, .inl (nA DR))), (sA, .inl (cy 2, 4, .inl (nA SN))), (t0, .inr (10, [.ref (up), .ref (lo)])), (up, .inl (cy 0, 64, .inl (nA UP))), (lo, .inl (cy 0, 64, .inl (nA LO)))]) [3, 4, 5, 6, 0, 1, 2] (by decide) rfl
          exact ih (k + 1) (by omega) _ _ _ hP hD hS (lv_sub hl [0, 1, 2, 6, 7, 8] rfl)
    exact lp (lk) (0) (by omega) _ _ _ hP hD hS (lv_sub hl [0, 2, 1, 3, 4, 5] rfl)
  · refine lv_lconst (v := 1) hx hb dX0_believed_7 (by decide) ?_
    exact hret _ _ _ _ _ _ ⟨by rw [if_pos c1], rfl⟩ hP hD hS dX0_believed_8
set_option maxHeartbeats 4000000 in
set_option maxRecDepth 100000 in
theorem qX0_gain (l : Launch) (D : va_G) (cy : Nat → ClassId) (f0 : Nat) (so : Nat) (ch : Nat) (ho : Nat) (cA : Nat) (dA : Nat) (sA : Nat) (lk : Nat) (dg : Nat) (fo : Nat) (CR : Nat → Nat) (DR : Nat → Nat) (SN : Nat → Nat) (t0 : Nat) (up : Nat) (lo : Nat) (UP : Nat → Nat) (LO : Nat → Nat) (cr : Nat) (dr : Nat) (hk4 : lk ≤ 4) (hlo : lkOk lk CR DR SN) (hso : so ≤ 3) (hdg : dg ≤ 1) (hch : 1 ≤ ch ∧ ch ≤ 99) (htb : tbOk UP LO) (hc : cr ≤ 3) (hd : dr ≤ 3) : nq_l l D (cT cy) yX0_gain wsX0_gain 4 0 0 87 [.ref (f0), .ref (t0), .int (nI (cr)), .int (nI (dr))] ([(f0, .inr (0, [.int (nI (so)), .int (nI (ch)), .int (nI (ho)), .ref (cA), .ref (dA), .ref (sA), .int (nI (lk)), .int (nI (dg)), .int (nI (fo))])), (cA, .inl (cy 0, 4, .inl (nA CR))), (dA, .inl (cy 0, 4, .inl (nA DR))), (sA, .inl (cy 2, 4, .inl (nA SN))), (t0, .inr (10, [.ref (up), .ref (lo)])), (up, .inl (cy 0, 64, .inl (nA UP))), (lo, .inl (cy 0, 64, .inl (nA LO)))]) (fun r w1 => r = (if dg = 1 ∨ fsB SN lk = true then lN 0 else lN (100 * ch * UP ((so * 4 + cr) * 4 + dr) / LO ((so * 4 + cr) * 4 + dr))) ∧ w1 = [(f0, .inr (0, [.int (nI (so)), .int (nI (ch)), .int (nI (ho)), .ref (cA), .ref (dA), .ref (sA), .int (nI (lk)), .int (nI (dg)), .int (nI (fo))])), (cA, .inl (cy 0, 4, .inl (nA CR))), (dA, .inl (cy 0, 4, .inl (nA DR))), (sA, .inl (cy 2, 4, .inl (nA SN))), (t0, .inr (10, [.ref (up), .ref (lo)])), (up, .inl (cy 0, 64, .inl (nA UP))), (lo, .inl (cy 0, 64, .inl (nA LO)))]) := by
  refine nq_l_of (cc := cX0_gain) (maxL := 6) (by decide) rfl (Nat.le_of_ble_eq_true rfl) ?_
  intro p e s m args below meth c A Q ls hx hb hts hown hml hnm hN hA hP hK hD hS hl hret
  have hown : s.vm.findClass RX0 = some m.cls := hown
  have hinX0 : ∀ w ∈ u_ws RX0 TX0 9, w ∈ wsX0_gain := by decide +kernel
  have hl : lv_has ls 6 [(0, .ref (f0)), (1, .ref (t0)), (2, .int (nI (cr))), (3, .int (nI (dr)))] := hl
  have hP : va_P D vwCl ([(f0, .inr (0, [.int (nI (so)), .int (nI (ch)), .int (nI (ho)), .ref (cA), .ref (dA), .ref (sA), .int (nI (lk)), .int (nI (dg)), .int (nI (fo))])), (cA, .inl (cy 0, 4, .inl (nA CR))), (dA, .inl (cy 0, 4, .inl (nA DR))), (sA, .inl (cy 2, 4, .inl (nA SN))), (t0, .inr (10, [.ref (up), .ref (lo)])), (up, .inl (cy 0, 64, .inl (nA UP))), (lo, .inl (cy 0, 64, .inl (nA LO)))]) s.heap := hP
  have hcc : (so * 4 + cr) * 4 + dr < 64 := by omega
  obtain ⟨t1, t2, t3⟩ := htb _ hcc
  refine lv_aload_n hx hb dX0_gain_0 rfl (lv_at hl 1 rfl) ?_
  refine lv_aload_n hx hb dX0_gain_1 rfl (lv_at hl 0 rfl) ?_
  refine va_get (D := D) (ci := 0) (v := .int (nI (so))) (C := RX0) (T := TX0) (N := 9) hx hb hts hinX0 hown hK hP 0 rfl rfl 0 (by decide) (hts (.fieldLink RX0 22 "CornDesk$Field" "soil" "I") (by decide +kernel)) (fun _ h9 => h9) rfl dX0_gain_2 ?_
  refine lv_iload_n hx hb dX0_gain_5 rfl (lv_at hl 2 rfl) ?_
  refine lv_iload_n hx hb dX0_gain_6 rfl (lv_at hl 3 rfl) ?_
  have hP := hP.sub (ws' := [(t0, .inr (10, [.ref (up), .ref (lo)])), (up, .inl (cy 0, 64, .inl (nA UP))), (lo, .inl (cy 0, 64, .inl (nA LO))), (f0, .inr (0, [.int (nI (so)), .int (nI (ch)), .int (nI (ho)), .ref (cA), .ref (dA), .ref (sA), .int (nI (lk)), .int (nI (dg)), .int (nI (fo))])), (cA, .inl (cy 0, 4, .inl (nA CR))), (dA, .inl (cy 0, 4, .inl (nA DR))), (sA, .inl (cy 2, 4, .inl (nA SN)))]) [4, 5, 6, 0, 1, 2, 3] rfl
  have hD := hD.sub (ws' := [(t0, .inr (10, [.ref (up), .ref (lo)])), (up, .inl (cy 0, 64, .inl (nA UP))), (lo, .inl (cy 0, 64, .inl (nA LO))), (f0, .inr (0, [.int (nI (so)), .int (nI (ch)), .int (nI (ho)), .ref (cA), .ref (dA), .ref (sA), .int (nI (lk)), .int (nI (dg)), .int (nI (fo))])), (cA, .inl (cy 0, 4, .inl (nA CR))), (dA, .inl (cy 0, 4, .inl (nA DR))), (sA, .inl (cy 2, 4, .inl (nA SN)))]) [4, 5, 6, 0, 1, 2, 3] (by decide) rfl
  refine nq_Vi (As := [.int (nI (so)), .int (nI (cr)), .int (nI (dr))]) (rest := []) (w := [(t0, .inr (10, [.ref (up), .ref (lo)])), (up, .inl (cy 0, 64, .inl (nA UP))), (lo, .inl (cy 0, 64, .inl (nA LO)))]) (wr := [(f0, .inr (0, [.int (nI (so)), .int (nI (ch)), .int (nI (ho)), .ref (cA), .ref (dA), .ref (sA), .int (nI (lk)), .int (nI (dg)), .int (nI (fo))])), (cA, .inl (cy 0, 4, .inl (nA CR))), (dA, .inl (cy 0, 4, .inl (nA DR))), (sA, .inl (cy 2, 4, .inl (nA SN)))]) (ci := 10) (k0 := 0) ⟨hx, hb, hml, hown, hts⟩ (qX10_lower l D cy t0 up lo UP LO (so) (cr) (dr) hso hc hd) (cwV 3 hts gX0_gain_X10_lower rfl rfl rfl (by decide +kernel) ⟨Nat.le_of_ble_eq_true rfl, Nat.le_of_ble_eq_true rfl⟩) rfl rfl hP hK hD hN hS hA rfl hl.1 rfl (Nat.le_of_ble_eq_true rfl) dX0_gain_7 ⟨Nat.le_of_ble_eq_true rfl, Nat.le_of_ble_eq_true rfl⟩ (fun r w1 H locs hq hP hD hS => ?_)
  obtain ⟨rfl, rfl⟩ := hq
  have hP : va_P D vwCl ([(t0, .inr (10, [.ref (up), .ref (lo)])), (up, .inl (cy 0, 64, .inl (nA UP))), (lo, .inl (cy 0, 64, .inl (nA LO))), (f0, .inr (0, [.int (nI (so)), .int (nI (ch)), .int (nI (ho)), .ref (cA), .ref (dA), .ref (sA), .int (nI (lk)), .int (nI (dg)), .int (nI (fo))])), (cA, .inl (cy 0, 4, .inl (nA CR))), (dA, .inl (cy 0, 4, .inl (nA DR))), (sA, .inl (cy 2, 4, .inl (nA SN)))]) H := hP
  have hD : va_D A ([(t0, .inr (10, [.ref (up), .ref (lo)])), (up, .inl (cy 0, 64, .inl (nA UP))), (lo, .inl (cy 0, 64, .inl (nA LO))), (f0, .inr (0, [.int (nI (so)), .int (nI (ch)), .int (nI (ho)), .ref (cA), .ref (dA), .ref (sA), .int (nI (lk)), .int (nI (dg)), .int (nI (fo))])), (cA, .inl (cy 0, 4, .inl (nA CR))), (dA, .inl (cy 0, 4, .inl (nA DR))), (sA, .inl (cy 2, 4, .inl (nA SN)))]) := hD
  refine lv_i2l hx hb dX0_gain_10 rfl ?_
  refine ln_eql (y := (lN (LO ((so * 4 + cr) * 4 + dr)))) (nI_l (by omega)) ?_
  refine lv_lstore (lv' := [(4, .long (lN (LO ((so * 4 + cr) * 4 + dr)))), (0, .ref (f0)), (1, .ref (t0)), (2, .int (nI (cr))), (3, .int (nI (dr)))]) hx hb dX0_gain_11 hl (by decide) rfl (fun ls hl => ?_)
  refine lv_aload_n hx hb dX0_gain_13 rfl (lv_at hl 1 rfl) ?_
  refine va_get (D := D) (ci := 0) (v := .int (nI (dg))) (C := RX0) (T := TX0) (N := 9) hx hb hts hinX0 hown hK hP 3 rfl rfl 7 (by decide) (hts (.fieldLink RX0 35 "CornDesk$Field" "dug" "Z") (by decide +kernel)) (fun _ h9 => h9) rfl dX0_gain_14 ?_
  refine ln_if_ne (tgt := 34) hx hb dX0_gain_17 (by decide) (by omega) (fun c1 => ?_) (fun c1 => ?_)
  · refine lv_lconst (v := 0) hx hb dX0_gain_34 (by decide) ?_
    have hP := hP.sub (ws' := [(f0, .inr (0, [.int (nI (so)), .int (nI (ch)), .int (nI (ho)), .ref (cA), .ref (dA), .ref (sA), .int (nI (lk)), .int (nI (dg)), .int (nI (fo))])), (cA, .inl (cy 0, 4, .inl (nA CR))), (dA, .inl (cy 0, 4, .inl (nA DR))), (sA, .inl (cy 2, 4, .inl (nA SN))), (t0, .inr (10, [.ref (up), .ref (lo)])), (up, .inl (cy 0, 64, .inl (nA UP))), (lo, .inl (cy 0, 64, .inl (nA LO)))]) [3, 4, 5, 6, 0, 1, 2] rfl
    have hD := hD.sub (ws' := [(f0, .inr (0, [.int (nI (so)), .int (nI (ch)), .int (nI (ho)), .ref (cA), .ref (dA), .ref (sA), .int (nI (lk)), .int (nI (dg)), .int (nI (fo))])), (cA, .inl (cy 0, 4, .inl (nA CR))), (dA, .inl (cy 0, 4, .inl (nA DR))), (sA, .inl (cy 2, 4, .inl (nA SN))), (t0, .inr (10, [.ref (up), .ref (lo)])), (up, .inl (cy 0, 64, .inl (nA UP))), (lo, .inl (cy 0, 64, .inl (nA LO)))]) [3, 4, 5, 6, 0, 1, 2] (by decide) rfl
    exact hret _ _ _ _ _ _ ⟨by rw [if_pos (Or.inl (by omega))]; rfl, rfl⟩ hP hD hS dX0_gain_35
  · refine lv_aload_n hx hb dX0_gain_20 rfl (lv_at hl 1 rfl) ?_
    have hP := hP.sub (ws' := [(f0, .inr (0, [.int (nI (so)), .int (nI (ch)), .int (nI (ho)), .ref (cA), .ref (dA), .ref (sA), .int (nI (lk)), .int (nI (dg)), .int (nI (fo))])), (cA, .inl (cy 0, 4, .inl (nA CR))), (dA, .inl (cy 0, 4, .inl (nA DR))), (sA, .inl (cy 2, 4, .inl (nA SN))), (t0, .inr (10, [.ref (up), .ref (lo)])), (up, .inl (cy 0, 64, .inl (nA UP))), (lo, .inl (cy 0, 64, .inl (nA LO)))]) [3, 4, 5, 6, 0, 1, 2] rfl
    have hD := hD.sub (ws' := [(f0, .inr (0, [.int (nI (so)), .int (nI (ch)), .int (nI (ho)), .ref (cA), .ref (dA), .ref (sA), .int (nI (lk)), .int (nI (dg)), .int (nI (fo))])), (cA, .inl (cy 0, 4, .inl (nA CR))), (dA, .inl (cy 0, 4, .inl (nA DR))), (sA, .inl (cy 2, 4, .inl (nA SN))), (t0, .inr (10, [.ref (up), .ref (lo)])), (up, .inl (cy 0, 64, .inl (nA UP))), (lo, .inl (cy 0, 64, .inl (nA LO)))]) [3, 4, 5, 6, 0, 1, 2] (by decide) rfl
    refine nq_Vi (As := []) (rest := []) (w := [(f0, .inr (0, [.int (nI (so)), .int (nI (ch)), .int (nI (ho)), .ref (cA), .ref (dA), .ref (sA), .int (nI (lk)), .int (nI (dg)), .int (nI (fo))])), (cA, .inl (cy 0, 4, .inl (nA CR))), (dA, .inl (cy 0, 4, .inl (nA DR))), (sA, .inl (cy 2, 4, .inl (nA SN)))]) (wr := [(t0, .inr (10, [.ref (up), .ref (lo)])), (up, .inl (cy 0, 64, .inl (nA UP))), (lo, .inl (cy 0, 64, .inl (nA LO)))]) (ci := 0) (k0 := 0) ⟨hx, hb, hml, hown, hts⟩ (qX0_wasSeen l D cy f0 so ch ho cA dA sA lk dg fo CR DR SN  hk4 hlo) (cwV 0 hts gX0_gain_X0_wasSeen rfl rfl rfl (by decide +kernel) ⟨Nat.le_of_ble_eq_true rfl, Nat.le_of_ble_eq_true rfl⟩) rfl rfl hP hK hD hN hS hA rfl hl.1 rfl (Nat.le_of_ble_eq_true rfl) dX0_gain_21 ⟨Nat.le_of_ble_eq_true rfl, Nat.le_of_ble_eq_true rfl⟩ (fun r w1 H locs hq hP hD hS => ?_)
    obtain ⟨rfl, rfl⟩ := hq
    have hP : va_P D vwCl ([(f0, .inr (0, [.int (nI (so)), .int (nI (ch)), .int (nI (ho)), .ref (cA), .ref (dA), .ref (sA), .int (nI (lk)), .int (nI (dg)), .int (nI (fo))])), (cA, .inl (cy 0, 4, .inl (nA CR))), (dA, .inl (cy 0, 4, .inl (nA DR))), (sA, .inl (cy 2, 4, .inl (nA SN))), (t0, .inr (10, [.ref (up), .ref (lo)])), (up, .inl (cy 0, 64, .inl (nA UP))), (lo, .inl (cy 0, 64, .inl (nA LO)))]) H := hP
    have hD : va_D A ([(f0, .inr (0, [.int (nI (so)), .int (nI (ch)), .int (nI (ho)), .ref (cA), .ref (dA), .ref (sA), .int (nI (lk)), .int (nI (dg)), .int (nI (fo))])), (cA, .inl (cy 0, 4, .inl (nA CR))), (dA, .inl (cy 0, 4, .inl (nA DR))), (sA, .inl (cy 2, 4, .inl (nA SN))), (t0, .inr (10, [.ref (up), .ref (lo)])), (up, .inl (cy 0, 64, .inl (nA UP))), (lo, .inl (cy 0, 64, .inl (nA LO)))]) := hD
    refine lb_if_ne (tgt := 34) hx hb dX0_gain_24 (by decide) (fun c2 => ?_) (fun c2 => ?_)
    · refine lv_lconst (v := 0) hx hb dX0_gain_34 (by decide) ?_
      exact hret _ _ _ _ _ _ ⟨by rw [if_pos (Or.inr c2)]; rfl, rfl⟩ hP hD hS dX0_gain_35
    · refine lv_lload hx hb dX0_gain_27 (lv_at hl 0 rfl) ?_
      refine lv_lconst (v := 0) hx hb dX0_gain_29 (by decide) ?_
      refine W.lcmp hx hb dX0_gain_30 ?_
      refine lv_if_gt (tgt := 36) hx hb dX0_gain_31 (by decide) (fun c3 => ?_) (fun c3 => ?_)
      · refine lv_ldc2 (v := 100) hx hb hown (hts (.constantLong RX0 59 100) (by decide +kernel)) dX0_gain_36 ?_
        refine lv_aload_n hx hb dX0_gain_39 rfl (lv_at hl 1 rfl) ?_
        refine va_get (D := D) (ci := 0) (v := .int (nI (ch))) (C := RX0) (T := TX0) (N := 9) hx hb hts hinX0 hown hK hP 0 rfl rfl 1 (by decide) (hts (.fieldLink RX0 26 "CornDesk$Field" "chance" "I") (by decide +kernel)) (fun _ h9 => h9) rfl dX0_gain_40 ?_
        refine lv_i2l hx hb dX0_gain_43 rfl ?_
        refine ln_eql (y := (lN ch)) (nI_l (by omega)) ?_
        refine lv_lmul hx hb dX0_gain_44 ?_
        refine ln_eql (y := (lN (100 * ch))) (lN_mul 100 _) ?_
        refine lv_aload_n hx hb dX0_gain_45 rfl (lv_at hl 2 rfl) ?_
        refine lv_aload_n hx hb dX0_gain_46 rfl (lv_at hl 1 rfl) ?_
        refine va_get (D := D) (ci := 0) (v := .int (nI (so))) (C := RX0) (T := TX0) (N := 9) hx hb hts hinX0 hown hK hP 0 rfl rfl 0 (by decide) (hts (.fieldLink RX0 22 "CornDesk$Field" "soil" "I") (by decide +kernel)) (fun _ h9 => h9) rfl dX0_gain_47 ?_
        refine lv_iload_n hx hb dX0_gain_50 rfl (lv_at hl 3 rfl) ?_
        refine lv_iload_n hx hb dX0_gain_51 rfl (lv_at hl 4 rfl) ?_
        have hP := hP.sub (ws' := [(t0, .inr (10, [.ref (up), .ref (lo)])), (up, .inl (cy 0, 64, .inl (nA UP))), (lo, .inl (cy 0, 64, .inl (nA LO))), (f0, .inr (0, [.int (nI (so)), .int (nI (ch)), .int (nI (ho)), .ref (cA), .ref (dA), .ref (sA), .int (nI (lk)), .int (nI (dg)), .int (nI (fo))])), (cA, .inl (cy 0, 4, .inl (nA CR))), (dA, .inl (cy 0, 4, .inl (nA DR))), (sA, .inl (cy 2, 4, .inl (nA SN)))]) [4, 5, 6, 0, 1, 2, 3] rfl
        have hD := hD.sub (ws' := [(t0, .inr (10, [.ref (up), .ref (lo)])), (up, .inl (cy 0, 64, .inl (nA UP))), (lo, .inl (cy 0, 64, .inl (nA LO))), (f0, .inr (0, [.int (nI (so)), .int (nI (ch)), .int (nI (ho)), .ref (cA), .ref (dA), .ref (sA), .int (nI (lk)), .int (nI (dg)), .int (nI (fo))])), (cA, .inl (cy 0, 4, .inl (nA CR))), (dA, .inl (cy 0, 4, .inl (nA DR))), (sA, .inl (cy 2, 4, .inl (nA SN)))]) [4, 5, 6, 0, 1, 2, 3] (by decide) rfl
        refine nq_Vi (As := [.int (nI (so)), .int (nI (cr)), .int (nI (dr))]) (rest := [.long (lN (100 * ch))]) (w := [(t0, .inr (10, [.ref (up), .ref (lo)])), (up, .inl (cy 0, 64, .inl (nA UP))), (lo, .inl (cy 0, 64, .inl (nA LO)))]) (wr := [(f0, .inr (0, [.int (nI (so)), .int (nI (ch)), .int (nI (ho)), .ref (cA), .ref (dA), .ref (sA), .int (nI (lk)), .int (nI (dg)), .int (nI (fo))])), (cA, .inl (cy 0, 4, .inl (nA CR))), (dA, .inl (cy 0, 4, .inl (nA DR))), (sA, .inl (cy 2, 4, .inl (nA SN)))]) (ci := 10) (k0 := 0) ⟨hx, hb, hml, hown, hts⟩ (qX10_upper l D cy t0 up lo UP LO (so) (cr) (dr) hso hc hd) (cwV 3 hts gX0_gain_X10_upper rfl rfl rfl (by decide +kernel) ⟨Nat.le_of_ble_eq_true rfl, Nat.le_of_ble_eq_true rfl⟩) rfl rfl hP hK hD hN hS hA rfl hl.1 rfl (Nat.le_of_ble_eq_true rfl) dX0_gain_52 ⟨Nat.le_of_ble_eq_true rfl, Nat.le_of_ble_eq_true rfl⟩ (fun r w1 H locs hq hP hD hS => ?_)
        obtain ⟨rfl, rfl⟩ := hq
        have hP : va_P D vwCl ([(t0, .inr (10, [.ref (up), .ref (lo)])), (up, .inl (cy 0, 64, .inl (nA UP))), (lo, .inl (cy 0, 64, .inl (nA LO))), (f0, .inr (0, [.int (nI (so)), .int (nI (ch)), .int (nI (ho)), .ref (cA), .ref (dA), .ref (sA), .int (nI (lk)), .int (nI (dg)), .int (nI (fo))])), (cA, .inl (cy 0, 4, .inl (nA CR))), (dA, .inl (cy 0, 4, .inl (nA DR))), (sA, .inl (cy 2, 4, .inl (nA SN)))]) H := hP
        have hD : va_D A ([(t0, .inr (10, [.ref (up), .ref (lo)])), (up, .inl (cy 0, 64, .inl (nA UP))), (lo, .inl (cy 0, 64, .inl (nA LO))), (f0, .inr (0, [.int (nI (so)), .int (nI (ch)), .int (nI (ho)), .ref (cA), .ref (dA), .ref (sA), .int (nI (lk)), .int (nI (dg)), .int (nI (fo))])), (cA, .inl (cy 0, 4, .inl (nA CR))), (dA, .inl (cy 0, 4, .inl (nA DR))), (sA, .inl (cy 2, 4, .inl (nA SN)))]) := hD
        refine lv_i2l hx hb dX0_gain_55 rfl ?_
        refine ln_eql (y := (lN (UP ((so * 4 + cr) * 4 + dr)))) (nI_l (by omega)) ?_
        refine lv_lmul hx hb dX0_gain_56 ?_
        refine ln_eql (y := (lN (100 * ch * UP ((so * 4 + cr) * 4 + dr)))) (lN_mul _ _) ?_
        have hb3 := mul3_b hch.2 (show UP ((so * 4 + cr) * 4 + dr) ≤ 5000 by omega)
        refine lv_lload hx hb dX0_gain_57 (lv_at hl 0 rfl) ?_
        refine lv_ldiv hx hb dX0_gain_59 (fun q => by have := (lN0 (by omega)).mp q; omega) ?_
        have hP := hP.sub (ws' := [(f0, .inr (0, [.int (nI (so)), .int (nI (ch)), .int (nI (ho)), .ref (cA), .ref (dA), .ref (sA), .int (nI (lk)), .int (nI (dg)), .int (nI (fo))])), (cA, .inl (cy 0, 4, .inl (nA CR))), (dA, .inl (cy 0, 4, .inl (nA DR))), (sA, .inl (cy 2, 4, .inl (nA SN))), (t0, .inr (10, [.ref (up), .ref (lo)])), (up, .inl (cy 0, 64, .inl (nA UP))), (lo, .inl (cy 0, 64, .inl (nA LO)))]) [3, 4, 5, 6, 0, 1, 2] rfl
        have hD := hD.sub (ws' := [(f0, .inr (0, [.int (nI (so)), .int (nI (ch)), .int (nI (ho)), .ref (cA), .ref (dA), .ref (sA), .int (nI (lk)), .int (nI (dg)), .int (nI (fo))])), (cA, .inl (cy 0, 4, .inl (nA CR))), (dA, .inl (cy 0, 4, .inl (nA DR))), (sA, .inl (cy 2, 4, .inl (nA SN))), (t0, .inr (10, [.ref (up), .ref (lo)])), (up, .inl (cy 0, 64, .inl (nA UP))), (lo, .inl (cy 0, 64, .inl (nA LO)))]) [3, 4, 5, 6, 0, 1, 2] (by decide) rfl
        exact hret _ _ _ _ _ _ ⟨by rw [if_neg (fun h => h.elim (by omega) c2)]; exact pk_lDiv (by omega) (by omega) (by omega), rfl⟩ hP hD hS dX0_gain_60
      · exact absurd ((lg_cmp_gt _ _).mpr ((pk_lLT (a := 0) (by decide) (by omega)).mpr (by omega))) c3
