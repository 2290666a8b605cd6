abbrev hrI (ct : Nat) (x y : Int32) : Prop := ¬ x < 0 ∧ ¬ y < 0 ∧ x ≤ nI ct ∧ y ≤ nI ct - x
theorem hrI_of {ct : Nat} {x y : Int32} (hc : ct ≤ 16) (h : hrI ct x y) : ∃ f k : Nat, x = nI f ∧ y = nI k ∧ f + k ≤ ct := by
  obtain ⟨h1, h2, h3, h4⟩ := h
  obtain ⟨f, hf, rfl⟩ := nI_of h1
  obtain ⟨k, hk, rfl⟩ := nI_of h2
  have h5 := (nI_leI hf (by omega)).mp h3
  rw [pk_sub h5] at h4
  have h6 := (nI_leI hk (by omega)).mp h4
  exact ⟨f, k, rfl, rfl, by omega⟩
theorem hrI_nI {ct f k : Nat} (hc : ct ≤ 16) (h : f + k ≤ ct) : hrI ct (nI f) (nI k) := ⟨nI_pos (by omega), nI_pos (by omega), nI_le (by omega) (by omega), by rw [pk_sub (by omega)]; exact nI_le (by omega) (by omega)⟩
def wrI (b : Nat) (v : Int32) : Int32 := if b = 32 then v else v &&& ((nI 1 <<< (nI b &&& 31)) - nI 1)
theorem wrI_32 {b : Nat} (v : Int32) (h : b = 32) : wrI b v = v := if_pos h
theorem wrI_n {b : Nat} (v : Int32) (h : b ≠ 32) : wrI b v = v &&& ((nI 1 <<< (nI b &&& 31)) - nI 1) := if_neg h
set_option maxHeartbeats 4000000 in
set_option maxRecDepth 100000 in
theorem qX8_hasRun (l : Launch) (D : va_G) (cy : Nat → ClassId) (h0 : Nat) (nb : Nat) (bt : Nat) (ct : Nat) (NU : Nat → Int32) (x : Int32) (y : Int32)  : nq_i l D (cT cy) yX8_hasRun wsX8_hasRun 0 0 0 0 [.ref (h0), .int (x), .int (y)] ([(h0, .inr (8, [.ref (nb), .int (nI (bt)), .int (nI (ct))])), (nb, .inl (cy 0, 16, .inl NU))]) (fun r w1 => r = bI (hrI ct x y) ∧ w1 = [(h0, .inr (8, [.ref (nb), .int (nI (bt)), .int (nI (ct))])), (nb, .inl (cy 0, 16, .inl NU))]) := by
  refine nq_z_of (cc := cX8_hasRun) (maxL := 3) (by decide) rfl (Nat.le_of_ble_eq_true rfl) ?_
  intro p e s m args below meth c A Q ls hx hb hts hown hml hnm hN hA hP hK hD hS hl hret
  have hown : s.vm.findClass RX8 = some m.cls := hown
  have hinX8 : ∀ w ∈ u_ws RX8 TX8 3, w ∈ wsX8_hasRun := by decide +kernel
  have hl : lv_has ls 3 [(0, .ref (h0)), (1, .int (x)), (2, .int (y))] := hl
  have hP : va_P D vwCl ([(h0, .inr (8, [.ref (nb), .int (nI (bt)), .int (nI (ct))])), (nb, .inl (cy 0, 16, .inl NU))]) s.heap := hP
  refine lv_iload_n hx hb dX8_hasRun_0 rfl (lv_at hl 1 rfl) ?_
  refine lv_if_lt (tgt := 30) hx hb dX8_hasRun_1 (by decide) (fun c1 => ?_) (fun c1 => ?_)
  · refine lv_iconst (v := (nI (0))) hx hb dX8_hasRun_30 (by decide) ?_
    exact hret _ _ _ _ _ _ rfl ⟨bI_f' (fun h => h.1 c1), rfl⟩ hP hD hS dX8_hasRun_31
  · refine lv_iload_n hx hb dX8_hasRun_4 rfl (lv_at hl 2 rfl) ?_
    refine lv_if_lt (tgt := 30) hx hb dX8_hasRun_5 (by decide) (fun c2 => ?_) (fun c2 => ?_)
    · refine lv_iconst (v := (nI (0))) hx hb dX8_hasRun_30 (by decide) ?_
      exact hret _ _ _ _ _ _ rfl ⟨bI_f' (fun h => h.2.1 c2), rfl⟩ hP hD hS dX8_hasRun_31
    · refine lv_iload_n hx hb dX8_hasRun_8 rfl (lv_at hl 1 rfl) ?_
      refine lv_aload_n hx hb dX8_hasRun_9 rfl (lv_at hl 0 rfl) ?_
      refine va_get (D := D) (ci := 8) (v := .int (nI (ct))) (C := RX8) (T := TX8) (N := 3) hx hb hts hinX8 hown hK hP 0 rfl rfl 2 (by decide) (hts (.fieldLink RX8 19 "CornDesk$Sheet" "count" "I") (by decide +kernel)) (fun _ h9 => h9) rfl dX8_hasRun_10 ?_
      refine lv_icmp_gt (tgt := 30) hx hb dX8_hasRun_13 (by decide) (fun c3 => ?_) (fun c3 => ?_)
      · refine lv_iconst (v := (nI (0))) hx hb dX8_hasRun_30 (by decide) ?_
        exact hret _ _ _ _ _ _ rfl ⟨bI_f' (fun h => absurd h.2.2.1 (Int32.not_le.mpr c3)), rfl⟩ hP hD hS dX8_hasRun_31
      · refine lv_iload_n hx hb dX8_hasRun_16 rfl (lv_at hl 2 rfl) ?_
        refine lv_aload_n hx hb dX8_hasRun_17 rfl (lv_at hl 0 rfl) ?_
        refine va_get (D := D) (ci := 8) (v := .int (nI (ct))) (C := RX8) (T := TX8) (N := 3) hx hb hts hinX8 hown hK hP 0 rfl rfl 2 (by decide) (hts (.fieldLink RX8 19 "CornDesk$Sheet" "count" "I") (by decide +kernel)) (fun _ h9 => h9) rfl dX8_hasRun_18 ?_
        refine lv_iload_n hx hb dX8_hasRun_21 rfl (lv_at hl 1 rfl) ?_
        refine lv_isub hx hb dX8_hasRun_22 ?_
        refine lv_icmp_gt (tgt := 30) hx hb dX8_hasRun_23 (by decide) (fun c4 => ?_) (fun c4 => ?_)
        · refine lv_iconst (v := (nI (0))) hx hb dX8_hasRun_30 (by decide) ?_
          exact hret _ _ _ _ _ _ rfl ⟨bI_f' (fun h => absurd h.2.2.2 (Int32.not_le.mpr c4)), rfl⟩ hP hD hS dX8_hasRun_31
        · refine lv_iconst (v := (nI (1))) hx hb dX8_hasRun_26 (by decide) ?_
          refine lv_goto (tgt := 31) hx hb dX8_hasRun_27 (by decide) ?_
          exact hret _ _ _ _ _ _ rfl ⟨bI_t' ⟨c1, c2, Int32.not_lt.mp c3, Int32.not_lt.mp c4⟩, rfl⟩ hP hD hS dX8_hasRun_31
set_option maxHeartbeats 4000000 in
set_option maxRecDepth 100000 in
theorem qX8_write (l : Launch) (D : va_G) (cy : Nat → ClassId) (h0 : Nat) (nb : Nat) (bt : Nat) (ct : Nat) (NU : Nat → Int32) (j : Nat) (v : Int32) (hi : j < ct) (hc : ct ≤ 16) (hb9 : bt ≤ 32) : nq_v l D (cT cy) yX8_write wsX8_write 0 0 0 0 [.ref (h0), .int (nI (j)), .int (v)] ([(h0, .inr (8, [.ref (nb), .int (nI (bt)), .int (nI (ct))])), (nb, .inl (cy 0, 16, .inl NU))]) (fun w1 => w1 = [(h0, .inr (8, [.ref (nb), .int (nI (bt)), .int (nI (ct))])), (nb, .inl (cy 0, 16, .inl (upd NU j (wrI bt v))))]) := by
  refine nq_v_of (cc := cX8_write) (maxL := 3) (by decide) rfl (Nat.le_of_ble_eq_true rfl) ?_
  intro p e s m args below meth c A Q ls hx hb hts hown hml hnm hN hA hP hK hD hS hl hret
  have hown : s.vm.findClass RX8 = some m.cls := hown
  have hinX8 : ∀ w ∈ u_ws RX8 TX8 3, w ∈ wsX8_write := by decide +kernel
  have hl : lv_has ls 3 [(0, .ref (h0)), (1, .int (nI (j))), (2, .int (v))] := hl
  have hP : va_P D vwCl ([(h0, .inr (8, [.ref (nb), .int (nI (bt)), .int (nI (ct))])), (nb, .inl (cy 0, 16, .inl NU))]) s.heap := hP
  refine lv_iload_n hx hb dX8_write_0 rfl (lv_at hl 1 rfl) ?_
  refine lv_if_lt (tgt := 41) hx hb dX8_write_1 (by decide) (fun cc => absurd cc (nI_pos (by omega))) (fun _ => ?_)
  refine lv_iload_n hx hb dX8_write_4 rfl (lv_at hl 1 rfl) ?_
  refine lv_aload_n hx hb dX8_write_5 rfl (lv_at hl 0 rfl) ?_
  refine va_get (D := D) (ci := 8) (v := .int (nI (ct))) (C := RX8) (T := TX8) (N := 3) hx hb hts hinX8 hown hK hP 0 rfl rfl 2 (by decide) (hts (.fieldLink RX8 19 "CornDesk$Sheet" "count" "I") (by decide +kernel)) (fun _ h9 => h9) rfl dX8_write_6 ?_
  refine ln_icmp_ge (tgt := 41) hx hb dX8_write_9 (by decide) (by omega) (by omega) (fun c1 => ?_) (fun c1 => ?_)
  · exact absurd hi (by omega)
  · refine lv_aload_n hx hb dX8_write_12 rfl (lv_at hl 0 rfl) ?_
    refine va_get (D := D) (ci := 8) (v := .ref (nb)) (C := RX8) (T := TX8) (N := 3) hx hb hts hinX8 hown hK hP 0 rfl rfl 0 (by decide) (hts (.fieldLink RX8 9 "CornDesk$Sheet" "numbers" "[I") (by decide +kernel)) (fun _ h9 => h9) rfl dX8_write_13 ?_
    refine lv_iload_n hx hb dX8_write_16 rfl (lv_at hl 1 rfl) ?_
    refine lv_aload_n hx hb dX8_write_17 rfl (lv_at hl 0 rfl) ?_
    refine va_get (D := D) (ci := 8) (v := .int (nI (bt))) (C := RX8) (T := TX8) (N := 3) hx hb hts hinX8 hown hK hP 0 rfl rfl 1 (by decide) (hts (.fieldLink RX8 15 "CornDesk$Sheet" "bits" "I") (by decide +kernel)) (fun _ h9 => h9) rfl dX8_write_18 ?_
    refine lv_bipush (v := (nI (32))) hx hb dX8_write_21 (by decide) ?_
    refine ln_icmp_ne (tgt := 30) hx hb dX8_write_23 (by decide) (by omega) (by omega) (fun c2 => ?_) (fun c2 => ?_)
    · refine lv_iload_n hx hb dX8_write_30 rfl (lv_at hl 2 rfl) ?_
      refine lv_iconst (v := (nI (1))) hx hb dX8_write_31 (by decide) ?_
      refine lv_aload_n hx hb dX8_write_32 rfl (lv_at hl 0 rfl) ?_
      refine va_get (D := D) (ci := 8) (v := .int (nI (bt))) (C := RX8) (T := TX8) (N := 3) hx hb hts hinX8 hown hK hP 0 rfl rfl 1 (by decide) (hts (.fieldLink RX8 15 "CornDesk$Sheet" "bits" "I") (by decide +kernel)) (fun _ h9 => h9) rfl dX8_write_33 ?_
      refine lv_ishl hx hb dX8_write_36 ?_
      refine lv_iconst (v := (nI (1))) hx hb dX8_write_37 (by decide) ?_
      refine lv_isub hx hb dX8_write_38 ?_
      refine lv_iand hx hb dX8_write_39 ?_
      refine ln_iast hx hb hK hP hD hS 1 0 rfl rfl (by decide) (by omega) dX8_write_40 (fun H locs hP hD hS => ?_)
      have hP : va_P D vwCl ([(h0, .inr (8, [.ref (nb), .int (nI (bt)), .int (nI (ct))])), (nb, .inl (cy 0, 16, .inl (upd NU (j) ((v) &&& (((nI (1)) <<< ((nI (bt)) &&& 31)) - (nI (1)))))))]) H := hP
      have hD : va_D A ([(h0, .inr (8, [.ref (nb), .int (nI (bt)), .int (nI (ct))])), (nb, .inl (cy 0, 16, .inl (upd NU (j) ((v) &&& (((nI (1)) <<< ((nI (bt)) &&& 31)) - (nI (1)))))))]) := hD
      exact hret _ _ _ _ _ (by rw [wrI_n _ c2]) hP hD hS dX8_write_41
    · refine lv_iload_n hx hb dX8_write_26 rfl (lv_at hl 2 rfl) ?_
      refine lv_goto (tgt := 40) hx hb dX8_write_27 (by decide) ?_
      refine ln_iast hx hb hK hP hD hS 1 0 rfl rfl (by decide) (by omega) dX8_write_40 (fun H locs hP hD hS => ?_)
      have hP : va_P D vwCl ([(h0, .inr (8, [.ref (nb), .int (nI (bt)), .int (nI (ct))])), (nb, .inl (cy 0, 16, .inl (upd NU (j) (v))))]) H := hP
      have hD : va_D A ([(h0, .inr (8, [.ref (nb), .int (nI (bt)), .int (nI (ct))])), (nb, .inl (cy 0, 16, .inl (upd NU (j) (v))))]) := hD
      exact hret _ _ _ _ _ (by rw [wrI_32 _ c2]) hP hD hS dX8_write_41
set_option maxHeartbeats 4000000 in
set_option maxRecDepth 100000 in
theorem qX8_holdsSigns (l : Launch) (D : va_G) (cy : Nat → ClassId) (h0 : Nat) (nb : Nat) (bt : Nat) (ct : Nat) (NU : Nat → Int32)  (hc : ct ≤ 16) : nq_i l D (cT cy) yX8_holdsSigns wsX8_holdsSigns 2 0 0 42 [.ref (h0)] ([(h0, .inr (8, [.ref (nb), .int (nI (bt)), .int (nI (ct))])), (nb, .inl (cy 0, 16, .inl NU))]) (fun r w1 => r = bI (∀ j, j < ct → sgI (NU j)) ∧ w1 = [(h0, .inr (8, [.ref (nb), .int (nI (bt)), .int (nI (ct))])), (nb, .inl (cy 0, 16, .inl NU))]) := by
  refine nq_z_of (cc := cX8_holdsSigns) (maxL := 2) (by decide) rfl (Nat.le_of_ble_eq_true rfl) ?_
  intro p e s m args below meth c A Q ls hx hb hts hown hml hnm hN hA hP hK hD hS hl hret
  have hown : s.vm.findClass RX8 = some m.cls := hown
  have hinX8 : ∀ w ∈ u_ws RX8 TX8 3, w ∈ wsX8_holdsSigns := by decide +kernel
  have hl : lv_has ls 2 [(0, .ref (h0))] := hl
  have hP : va_P D vwCl ([(h0, .inr (8, [.ref (nb), .int (nI (bt)), .int (nI (ct))])), (nb, .inl (cy 0, 16, .inl NU))]) s.heap := hP
  refine lv_iconst (v := (nI (0))) hx hb dX8_holdsSigns_0 (by decide) ?_
  refine lv_istore_n (lv' := [(1, .int (nI (0))), (0, .ref (h0))]) hx hb dX8_holdsSigns_1 rfl hl (by decide) rfl (fun ls hl => ?_)
  have lp : ∀ (i : Nat) (k : Nat), (k + i = ct) → (∀ j, j < k → sgI (NU j)) → ∀ (H : Heap) (locs : List Loc) (ls : Array Slot), va_P D vwCl ([(h0, .inr (8, [.ref (nb), .int (nI (bt)), .int (nI (ct))])), (nb, .inl (cy 0, 16, .inl NU))]) H → va_D A ([(h0, .inr (8, [.ref (nb), .int (nI (bt)), .int (nI (ct))])), (nb, .inl (cy 0, 16, .inl NU))]) → va_S A s.heap H locs → lv_has ls 2 [(1, .int (nI (k))), (0, .ref (h0))] → W p l e (mq_R 2 0 0 42) s m args below meth c H locs 0 0 Q (F0 m 2 ls []) := by
    intro i
    induction i with
    | zero =>
      intro k hk hall H locs ls hP hD hS hl
      refine lv_iload_n hx hb dX8_holdsSigns_2 rfl (lv_at hl 0 rfl) ?_
      refine lv_aload_n hx hb dX8_holdsSigns_3 rfl (lv_at hl 1 rfl) ?_
      refine va_get (D := D) (ci := 8) (v := .int (nI (ct))) (C := RX8) (T := TX8) (N := 3) hx hb hts hinX8 hown hK hP 0 rfl rfl 2 (by decide) (hts (.fieldLink RX8 19 "CornDesk$Sheet" "count" "I") (by decide +kernel)) (fun _ h9 => h9) rfl dX8_holdsSigns_4 ?_
      refine ln_icmp_ge (tgt := 30) hx hb dX8_holdsSigns_7 (by decide) (by omega) (by omega) (fun c1 => ?_) (fun c1 => ?_)
      · refine lv_iconst (v := (nI (1))) hx hb dX8_holdsSigns_30 (by decide) ?_
        exact hret _ _ _ _ _ _ rfl ⟨bI_t' (fun j hj => hall j (by omega)), rfl⟩ hP hD hS dX8_holdsSigns_31
      · exact absurd hk (by omega)
    | succ i ih =>
      intro k hk hall H locs ls hP hD hS hl
      refine lv_iload_n hx hb dX8_holdsSigns_2 rfl (lv_at hl 0 rfl) ?_
      refine lv_aload_n hx hb dX8_holdsSigns_3 rfl (lv_at hl 1 rfl) ?_
      refine va_get (D := D) (ci := 8) (v := .int (nI (ct))) (C := RX8) (T := TX8) (N := 3) hx hb hts hinX8 hown hK hP 0 rfl rfl 2 (by decide) (hts (.fieldLink RX8 19 "CornDesk$Sheet" "count" "I") (by decide +kernel)) (fun _ h9 => h9) rfl dX8_holdsSigns_4 ?_
      refine ln_icmp_ge (tgt := 30) hx hb dX8_holdsSigns_7 (by decide) (by omega) (by omega) (fun c1 => ?_) (fun c1 => ?_)
      · exact absurd hk (by omega)
      · refine lv_aload_n hx hb dX8_holdsSigns_10 rfl (lv_at hl 1 rfl) ?_
        refine va_get (D := D) (ci := 8) (v := .ref (nb)) (C := RX8) (T := TX8) (N := 3) hx hb hts hinX8 hown hK hP 0 rfl rfl 0 (by decide) (hts (.fieldLink RX8 9 "CornDesk$Sheet" "numbers" "[I") (by decide +kernel)) (fun _ h9 => h9) rfl dX8_holdsSigns_11 ?_
        refine lv_iload_n hx hb dX8_holdsSigns_14 rfl (lv_at hl 0 rfl) ?_
        refine ln_iald hx hb hK hP 1 0 rfl rfl (by decide) (by omega) dX8_holdsSigns_15 ?_
        refine nq_SNi (As := [.int (NU (k))]) (rest := []) (w := []) (wr := [(h0, .inr (8, [.ref (nb), .int (nI (bt)), .int (nI (ct))])), (nb, .inl (cy 0, 16, .inl NU))]) ⟨hx, hb, hml, hown, hts⟩ (qX11_isSign l D cy  (NU (k)) ) ⟨va_cnB (host := "CornDesk") 1 hts ggX8_holdsSigns_X11_isSign rfl rfl rfl (nst_m hN (by decide)) (hts (.initialized RX11) (by decide +kernel)) (by decide +kernel) ⟨Nat.le_of_ble_eq_true rfl, Nat.le_of_ble_eq_true rfl⟩, hts (.static yX11_isSign) (by decide +kernel), trivial⟩ hP hK hD hN hS hA rfl hl.1 rfl (Nat.le_of_ble_eq_true rfl) dX8_holdsSigns_16 ⟨Nat.le_of_ble_eq_true rfl, Nat.le_of_ble_eq_true rfl⟩ (fun r w1 H locs hq hP hD hS => ?_)
        obtain ⟨rfl, rfl⟩ := hq
        have hP : va_P D vwCl ([(h0, .inr (8, [.ref (nb), .int (nI (bt)), .int (nI (ct))])), (nb, .inl (cy 0, 16, .inl NU))]) H := hP
        have hD : va_D A ([(h0, .inr (8, [.ref (nb), .int (nI (bt)), .int (nI (ct))])), (nb, .inl (cy 0, 16, .inl NU))]) := hD
        refine lb_if_ne (tgt := 24) hx hb dX8_holdsSigns_19 (by decide) (fun c2 => ?_) (fun c2 => ?_)
        · refine lv_iinc (v := (nI (k + 1))) (lv' := [(1, .int (nI (k + 1))), (0, .ref (h0))]) hx hb dX8_holdsSigns_24 hl (k := 0) rfl (by rw [show (Int32.ofInt 1) = nI 1 from rfl, nI_add]) (by decide) rfl (fun ls hl => ?_)
          refine lv_goto (tgt := 2) hx hb dX8_holdsSigns_27 (by decide) ?_
          exact ih (k + 1) (by omega) (fun j hj => by rcases Nat.lt_or_ge j k with q | q; exact hall j q; rw [show j = k by omega]; exact c2) _ _ _ hP hD hS hl
        · refine lv_iconst (v := (nI (0))) hx hb dX8_holdsSigns_22 (by decide) ?_
          exact hret _ _ _ _ _ _ rfl ⟨bI_f' (fun h => c2 (h k (by omega))), rfl⟩ hP hD hS dX8_holdsSigns_23
  exact lp (ct) (0) (by omega) (fun j hj => absurd hj (by omega)) _ _ _ hP hD hS hl
set_option maxHeartbeats 4000000 in
set_option maxRecDepth 100000 in
theorem qX10_cell (l : Launch) (D : va_G) (cy : Nat → ClassId)  (so : Nat) (cr : Nat) (dr : Nat) (hs : so ≤ 3) (hc : cr ≤ 3) (hd : dr ≤ 3) : nq_i l D (cT cy) yX10_cell wsX10_cell 2 0 0 42 [.int (nI (so)), .int (nI (cr)), .int (nI (dr))] ([]) (fun r w1 => r = nI ((so * 4 + cr) * 4 + dr) ∧ w1 = []) := by
  refine nq_i_of (cc := cX10_cell) (maxL := 3) (by decide) rfl (Nat.le_of_ble_eq_true rfl) ?_
  intro p e s m args below meth c A Q ls hx hb hts hown hml hnm hN hA hP hK hD hS hl hret
  have hown : s.vm.findClass RX10 = some m.cls := hown
  have hl : lv_has ls 3 [(0, .int (nI (so))), (1, .int (nI (cr))), (2, .int (nI (dr)))] := hl
  have hP : va_P D vwCl ([]) s.heap := hP
  refine lv_iload_n hx hb dX10_cell_0 rfl (lv_at hl 0 rfl) ?_
  refine nq_SNi (As := [.int (nI (so))]) (rest := []) (w := []) (wr := []) ⟨hx, hb, hml, hown, hts⟩ (qX11_isLevel l D cy  (nI (so)) ) ⟨va_cnB (host := "CornDesk") 1 hts ggX10_cell_X11_isLevel rfl rfl rfl (nst_m hN (by decide)) (hts (.initialized RX11) (by decide +kernel)) (by decide +kernel) ⟨Nat.le_of_ble_eq_true rfl, Nat.le_of_ble_eq_true rfl⟩, hts (.static yX11_isLevel) (by decide +kernel), trivial⟩ hP hK hD hN hS hA rfl hl.1 rfl (Nat.le_of_ble_eq_true rfl) dX10_cell_1 ⟨Nat.le_of_ble_eq_true rfl, Nat.le_of_ble_eq_true rfl⟩ (fun r w1 H locs hq hP hD hS => ?_)
  obtain ⟨rfl, rfl⟩ := hq
  have hP : va_P D vwCl ([]) H := hP
  have hD : va_D A ([]) := hD
  refine lb_if_eq (tgt := 33) hx hb dX10_cell_4 (by decide) (fun c1 => ?_) (fun c1 => ?_)
  · exact absurd (rg_nI (Nat.zero_le _) hs (by decide)) c1
  · refine lv_iload_n hx hb dX10_cell_7 rfl (lv_at hl 1 rfl) ?_
    refine nq_SNi (As := [.int (nI (cr))]) (rest := []) (w := []) (wr := []) ⟨hx, hb, hml, hown, hts⟩ (qX11_isLevel l D cy  (nI (cr)) ) ⟨va_cnB (host := "CornDesk") 1 hts ggX10_cell_X11_isLevel rfl rfl rfl (nst_m hN (by decide)) (hts (.initialized RX11) (by decide +kernel)) (by decide +kernel) ⟨Nat.le_of_ble_eq_true rfl, Nat.le_of_ble_eq_true rfl⟩, hts (.static yX11_isLevel) (by decide +kernel), trivial⟩ hP hK hD hN hS hA rfl hl.1 rfl (Nat.le_of_ble_eq_true rfl) dX10_cell_8 ⟨Nat.le_of_ble_eq_true rfl, Nat.le_of_ble_eq_true rfl⟩ (fun r w1 H locs hq hP hD hS => ?_)
    obtain ⟨rfl, rfl⟩ := hq
    have hP : va_P D vwCl ([]) H := hP
    have hD : va_D A ([]) := hD
    refine lb_if_eq (tgt := 33) hx hb dX10_cell_11 (by decide) (fun c2 => ?_) (fun c2 => ?_)
    · exact absurd (rg_nI (Nat.zero_le _) hc (by decide)) c2
    · refine lv_iload_n hx hb dX10_cell_14 rfl (lv_at hl 2 rfl) ?_
      refine nq_SNi (As := [.int (nI (dr))]) (rest := []) (w := []) (wr := []) ⟨hx, hb, hml, hown, hts⟩ (qX11_isLevel l D cy  (nI (dr)) ) ⟨va_cnB (host := "CornDesk") 1 hts ggX10_cell_X11_isLevel rfl rfl rfl (nst_m hN (by decide)) (hts (.initialized RX11) (by decide +kernel)) (by decide +kernel) ⟨Nat.le_of_ble_eq_true rfl, Nat.le_of_ble_eq_true rfl⟩, hts (.static yX11_isLevel) (by decide +kernel), trivial⟩ hP hK hD hN hS hA rfl hl.1 rfl (Nat.le_of_ble_eq_true rfl) dX10_cell_15 ⟨Nat.le_of_ble_eq_true rfl, Nat.le_of_ble_eq_true rfl⟩ (fun r w1 H locs hq hP hD hS => ?_)
      obtain ⟨rfl, rfl⟩ := hq
      have hP : va_P D vwCl ([]) H := hP
      have hD : va_D A ([]) := hD
      refine lb_if_eq (tgt := 33) hx hb dX10_cell_18 (by decide) (fun c3 => ?_) (fun c3 => ?_)
      · exact absurd (rg_nI (Nat.zero_le _) hd (by decide)) c3
      · refine lv_iload_n hx hb dX10_cell_21 rfl (lv_at hl 0 rfl) ?_
        refine lv_iconst (v := (nI (4))) hx hb dX10_cell_22 (by decide) ?_
        refine ln_imul hx hb dX10_cell_23 ?_
        refine lv_iload_n hx hb dX10_cell_24 rfl (lv_at hl 1 rfl) ?_
        refine ln_iadd hx hb dX10_cell_25 ?_
        refine lv_iconst (v := (nI (4))) hx hb dX10_cell_26 (by decide) ?_
        refine ln_imul hx hb dX10_cell_27 ?_
        refine lv_iload_n hx hb dX10_cell_28 rfl (lv_at hl 2 rfl) ?_
        refine ln_iadd hx hb dX10_cell_29 ?_
        refine lv_goto (tgt := 34) hx hb dX10_cell_30 (by decide) ?_
        exact hret _ _ _ _ _ _ ⟨rfl, rfl⟩ hP hD hS dX10_cell_34
set_option maxHeartbeats 4000000 in
set_option maxRecDepth 100000 in
theorem qX10_upper (l : Launch) (D : va_G) (cy : Nat → ClassId) (t0 : Nat) (up : Nat) (lo : Nat) (UP : Nat → Nat) (LO : Nat → Nat) (so : Nat) (cr : Nat) (dr : Nat) (hs : so ≤ 3) (hc : cr ≤ 3) (hd : dr ≤ 3) : nq_i l D (cT cy) yX10_upper wsX10_upper 3 0 0 64 [.ref (t0), .int (nI (so)), .int (nI (cr)), .int (nI (dr))] ([(t0, .inr (10, [.ref (up), .ref (lo)])), (up, .inl (cy 0, 64, .inl (nA UP))), (lo, .inl (cy 0, 64, .inl (nA LO)))]) (fun r w1 => r = nI (UP ((so * 4 + cr) * 4 + dr)) ∧ w1 = [(t0, .inr (10, [.ref (up), .ref (lo)])), (up, .inl (cy 0, 64, .inl (nA UP))), (lo, .inl (cy 0, 64, .inl (nA LO)))]) := by
  refine nq_i_of (cc := cX10_upper) (maxL := 4) (by decide) rfl (Nat.le_of_ble_eq_true rfl) ?_
  intro p e s m args below meth c A Q ls hx hb hts hown hml hnm hN hA hP hK hD hS hl hret
  have hown : s.vm.findClass RX10 = some m.cls := hown
  have hinX10 : ∀ w ∈ u_ws RX10 TX10 2, w ∈ wsX10_upper := by decide +kernel
  have hl : lv_has ls 4 [(0, .ref (t0)), (1, .int (nI (so))), (2, .int (nI (cr))), (3, .int (nI (dr)))] := hl
  have hP : va_P D vwCl ([(t0, .inr (10, [.ref (up), .ref (lo)])), (up, .inl (cy 0, 64, .inl (nA UP))), (lo, .inl (cy 0, 64, .inl (nA LO)))]) s.heap := hP
  refine lv_aload_n hx hb dX10_upper_0 rfl (lv_at hl 0 rfl) ?_
  refine va_get (D := D) (ci := 10) (v := .ref (up)) (C := RX10) (T := TX10) (N := 2) hx hb hts hinX10 hown hK hP 0 rfl rfl 0 (by decide) (hts (.fieldLink RX10 11 "CornDesk$Table" "upper" "[I") (by decide +kernel)) (fun _ h9 => h9) rfl dX10_upper_1 ?_
  refine lv_iload_n hx hb dX10_upper_4 rfl (lv_at hl 1 rfl) ?_
  refine lv_iload_n hx hb dX10_upper_5 rfl (lv_at hl 2 rfl) ?_
  refine lv_iload_n hx hb dX10_upper_6 rfl (lv_at hl 3 rfl) ?_
  refine nq_Si (As := [.int (nI (so)), .int (nI (cr)), .int (nI (dr))]) (rest := [.ref (up)]) (w := []) (wr := [(t0, .inr (10, [.ref (up), .ref (lo)])), (up, .inl (cy 0, 64, .inl (nA UP))), (lo, .inl (cy 0, 64, .inl (nA LO)))]) ⟨hx, hb, hml, hown, hts⟩ (qX10_cell l D cy  (so) (cr) (dr) hs hc hd) (cwS 3 hts gX10_upper_X10_cell rfl rfl rfl (by decide +kernel) ⟨Nat.le_of_ble_eq_true rfl, Nat.le_of_ble_eq_true rfl⟩) hP hK hD hN hS hA rfl hl.1 rfl (Nat.le_of_ble_eq_true rfl) dX10_upper_7 ⟨Nat.le_of_ble_eq_true rfl, Nat.le_of_ble_eq_true rfl⟩ (fun r w1 H locs hq hP hD hS => ?_)
  obtain ⟨rfl, rfl⟩ := hq
  have hP : va_P D vwCl ([(t0, .inr (10, [.ref (up), .ref (lo)])), (up, .inl (cy 0, 64, .inl (nA UP))), (lo, .inl (cy 0, 64, .inl (nA LO)))]) H := hP
  have hD : va_D A ([(t0, .inr (10, [.ref (up), .ref (lo)])), (up, .inl (cy 0, 64, .inl (nA UP))), (lo, .inl (cy 0, 64, .inl (nA LO)))]) := hD
  refine ln_iald hx hb hK hP 1 0 rfl rfl (by decide) (by omega) dX10_upper_10 ?_
  exact hret _ _ _ _ _ _ ⟨rfl, rfl⟩ hP hD hS dX10_upper_11
set_option maxHeartbeats 4000000 in
set_option maxRecDepth 100000 in
theorem qX10_lower (l : Launch) (D : va_G) (cy : Nat → ClassId) (t0 : Nat) (up : Nat) (lo : Nat) (UP : Nat → Nat) (LO : Nat → Nat) (so : Nat) (cr : Nat) (dr : Nat) (hs : so ≤ 3) (hc : cr ≤ 3) (hd : dr ≤ 3) : nq_i l D (cT cy) yX10_lower wsX10_lower 3 0 0 64 [.ref (t0), .int (nI (so)), .int (nI (cr)), .int (nI (dr))] ([(t0, .inr (10, [.ref (up), .ref (lo)])), (up, .inl (cy 0, 64, .inl (nA UP))), (lo, .inl (cy 0, 64, .inl (nA LO)))]) (fun r w1 => r = nI (LO ((so * 4 + cr) * 4 + dr)) ∧ w1 = [(t0, .inr (10, [.ref (up), .ref (lo)])), (up, .inl (cy 0, 64, .inl (nA UP))), (lo, .inl (cy 0, 64, .inl (nA LO)))]) := by
  refine nq_i_of (cc := cX10_lower) (maxL := 4) (by decide) rfl (Nat.le_of_ble_eq_true rfl) ?_
  intro p e s m args below meth c A Q ls hx hb hts hown hml hnm hN hA hP hK hD hS hl hret
  have hown : s.vm.findClass RX10 = some m.cls := hown
  have hinX10 : ∀ w ∈ u_ws RX10 TX10 2, w ∈ wsX10_lower := by decide +kernel
  have hl : lv_has ls 4 [(0, .ref (t0)), (1, .int (nI (so))), (2, .int (nI (cr))), (3, .int (nI (dr)))] := hl
  have hP : va_P D vwCl ([(t0, .inr (10, [.ref (up), .ref (lo)])), (up, .inl (cy 0, 64, .inl (nA UP))), (lo, .inl (cy 0, 64, .inl (nA LO)))]) s.heap := hP
  refine lv_aload_n hx hb dX10_lower_0 rfl (lv_at hl 0 rfl) ?_
  refine va_get (D := D) (ci := 10) (v := .ref (lo)) (C := RX10) (T := TX10) (N := 2) hx hb hts hinX10 hown hK hP 0 rfl rfl 1 (by decide) (hts (.fieldLink RX10 15 "CornDesk$Table" "lower" "[I") (by decide +kernel)) (fun _ h9 => h9) rfl dX10_lower_1 ?_
  refine lv_iload_n hx hb dX10_lower_4 rfl (lv_at hl 1 rfl) ?_
  refine lv_iload_n hx hb dX10_lower_5 rfl (lv_at hl 2 rfl) ?_
  refine lv_iload_n hx hb dX10_lower_6 rfl (lv_at hl 3 rfl) ?_
  refine nq_Si (As := [.int (nI (so)), .int (nI (cr)), .int (nI (dr))]) (rest := [.ref (lo)]) (w := []) (wr := [(t0, .inr (10, [.ref (up), .ref (lo)])), (up, .inl (cy 0, 64, .inl (nA UP))), (lo, .inl (cy 0, 64, .inl (nA LO)))]) ⟨hx, hb, hml, hown, hts⟩ (qX10_cell l D cy  (so) (cr) (dr) hs hc hd) (cwS 3 hts gX10_lower_X10_cell rfl rfl rfl (by decide +kernel) ⟨Nat.le_of_ble_eq_true rfl, Nat.le_of_ble_eq_true rfl⟩) hP hK hD hN hS hA rfl hl.1 rfl (Nat.le_of_ble_eq_true rfl) dX10_lower_7 ⟨Nat.le_of_ble_eq_true rfl, Nat.le_of_ble_eq_true rfl⟩ (fun r w1 H locs hq hP hD hS => ?_)
  obtain ⟨rfl, rfl⟩ := hq
  have hP : va_P D vwCl ([(t0, .inr (10, [.ref (up), .ref (lo)])), (up, .inl (cy 0, 64, .inl (nA UP))), (lo, .inl (cy 0, 64, .inl (nA LO)))]) H := hP
  have hD : va_D A ([(t0, .inr (10, [.ref (up), .ref (lo)])), (up, .inl (cy 0, 64, .inl (nA UP))), (lo, .inl (cy 0, 64, .inl (nA LO)))]) := hD
  refine ln_iald hx hb hK hP 2 0 rfl rfl (by decide) (by omega) dX10_lower_10 ?_
  exact hret _ _ _ _ _ _ ⟨rfl, rfl⟩ hP hD hS dX10_lower_11
