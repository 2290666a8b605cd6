set_option maxHeartbeats 4000000 in
set_option maxRecDepth 100000 in
theorem qX11_isWithin (l : Launch) (D : va_G) (cy : Nat → ClassId)  (v : Int32) (lo : Int32) (hi : Int32)  : nq_i l D (cT cy) yX11_isWithin wsX11_isWithin 0 0 0 0 [.int (v), .int (lo), .int (hi)] ([]) (fun r w1 => r = bI (lo ≤ v ∧ v ≤ hi) ∧ w1 = []) := by
  refine nq_z_of (cc := cX11_isWithin) (maxL := 3) (by decide) rfl (Nat.le_of_ble_eq_true rfl) ?_
  intro p e s m args below meth c A Q ls hx hb hts hown hml hnm hN hA hP hK hD hS hl hret
  have hown : s.vm.findClass RX11 = some m.cls := hown
  have hl : lv_has ls 3 [(0, .int (v)), (1, .int (lo)), (2, .int (hi))] := hl
  have hP : va_P D vwCl ([]) s.heap := hP
  refine lv_iload_n hx hb dX11_isWithin_0 rfl (lv_at hl 0 rfl) ?_
  refine lv_iload_n hx hb dX11_isWithin_1 rfl (lv_at hl 1 rfl) ?_
  refine lv_icmp_lt (tgt := 14) hx hb dX11_isWithin_2 (by decide) (fun c1 => ?_) (fun c1 => ?_)
  · refine lv_iconst (v := (nI (0))) hx hb dX11_isWithin_14 (by decide) ?_
    exact hret _ _ _ _ _ _ rfl ⟨bI_f' (fun h => absurd h.1 (Int32.not_le.mpr c1)), rfl⟩ hP hD hS dX11_isWithin_15
  · refine lv_iload_n hx hb dX11_isWithin_5 rfl (lv_at hl 0 rfl) ?_
    refine lv_iload_n hx hb dX11_isWithin_6 rfl (lv_at hl 2 rfl) ?_
    refine lv_icmp_gt (tgt := 14) hx hb dX11_isWithin_7 (by decide) (fun c2 => ?_) (fun c2 => ?_)
    · refine lv_iconst (v := (nI (0))) hx hb dX11_isWithin_14 (by decide) ?_
      exact hret _ _ _ _ _ _ rfl ⟨bI_f' (fun h => absurd h.2 (Int32.not_le.mpr c2)), rfl⟩ hP hD hS dX11_isWithin_15
    · refine lv_iconst (v := (nI (1))) hx hb dX11_isWithin_10 (by decide) ?_
      refine lv_goto (tgt := 15) hx hb dX11_isWithin_11 (by decide) ?_
      exact hret _ _ _ _ _ _ rfl ⟨bI_t' ⟨Int32.not_lt.mp c1, Int32.not_lt.mp c2⟩, rfl⟩ hP hD hS dX11_isWithin_15
set_option maxHeartbeats 4000000 in
set_option maxRecDepth 100000 in
theorem qX11_isSpot (l : Launch) (D : va_G) (cy : Nat → ClassId)  (v : Int32)  : nq_i l D (cT cy) yX11_isSpot wsX11_isSpot 1 0 0 22 [.int (v)] ([]) (fun r w1 => r = bI (rg 0 999 v) ∧ w1 = []) := by
  refine nq_z_of (cc := cX11_isSpot) (maxL := 1) (by decide) rfl (Nat.le_of_ble_eq_true rfl) ?_
  intro p e s m args below meth c A Q ls hx hb hts hown hml hnm hN hA hP hK hD hS hl hret
  have hown : s.vm.findClass RX11 = some m.cls := hown
  have hl : lv_has ls 1 [(0, .int (v))] := hl
  have hP : va_P D vwCl ([]) s.heap := hP
  refine lv_iload_n hx hb dX11_isSpot_0 rfl (lv_at hl 0 rfl) ?_
  refine lv_iconst (v := (nI (0))) hx hb dX11_isSpot_1 (by decide) ?_
  refine lv_sipush (v := (nI (999))) hx hb dX11_isSpot_2 (by decide) ?_
  refine nq_Si (As := [.int (v), .int (nI (0)), .int (nI (999))]) (rest := []) (w := []) (wr := []) ⟨hx, hb, hml, hown, hts⟩ (qX11_isWithin l D cy  (v) (nI (0)) (nI (999)) ) (cwS 3 hts gX11_isSpot_X11_isWithin rfl rfl rfl (by decide +kernel) ⟨Nat.le_of_ble_eq_true rfl, Nat.le_of_ble_eq_true rfl⟩) hP hK hD hN hS hA rfl hl.1 rfl (Nat.le_of_ble_eq_true rfl) dX11_isSpot_5 ⟨Nat.le_of_ble_eq_true rfl, Nat.le_of_ble_eq_true rfl⟩ (fun r w1 H locs hq hP hD hS => ?_)
  obtain ⟨rfl, rfl⟩ := hq
  have hP : va_P D vwCl ([]) H := hP
  have hD : va_D A ([]) := hD
  exact hret _ _ _ _ _ _ bI_nar ⟨rfl, rfl⟩ hP hD hS dX11_isSpot_8
set_option maxHeartbeats 4000000 in
set_option maxRecDepth 100000 in
theorem qX11_isLevel (l : Launch) (D : va_G) (cy : Nat → ClassId)  (v : Int32)  : nq_i l D (cT cy) yX11_isLevel wsX11_isLevel 1 0 0 22 [.int (v)] ([]) (fun r w1 => r = bI (rg 0 3 v) ∧ w1 = []) := by
  refine nq_z_of (cc := cX11_isLevel) (maxL := 1) (by decide) rfl (Nat.le_of_ble_eq_true rfl) ?_
  intro p e s m args below meth c A Q ls hx hb hts hown hml hnm hN hA hP hK hD hS hl hret
  have hown : s.vm.findClass RX11 = some m.cls := hown
  have hl : lv_has ls 1 [(0, .int (v))] := hl
  have hP : va_P D vwCl ([]) s.heap := hP
  refine lv_iload_n hx hb dX11_isLevel_0 rfl (lv_at hl 0 rfl) ?_
  refine lv_iconst (v := (nI (0))) hx hb dX11_isLevel_1 (by decide) ?_
  refine lv_iconst (v := (nI (3))) hx hb dX11_isLevel_2 (by decide) ?_
  refine nq_Si (As := [.int (v), .int (nI (0)), .int (nI (3))]) (rest := []) (w := []) (wr := []) ⟨hx, hb, hml, hown, hts⟩ (qX11_isWithin l D cy  (v) (nI (0)) (nI (3)) ) (cwS 3 hts gX11_isLevel_X11_isWithin rfl rfl rfl (by decide +kernel) ⟨Nat.le_of_ble_eq_true rfl, Nat.le_of_ble_eq_true rfl⟩) hP hK hD hN hS hA rfl hl.1 rfl (Nat.le_of_ble_eq_true rfl) dX11_isLevel_3 ⟨Nat.le_of_ble_eq_true rfl, Nat.le_of_ble_eq_true rfl⟩ (fun r w1 H locs hq hP hD hS => ?_)
  obtain ⟨rfl, rfl⟩ := hq
  have hP : va_P D vwCl ([]) H := hP
  have hD : va_D A ([]) := hD
  exact hret _ _ _ _ _ _ bI_nar ⟨rfl, rfl⟩ hP hD hS dX11_isLevel_6
set_option maxHeartbeats 4000000 in
set_option maxRecDepth 100000 in
theorem qX11_isSign (l : Launch) (D : va_G) (cy : Nat → ClassId)  (v : Int32)  : nq_i l D (cT cy) yX11_isSign wsX11_isSign 1 0 0 22 [.int (v)] ([]) (fun r w1 => r = bI (sgI v) ∧ w1 = []) := by
  refine nq_z_of (cc := cX11_isSign) (maxL := 1) (by decide) rfl (Nat.le_of_ble_eq_true rfl) ?_
  intro p e s m args below meth c A Q ls hx hb hts hown hml hnm hN hA hP hK hD hS hl hret
  have hown : s.vm.findClass RX11 = some m.cls := hown
  have hl : lv_has ls 1 [(0, .int (v))] := hl
  have hP : va_P D vwCl ([]) s.heap := hP
  refine lv_iload_n hx hb dX11_isSign_0 rfl (lv_at hl 0 rfl) ?_
  refine lv_iconst (v := (nI (1))) hx hb dX11_isSign_1 (by decide) ?_
  refine lv_iconst (v := (nI (4))) hx hb dX11_isSign_2 (by decide) ?_
  refine nq_Si (As := [.int (v), .int (nI (1)), .int (nI (4))]) (rest := []) (w := []) (wr := []) ⟨hx, hb, hml, hown, hts⟩ (qX11_isWithin l D cy  (v) (nI (1)) (nI (4)) ) (cwS 3 hts gX11_isSign_X11_isWithin rfl rfl rfl (by decide +kernel) ⟨Nat.le_of_ble_eq_true rfl, Nat.le_of_ble_eq_true rfl⟩) hP hK hD hN hS hA rfl hl.1 rfl (Nat.le_of_ble_eq_true rfl) dX11_isSign_3 ⟨Nat.le_of_ble_eq_true rfl, Nat.le_of_ble_eq_true rfl⟩ (fun r w1 H locs hq hP hD hS => ?_)
  obtain ⟨rfl, rfl⟩ := hq
  have hP : va_P D vwCl ([]) H := hP
  have hD : va_D A ([]) := hD
  refine lb_if_ne (tgt := 20) hx hb dX11_isSign_6 (by decide) (fun c1 => ?_) (fun c1 => ?_)
  · refine lv_iconst (v := (nI (1))) hx hb dX11_isSign_20 (by decide) ?_
    refine lv_goto (tgt := 25) hx hb dX11_isSign_21 (by decide) ?_
    exact hret _ _ _ _ _ _ rfl ⟨bI_t' (Or.inl c1), rfl⟩ hP hD hS dX11_isSign_25
  · refine lv_iload_n hx hb dX11_isSign_9 rfl (lv_at hl 0 rfl) ?_
    refine lv_bipush (v := (nI (10))) hx hb dX11_isSign_10 (by decide) ?_
    refine lv_bipush (v := (nI (24))) hx hb dX11_isSign_12 (by decide) ?_
    refine nq_Si (As := [.int (v), .int (nI (10)), .int (nI (24))]) (rest := []) (w := []) (wr := []) ⟨hx, hb, hml, hown, hts⟩ (qX11_isWithin l D cy  (v) (nI (10)) (nI (24)) ) (cwS 3 hts gX11_isSign_X11_isWithin rfl rfl rfl (by decide +kernel) ⟨Nat.le_of_ble_eq_true rfl, Nat.le_of_ble_eq_true rfl⟩) hP hK hD hN hS hA rfl hl.1 rfl (Nat.le_of_ble_eq_true rfl) dX11_isSign_14 ⟨Nat.le_of_ble_eq_true rfl, Nat.le_of_ble_eq_true rfl⟩ (fun r w1 H locs hq hP hD hS => ?_)
    obtain ⟨rfl, rfl⟩ := hq
    have hP : va_P D vwCl ([]) H := hP
    have hD : va_D A ([]) := hD
    refine lb_if_eq (tgt := 24) hx hb dX11_isSign_17 (by decide) (fun c2 => ?_) (fun c2 => ?_)
    · refine lv_iconst (v := (nI (0))) hx hb dX11_isSign_24 (by decide) ?_
      exact hret _ _ _ _ _ _ rfl ⟨bI_f' (fun h => h.elim c1 c2), rfl⟩ hP hD hS dX11_isSign_25
    · refine lv_iconst (v := (nI (1))) hx hb dX11_isSign_20 (by decide) ?_
      refine lv_goto (tgt := 25) hx hb dX11_isSign_21 (by decide) ?_
      exact hret _ _ _ _ _ _ rfl ⟨bI_t' (Or.inr c2), rfl⟩ hP hD hS dX11_isSign_25
set_option maxHeartbeats 4000000 in
set_option maxRecDepth 100000 in
theorem qX11_isFlight (l : Launch) (D : va_G) (cy : Nat → ClassId)  (u : Int32) (x : Int32) (y : Int32)  : nq_i l D (cT cy) yX11_isFlight wsX11_isFlight 2 0 0 42 [.int (u), .int (x), .int (y)] ([]) (fun r w1 => r = bI (rg 0 99 u ∧ rg 0 3 x ∧ rg 0 3 y) ∧ w1 = []) := by
  refine nq_z_of (cc := cX11_isFlight) (maxL := 3) (by decide) rfl (Nat.le_of_ble_eq_true rfl) ?_
  intro p e s m args below meth c A Q ls hx hb hts hown hml hnm hN hA hP hK hD hS hl hret
  have hown : s.vm.findClass RX11 = some m.cls := hown
  have hl : lv_has ls 3 [(0, .int (u)), (1, .int (x)), (2, .int (y))] := hl
  have hP : va_P D vwCl ([]) s.heap := hP
  refine lv_iload_n hx hb dX11_isFlight_0 rfl (lv_at hl 0 rfl) ?_
  refine lv_iconst (v := (nI (0))) hx hb dX11_isFlight_1 (by decide) ?_
  refine lv_bipush (v := (nI (99))) hx hb dX11_isFlight_2 (by decide) ?_
  refine nq_Si (As := [.int (u), .int (nI (0)), .int (nI (99))]) (rest := []) (w := []) (wr := []) ⟨hx, hb, hml, hown, hts⟩ (qX11_isWithin l D cy  (u) (nI (0)) (nI (99)) ) (cwS 3 hts gX11_isFlight_X11_isWithin rfl rfl rfl (by decide +kernel) ⟨Nat.le_of_ble_eq_true rfl, Nat.le_of_ble_eq_true rfl⟩) hP hK hD hN hS hA rfl hl.1 rfl (Nat.le_of_ble_eq_true rfl) dX11_isFlight_4 ⟨Nat.le_of_ble_eq_true rfl, Nat.le_of_ble_eq_true rfl⟩ (fun r w1 H locs hq hP hD hS => ?_)
  obtain ⟨rfl, rfl⟩ := hq
  have hP : va_P D vwCl ([]) H := hP
  have hD : va_D A ([]) := hD
  refine lb_if_eq (tgt := 28) hx hb dX11_isFlight_7 (by decide) (fun c1 => ?_) (fun c1 => ?_)
  · refine lv_iconst (v := (nI (0))) hx hb dX11_isFlight_28 (by decide) ?_
    exact hret _ _ _ _ _ _ rfl ⟨bI_f' (fun h => c1 h.1), rfl⟩ hP hD hS dX11_isFlight_29
  · refine lv_iload_n hx hb dX11_isFlight_10 rfl (lv_at hl 1 rfl) ?_
    refine nq_Si (As := [.int (x)]) (rest := []) (w := []) (wr := []) ⟨hx, hb, hml, hown, hts⟩ (qX11_isLevel l D cy  (x) ) (cwS 1 hts gX11_isFlight_X11_isLevel rfl rfl rfl (by decide +kernel) ⟨Nat.le_of_ble_eq_true rfl, Nat.le_of_ble_eq_true rfl⟩) hP hK hD hN hS hA rfl hl.1 rfl (Nat.le_of_ble_eq_true rfl) dX11_isFlight_11 ⟨Nat.le_of_ble_eq_true rfl, Nat.le_of_ble_eq_true rfl⟩ (fun r w1 H locs hq hP hD hS => ?_)
    obtain ⟨rfl, rfl⟩ := hq
    have hP : va_P D vwCl ([]) H := hP
    have hD : va_D A ([]) := hD
    refine lb_if_eq (tgt := 28) hx hb dX11_isFlight_14 (by decide) (fun c2 => ?_) (fun c2 => ?_)
    · refine lv_iconst (v := (nI (0))) hx hb dX11_isFlight_28 (by decide) ?_
      exact hret _ _ _ _ _ _ rfl ⟨bI_f' (fun h => c2 h.2.1), rfl⟩ hP hD hS dX11_isFlight_29
    · refine lv_iload_n hx hb dX11_isFlight_17 rfl (lv_at hl 2 rfl) ?_
      refine nq_Si (As := [.int (y)]) (rest := []) (w := []) (wr := []) ⟨hx, hb, hml, hown, hts⟩ (qX11_isLevel l D cy  (y) ) (cwS 1 hts gX11_isFlight_X11_isLevel rfl rfl rfl (by decide +kernel) ⟨Nat.le_of_ble_eq_true rfl, Nat.le_of_ble_eq_true rfl⟩) hP hK hD hN hS hA rfl hl.1 rfl (Nat.le_of_ble_eq_true rfl) dX11_isFlight_18 ⟨Nat.le_of_ble_eq_true rfl, Nat.le_of_ble_eq_true rfl⟩ (fun r w1 H locs hq hP hD hS => ?_)
      obtain ⟨rfl, rfl⟩ := hq
      have hP : va_P D vwCl ([]) H := hP
      have hD : va_D A ([]) := hD
      refine lb_if_eq (tgt := 28) hx hb dX11_isFlight_21 (by decide) (fun c3 => ?_) (fun c3 => ?_)
      · refine lv_iconst (v := (nI (0))) hx hb dX11_isFlight_28 (by decide) ?_
        exact hret _ _ _ _ _ _ rfl ⟨bI_f' (fun h => c3 h.2.2), rfl⟩ hP hD hS dX11_isFlight_29
      · refine lv_iconst (v := (nI (1))) hx hb dX11_isFlight_24 (by decide) ?_
        refine lv_goto (tgt := 29) hx hb dX11_isFlight_25 (by decide) ?_
        exact hret _ _ _ _ _ _ rfl ⟨bI_t' ⟨c1, c2, c3⟩, rfl⟩ hP hD hS dX11_isFlight_29
set_option maxHeartbeats 4000000 in
set_option maxRecDepth 100000 in
theorem qX11_isWidth (l : Launch) (D : va_G) (cy : Nat → ClassId)  (v : Int32)  : nq_i l D (cT cy) yX11_isWidth wsX11_isWidth 0 0 0 0 [.int (v)] ([]) (fun r w1 => r = bI (v = nI 0 ∨ v = nI 8 ∨ v = nI 16 ∨ v = nI 32) ∧ w1 = []) := by
  refine nq_z_of (cc := cX11_isWidth) (maxL := 1) (by decide) rfl (Nat.le_of_ble_eq_true rfl) ?_
  intro p e s m args below meth c A Q ls hx hb hts hown hml hnm hN hA hP hK hD hS hl hret
  have hown : s.vm.findClass RX11 = some m.cls := hown
  have hl : lv_has ls 1 [(0, .int (v))] := hl
  have hP : va_P D vwCl ([]) s.heap := hP
  refine lv_iload_n hx hb dX11_isWidth_0 rfl (lv_at hl 0 rfl) ?_
  refine lv_if_eq (tgt := 22) hx hb dX11_isWidth_1 (by decide) (fun c1 => ?_) (fun c1 => ?_)
  · refine lv_iconst (v := (nI (1))) hx hb dX11_isWidth_22 (by decide) ?_
    refine lv_goto (tgt := 27) hx hb dX11_isWidth_23 (by decide) ?_
    exact hret _ _ _ _ _ _ rfl ⟨bI_t' (Or.inl c1), rfl⟩ hP hD hS dX11_isWidth_27
  · refine lv_iload_n hx hb dX11_isWidth_4 rfl (lv_at hl 0 rfl) ?_
    refine lv_bipush (v := (nI (8))) hx hb dX11_isWidth_5 (by decide) ?_
    refine lv_icmp_eq (tgt := 22) hx hb dX11_isWidth_7 (by decide) (fun c2 => ?_) (fun c2 => ?_)
    · refine lv_iconst (v := (nI (1))) hx hb dX11_isWidth_22 (by decide) ?_
      refine lv_goto (tgt := 27) hx hb dX11_isWidth_23 (by decide) ?_
      exact hret _ _ _ _ _ _ rfl ⟨bI_t' (Or.inr (Or.inl c2)), rfl⟩ hP hD hS dX11_isWidth_27
    · refine lv_iload_n hx hb dX11_isWidth_10 rfl (lv_at hl 0 rfl) ?_
      refine lv_bipush (v := (nI (16))) hx hb dX11_isWidth_11 (by decide) ?_
      refine lv_icmp_eq (tgt := 22) hx hb dX11_isWidth_13 (by decide) (fun c3 => ?_) (fun c3 => ?_)
      · refine lv_iconst (v := (nI (1))) hx hb dX11_isWidth_22 (by decide) ?_
        refine lv_goto (tgt := 27) hx hb dX11_isWidth_23 (by decide) ?_
        exact hret _ _ _ _ _ _ rfl ⟨bI_t' (Or.inr (Or.inr (Or.inl c3))), rfl⟩ hP hD hS dX11_isWidth_27
      · refine lv_iload_n hx hb dX11_isWidth_16 rfl (lv_at hl 0 rfl) ?_
        refine lv_bipush (v := (nI (32))) hx hb dX11_isWidth_17 (by decide) ?_
        refine lv_icmp_ne (tgt := 26) hx hb dX11_isWidth_19 (by decide) (fun c4 => ?_) (fun c4 => ?_)
        · refine lv_iconst (v := (nI (0))) hx hb dX11_isWidth_26 (by decide) ?_
          exact hret _ _ _ _ _ _ rfl ⟨bI_f' (fun h => by rcases h with h | h | h | h; exact c1 h; exact c2 h; exact c3 h; exact c4 h), rfl⟩ hP hD hS dX11_isWidth_27
        · refine lv_iconst (v := (nI (1))) hx hb dX11_isWidth_22 (by decide) ?_
          refine lv_goto (tgt := 27) hx hb dX11_isWidth_23 (by decide) ?_
          exact hret _ _ _ _ _ _ rfl ⟨bI_t' (Or.inr (Or.inr (Or.inr c4))), rfl⟩ hP hD hS dX11_isWidth_27
/-- Euclid's way from (u, v) ends within i steps -/
def eu : Nat → Nat → Nat → Prop
  | 0, _, v => v = 0
  | i + 1, u, v => v = 0 ∨ eu i v (u % v)
theorem eu_0 {u : Nat} : ∀ i, eu i u 0
  | 0 => rfl
  | _ + 1 => Or.inl rfl
theorem eu_2 : ∀ (j u v : Nat), v < 2 ^ j → eu (2 * j) u v
  | 0, u, v, h => by
    have : v = 0 := by have h2 : v < 1 := h; omega
    exact this
  | j + 1, u, v, h => by
    show eu (2 * j + 1 + 1) u v
    rcases Nat.eq_zero_or_pos v with q | q
    · exact Or.inl q
    · refine Or.inr ?_
      have h1 : u % v < v := Nat.mod_lt u q
      rcases Nat.eq_zero_or_pos (u % v) with q2 | q2
      · exact Or.inl q2
      · refine Or.inr (eu_2 j _ _ ?_)
        have h3 := Nat.mod_lt v q2
        have h4 := Nat.div_add_mod v (u % v)
        have h5 : 1 ≤ v / (u % v) := (Nat.le_div_iff_mul_le q2).mpr (by omega)
        have h6 : (u % v) * 1 ≤ (u % v) * (v / (u % v)) := Nat.mul_le_mul_left _ h5
        rw [Nat.pow_succ] at h
        omega
set_option maxHeartbeats 4000000 in
set_option maxRecDepth 100000 in
theorem qX11_commonDivisor (l : Launch) (D : va_G) (cy : Nat → ClassId)  (x : Nat) (y : Nat) (hx2 : x < 2 ^ 62) (hy2 : y < 2 ^ 50) : nq_l l D (cT cy) yX11_commonDivisor wsX11_commonDivisor 0 0 0 0 [.long (lN x), .long (lN y)] ([]) (fun r w1 => r = lN (Nat.gcd x y) ∧ w1 = []) := by
  refine nq_l_of (cc := cX11_commonDivisor) (maxL := 11) (by decide) rfl (Nat.le_of_ble_eq_true rfl) ?_
  intro p e s m args below meth c A Q ls hx hb hts hown hml hnm hN hA hP hK hD hS hl hret
  have hown : s.vm.findClass RX11 = some m.cls := hown
  have hl : lv_has ls 11 [(0, .long (lN x)), (2, .long (lN y))] := hl
  have hP : va_P D vwCl ([]) s.heap := hP
  refine lv_lload_n hx hb dX11_commonDivisor_0 rfl (lv_at hl 0 rfl) ?_
  refine lv_lstore (lv' := [(4, .long (lN x)), (0, .long (lN x)), (2, .long (lN y))]) hx hb dX11_commonDivisor_1 hl (by decide) rfl (fun ls hl => ?_)
  refine lv_lload_n hx hb dX11_commonDivisor_3 rfl (lv_at hl 2 rfl) ?_
  refine lv_lstore (lv' := [(6, .long (lN y)), (4, .long (lN x)), (0, .long (lN x)), (2, .long (lN y))]) hx hb dX11_commonDivisor_4 hl (by decide) rfl (fun ls hl => ?_)
  refine lv_iconst (v := (nI (0))) hx hb dX11_commonDivisor_6 (by decide) ?_
  refine lv_istore (lv' := [(8, .int (nI (0))), (6, .long (lN y)), (4, .long (lN x)), (0, .long (lN x)), (2, .long (lN y))]) hx hb dX11_commonDivisor_7 hl (by decide) rfl (fun ls hl => ?_)
  have lp : ∀ (i : Nat) (k : Nat) (u : Nat) (v : Nat), (k + i = 100) → (u < 2 ^ 62) → (v < 2 ^ 62) → (Nat.gcd u v = Nat.gcd x y) → (eu i u v) → ∀ (H : Heap) (locs : List Loc) (ls : Array Slot), va_P D vwCl ([]) H → va_D A ([]) → va_S A s.heap H locs → lv_has ls 11 [(8, .int (nI (k))), (6, .long (lN v)), (4, .long (lN u))] → W p l e (mq_R 0 0 0 0) s m args below meth c H locs 0 0 Q (F0 m 9 ls []) := by
    intro i
    induction i with
    | zero =>
      intro k u v hk hu2 hv2 hg heu H locs ls hP hD hS hl
      refine lv_iload hx hb dX11_commonDivisor_9 (lv_at hl 0 rfl) ?_
      refine lv_bipush (v := (nI (100))) hx hb dX11_commonDivisor_11 (by decide) ?_
      refine ln_icmp_ge (tgt := 44) hx hb dX11_commonDivisor_13 (by decide) (by omega) (by omega) (fun c1 => ?_) (fun c1 => ?_)
      · refine lv_lload hx hb dX11_commonDivisor_44 (lv_at hl 2 rfl) ?_
        exact hret _ _ _ _ _ _ ⟨by rw [← hg, show v = 0 from heu, Nat.gcd_zero_right], rfl⟩ hP hD hS dX11_commonDivisor_46
      · exact absurd hk (by omega)
    | succ i ih =>
      intro k u v hk hu2 hv2 hg heu H locs ls hP hD hS hl
      refine lv_iload hx hb dX11_commonDivisor_9 (lv_at hl 0 rfl) ?_
      refine lv_bipush (v := (nI (100))) hx hb dX11_commonDivisor_11 (by decide) ?_
      refine ln_icmp_ge (tgt := 44) hx hb dX11_commonDivisor_13 (by decide) (by omega) (by omega) (fun c1 => ?_) (fun c1 => ?_)
      · exact absurd hk (by omega)
      · refine lv_lload hx hb dX11_commonDivisor_16 (lv_at hl 1 rfl) ?_
        refine lv_lconst (v := 0) hx hb dX11_commonDivisor_18 (by decide) ?_
        refine W.lcmp hx hb dX11_commonDivisor_19 ?_
        refine lv_if_eq (tgt := 44) hx hb dX11_commonDivisor_20 (by decide) (fun c2 => ?_) (fun c2 => ?_)
        · have hv0 := (lN0 (by omega)).mp ((lg_cmp_eq _ _).mp c2)
          refine lv_lload hx hb dX11_commonDivisor_44 (lv_at hl 2 rfl) ?_
          exact hret _ _ _ _ _ _ ⟨by rw [← hg, hv0, Nat.gcd_zero_right], rfl⟩ hP hD hS dX11_commonDivisor_46
        · have hv0 : ¬ lN v = 0 := fun q => c2 ((lg_cmp_eq _ _).mpr q)
          have hv1 : 0 < v := Nat.pos_of_ne_zero (fun q => hv0 ((lN0 (by omega)).mpr q))
          have hm : u % v < v := Nat.mod_lt u hv1
          refine lv_lload hx hb dX11_commonDivisor_23 (lv_at hl 2 rfl) ?_
          refine lv_lload hx hb dX11_commonDivisor_25 (lv_at hl 1 rfl) ?_
          refine lv_lrem hx hb dX11_commonDivisor_27 hv0 ?_
          refine ln_eql (y := (lN (u % v))) (pk_lRem (by omega) hv1 (by omega)) ?_
          refine lv_lstore (lv' := [(9, .long (lN (u % v))), (8, .int (nI (k))), (6, .long (lN v)), (4, .long (lN u))]) hx hb dX11_commonDivisor_28 hl (by decide) rfl (fun ls hl => ?_)
          refine lv_lload hx hb dX11_commonDivisor_30 (lv_at hl 2 rfl) ?_
          refine lv_lstore (lv' := [(4, .long (lN v)), (9, .long (lN (u % v))), (8, .int (nI (k))), (6, .long (lN v))]) hx hb dX11_commonDivisor_32 hl (by decide) rfl (fun ls hl => ?_)
          refine lv_lload hx hb dX11_commonDivisor_34 (lv_at hl 1 rfl) ?_
          refine lv_lstore (lv' := [(6, .long (lN (u % v))), (4, .long (lN v)), (9, .long (lN (u % v))), (8, .int (nI (k)))]) hx hb dX11_commonDivisor_36 hl (by decide) rfl (fun ls hl => ?_)
          refine lv_iinc (v := (nI (k + 1))) (lv' := [(8, .int (nI (k + 1))), (6, .long (lN (u % v))), (4, .long (lN v)), (9, .long (lN (u % v)))]) hx hb dX11_commonDivisor_38 hl (k := 3) rfl (by rw [show (Int32.ofInt 1) = nI 1 from rfl, nI_add]) (by decide) rfl (fun ls hl => ?_)
          refine lv_goto (tgt := 9) hx hb dX11_commonDivisor_41 (by decide) ?_
          exact ih (k + 1) (v) (u % v) (by omega) (by omega) (by omega) (by rw [← hg, Nat.gcd_comm v, ← Nat.gcd_rec, Nat.gcd_comm]) (heu.resolve_left (by omega)) _ _ _ hP hD hS (lv_sub hl [0, 1, 2] rfl)
  exact lp (100) (0) (x) (y) (by omega) (by omega) (by omega) (rfl) (eu_2 50 x y (by omega)) _ _ _ hP hD hS (lv_sub hl [0, 1, 2] rfl)
set_option maxHeartbeats 4000000 in
set_option maxRecDepth 100000 in
theorem qX11_part (l : Launch) (D : va_G) (cy : Nat → ClassId)  (z : Int) (b : Nat) (zf : Int32) (hz : z.natAbs < 2 ^ 61) (hb2 : b < 2 ^ 50) (hb0 : 0 < b) : nq_l l D (cT cy) yX11_part wsX11_part 1 0 0 30 [.long (lZ z), .long (lN b), .int (zf)] ([]) (fun r w1 => r = pcI z b zf ∧ w1 = []) := by
  refine nq_l_of (cc := cX11_part) (maxL := 7) (by decide) rfl (Nat.le_of_ble_eq_true rfl) ?_
  intro p e s m args below meth c A Q ls hx hb hts hown hml hnm hN hA hP hK hD hS hl hret
  have hown : s.vm.findClass RX11 = some m.cls := hown
  have hl : lv_has ls 7 [(0, .long (lZ z)), (2, .long (lN b)), (4, .int (zf))] := hl
  have hP : va_P D vwCl ([]) s.heap := hP
  refine lv_lload_n hx hb dX11_part_0 rfl (lv_at hl 0 rfl) ?_
  refine va_mabs_long hx hb (hml.trans hl.1.symm) hown (hts (.methodLink RX11 375 Lib.MathLoose.abs_long.x) (by decide +kernel)) (hts (.static Lib.MathLoose.abs_long.x) (by decide +kernel)) (hts (.initialized "java/lang/Math") (by decide +kernel)) (hts (.code Lib.MathLoose.abs_long.x Lib.MathLoose.abs_long.code 2 (some .long)) (by decide +kernel)) (Nat.le_of_ble_eq_true rfl) (Nat.le_of_ble_eq_true rfl) (Nat.le_of_ble_eq_true rfl) (Nat.le_of_ble_eq_true rfl) dX11_part_1 ?_
  refine ln_eql (y := (lN z.natAbs)) (abs_L (by omega)) ?_
  refine lv_lload_n hx hb dX11_part_4 rfl (lv_at hl 1 rfl) ?_
  refine nq_Sl (As := [.long (lN z.natAbs), .long (lN b)]) (rest := []) (w := []) (wr := []) ⟨hx, hb, hml, hown, hts⟩ (qX11_commonDivisor l D cy  (z.natAbs) b (by omega) (by omega)) (cwS 2 hts gX11_part_X11_commonDivisor rfl rfl rfl (by decide +kernel) ⟨Nat.le_of_ble_eq_true rfl, Nat.le_of_ble_eq_true rfl⟩) hP hK hD hN hS hA rfl hl.1 rfl (Nat.le_of_ble_eq_true rfl) dX11_part_5 ⟨Nat.le_of_ble_eq_true rfl, Nat.le_of_ble_eq_true rfl⟩ (fun r w1 H locs hq hP hD hS => ?_)
  obtain ⟨rfl, rfl⟩ := hq
  have hP : va_P D vwCl ([]) H := hP
  have hD : va_D A ([]) := hD
  have hg0 : 0 < Nat.gcd z.natAbs b := Nat.gcd_pos_of_pos_right _ hb0
  have hg1 : Nat.gcd z.natAbs b ≤ b := Nat.gcd_le_right _ hb0
  have hne : ¬ lN (Nat.gcd z.natAbs b) = 0 := fun q => by have := (lN0 (by omega)).mp q; omega
  refine lv_lstore (lv' := [(5, .long (lN (Nat.gcd (z.natAbs) b))), (0, .long (lZ z)), (2, .long (lN b)), (4, .int (zf))]) hx hb dX11_part_8 hl (by decide) rfl (fun ls hl => ?_)
  refine lv_lload hx hb dX11_part_10 (lv_at hl 0 rfl) ?_
  refine lv_lconst (v := 0) hx hb dX11_part_12 (by decide) ?_
  refine W.lcmp hx hb dX11_part_13 ?_
  refine lv_if_gt (tgt := 28) hx hb dX11_part_14 (by decide) (fun c9 => ?_) (fun c9 => ?_)
  · refine lv_iload hx hb dX11_part_28 (lv_at hl 3 rfl) ?_
    refine lv_if_eq (tgt := 37) hx hb dX11_part_30 (by decide) (fun c1 => ?_) (fun c1 => ?_)
    · refine lv_lload_n hx hb dX11_part_37 rfl (lv_at hl 1 rfl) ?_
      refine lv_lload hx hb dX11_part_38 (lv_at hl 0 rfl) ?_
      refine lv_ldiv hx hb dX11_part_40 hne ?_
      exact hret _ _ _ _ _ _ ⟨by rw [pcI_0 c1, lZ_N]; exact lZ_div (by omega) (by omega), rfl⟩ hP hD hS dX11_part_41
    · refine lv_lload_n hx hb dX11_part_33 rfl (lv_at hl 2 rfl) ?_
      refine lv_goto (tgt := 38) hx hb dX11_part_34 (by decide) ?_
      refine lv_lload hx hb dX11_part_38 (lv_at hl 0 rfl) ?_
      refine lv_ldiv hx hb dX11_part_40 hne ?_
      exact hret _ _ _ _ _ _ ⟨by rw [pcI_1 c1, pk_lDiv (by omega) hg0 (by omega)]; exact lZ_N _, rfl⟩ hP hD hS dX11_part_41
  · exact absurd ((lg_cmp_gt _ _).mpr ((pk_lLT (a := 0) (by decide) (by omega)).mpr hg0)) c9
set_option maxHeartbeats 4000000 in
set_option maxRecDepth 100000 in
theorem qJ7_fill_53178 (l : Launch) (D : va_G) (cy : Nat → ClassId) (q0 : Nat) (n : Nat) (F : Nat → Int32) (x : Int32) (hn : n < 2 ^ 31) : nq_v l D (cT cy) yJ7_fill_53178 wsJ7_fill_53178 0 0 0 0 [.ref (q0), .int (x)] ([(q0, .inl (cy 0, n, .inl F))]) (fun w1 => w1 = [(q0, .inl (cy 0, n, .inl (cpI F (fun _ => x) 0 n)))]) := by
  refine nq_v_of (cc := cJ7_fill_53178) (maxL := 4) (by decide) rfl (Nat.le_of_ble_eq_true rfl) ?_
  intro p e s m args below meth c A Q ls hx hb hts hown hml hnm hN hA hP hK hD hS hl hret
  have hown : s.vm.findClass RJ7 = some m.cls := hown
  have hl : lv_has ls 4 [(0, .ref (q0)), (1, .int (x))] := hl
  have hP : va_P D vwCl ([(q0, .inl (cy 0, n, .inl F))]) s.heap := hP
  refine lv_iconst (v := (nI (0))) hx hb dJ7_fill_53178_0 (by decide) ?_
  refine lv_istore_n (lv' := [(2, .int (nI (0))), (0, .ref (q0)), (1, .int (x))]) hx hb dJ7_fill_53178_1 rfl hl (by decide) rfl (fun ls hl => ?_)
  refine lv_aload_n hx hb dJ7_fill_53178_2 rfl (lv_at hl 1 rfl) ?_
  refine va_alen hx hb hK hP 0 0 rfl rfl (v := nI n) rfl dJ7_fill_53178_3 ?_
  refine lv_istore_n (lv' := [(3, .int (nI (n))), (2, .int (nI (0))), (0, .ref (q0)), (1, .int (x))]) hx hb dJ7_fill_53178_4 rfl hl (by decide) rfl (fun ls hl => ?_)
  have lp : ∀ (i : Nat) (k : Nat), (k + i = n) → ∀ (H : Heap) (locs : List Loc) (ls : Array Slot), va_P D vwCl ([(q0, .inl (cy 0, n, .inl (cpI F (fun _ => x) 0 k)))]) H → va_D A ([(q0, .inl (cy 0, n, .inl (cpI F (fun _ => x) 0 k)))]) → va_S A s.heap H locs → lv_has ls 4 [(2, .int (nI (k))), (3, .int (nI (n))), (0, .ref (q0)), (1, .int (x))] → W p l e (mq_R 0 0 0 0) s m args below meth c H locs 0 0 Q (F0 m 5 ls []) := by
    intro i
    induction i with
    | zero =>
      intro k hk H locs ls hP hD hS hl
      refine lv_iload_n hx hb dJ7_fill_53178_5 rfl (lv_at hl 0 rfl) ?_
      refine lv_iload_n hx hb dJ7_fill_53178_6 rfl (lv_at hl 1 rfl) ?_
      refine ln_icmp_ge (tgt := 20) hx hb dJ7_fill_53178_7 (by decide) (by omega) (by omega) (fun c1 => ?_) (fun c1 => ?_)
      · have hk0 : k = n := by omega
        subst hk0
        exact hret _ _ _ _ _ rfl hP hD hS dJ7_fill_53178_20
      · exact absurd hk (by omega)
    | succ i ih =>
      intro k hk H locs ls hP hD hS hl
      refine lv_iload_n hx hb dJ7_fill_53178_5 rfl (lv_at hl 0 rfl) ?_
      refine lv_iload_n hx hb dJ7_fill_53178_6 rfl (lv_at hl 1 rfl) ?_
      refine ln_icmp_ge (tgt := 20) hx hb dJ7_fill_53178_7 (by decide) (by omega) (by omega) (fun c1 => ?_) (fun c1 => ?_)
      · exact absurd hk (by omega)
      · refine lv_aload_n hx hb dJ7_fill_53178_10 rfl (lv_at hl 2 rfl) ?_
        refine lv_iload_n hx hb dJ7_fill_53178_11 rfl (lv_at hl 0 rfl) ?_
        refine lv_iload_n hx hb dJ7_fill_53178_12 rfl (lv_at hl 3 rfl) ?_
        refine ln_iast hx hb hK hP hD hS 0 0 rfl rfl (by omega) (by omega) dJ7_fill_53178_13 (fun H locs hP hD hS => ?_)
        have hP : va_P D vwCl ([(q0, .inl (cy 0, n, .inl (upd (cpI F (fun _ => x) 0 k) (k) (x))))]) H := hP
        have hD : va_D A ([(q0, .inl (cy 0, n, .inl (upd (cpI F (fun _ => x) 0 k) (k) (x))))]) := hD
        refine lv_iinc (v := (nI (k + 1))) (lv' := [(2, .int (nI (k + 1))), (3, .int (nI (n))), (0, .ref (q0)), (1, .int (x))]) hx hb dJ7_fill_53178_14 hl (k := 0) rfl (by rw [show (Int32.ofInt 1) = nI 1 from rfl, nI_add]) (by decide) rfl (fun ls hl => ?_)
        refine lv_goto (tgt := 5) hx hb dJ7_fill_53178_17 (by decide) ?_
        exact ih (k + 1) (by omega) _ _ _ (by rw [← cpI_s0]; exact hP) (by rw [← cpI_s0]; exact hD) hS hl
  exact lp (n) (0) (by omega) _ _ _ (by rw [cpI_0]; exact hP) (by rw [cpI_0]; exact hD) hS (lv_sub hl [1, 0, 2, 3] rfl)
set_option maxHeartbeats 4000000 in
set_option maxRecDepth 100000 in
theorem qX9_init (l : Launch) (D : va_G) (cy : Nat → ClassId) (s0 : Nat)   : nq_v l D (cT cy) yX9_init wsX9_init 1 1 12 14 [.ref (s0)] ([(s0, .inr (9, [.int (nI (0)), .int (nI (0)), .null]))]) (fun w1 => ∃ q : Nat, w1 = [(s0, .inr (9, [.int (nI (0)), .int (nI (0)), .ref (q)])), (q, .inl (cy 0, 12, .inl (nA (fun _ => 0))))]) := by
  refine nq_v_of (cc := cX9_init) (maxL := 1) (by decide) rfl (Nat.le_of_ble_eq_true rfl) ?_
  intro p e s m args below meth c A Q ls hx hb hts hown hml hnm hN hA hP hK hD hS hl hret
  have hown : s.vm.findClass RX9 = some m.cls := hown
  have hnm : meth.name = "<init>" := hnm
  have hinX9 : ∀ w ∈ u_ws RX9 TX9 3, w ∈ wsX9_init := by decide +kernel
  have hl : lv_has ls 1 [(0, .ref (s0))] := hl
  have hP : va_P D vwCl ([(s0, .inr (9, [.int (nI (0)), .int (nI (0)), .null]))]) s.heap := hP
  refine lv_aload_n hx hb dX9_init_0 rfl (lv_at hl 0 rfl) ?_
  refine W.objInit hx hb hown (hts (.methodLink RX9 3 objectInit) (by decide +kernel)) (hts (.instanceMethod objectInit) (by decide +kernel)) (hts (.code objectInit ⟨#[0xb1]⟩ 1 none) (List.mem_cons_of_mem _ (by first | exact List.mem_append_left _ (List.mem_of_getElem? (i := 2) rfl) | exact List.mem_of_getElem? (i := 2) rfl))) rfl (by rw [hml]; exact hl.1) rfl dX9_init_1 (Nat.le_of_ble_eq_true rfl) (Nat.le_of_ble_eq_true rfl) ?_
  refine W.eq (g2 := F0 m 4 ls []) rfl ?_
  refine lv_aload_n hx hb dX9_init_4 rfl (lv_at hl 0 rfl) ?_
  refine lv_bipush (v := (nI (12))) hx hb dX9_init_5 (by decide) ?_
  refine mk_i hx hb (hts (.arrayClass .int) (by decide +kernel)) hK hP hD hS hA 0 rfl (by decide) (Nat.le_of_ble_eq_true rfl) (Nat.le_of_ble_eq_true rfl) dX9_init_7 (fun q_1 H hP hD hS => ?_)
  have hP : va_P D vwCl ([(s0, .inr (9, [.int (nI (0)), .int (nI (0)), .null])), (q_1, .inl (cy 0, 12, .inl (nA (fun _ => 0))))]) H := hP
  have hD : va_D A ([(s0, .inr (9, [.int (nI (0)), .int (nI (0)), .null])), (q_1, .inl (cy 0, 12, .inl (nA (fun _ => 0))))]) := hD
  refine va_putF (D := D) (ci := 9) (v := .ref (q_1)) (ty := .array .int) (C := RX9) (T := TX9) (N := 3) hx hb hts hinX9 tyX9 tyX9_ok nmX9 hown hK hP hD hS 0 rfl rfl 2 (by decide) (hts (.fieldLink RX9 9 "CornDesk$Step" "row" "[I") (by decide +kernel)) (fun _ h9 => h9) rfl hnm rfl (by decide +kernel) rfl rfl (Nat.le_of_ble_eq_true rfl) dX9_init_9 (fun H locs hP hD hS => ?_)
  have hP : va_P D vwCl ([(s0, .inr (9, [.int (nI (0)), .int (nI (0)), .ref (q_1)])), (q_1, .inl (cy 0, 12, .inl (nA (fun _ => 0))))]) H := hP
  have hD : va_D A ([(s0, .inr (9, [.int (nI (0)), .int (nI (0)), .ref (q_1)])), (q_1, .inl (cy 0, 12, .inl (nA (fun _ => 0))))]) := hD
  exact hret _ _ _ _ _ ⟨q_1, rfl⟩ hP hD hS dX9_init_12
set_option maxHeartbeats 4000000 in
set_option maxRecDepth 100000 in
theorem qX8_init (l : Launch) (D : va_G) (cy : Nat → ClassId) (h0 : Nat)   : nq_v l D (cT cy) yX8_init wsX8_init 1 1 16 14 [.ref (h0)] ([(h0, .inr (8, [.null, .int (nI (0)), .int (nI (0))]))]) (fun w1 => ∃ q : Nat, w1 = [(h0, .inr (8, [.ref (q), .int (nI (0)), .int (nI (0))])), (q, .inl (cy 0, 16, .inl (fun _ => 0)))]) := by
  refine nq_v_of (cc := cX8_init) (maxL := 1) (by decide) rfl (Nat.le_of_ble_eq_true rfl) ?_
  intro p e s m args below meth c A Q ls hx hb hts hown hml hnm hN hA hP hK hD hS hl hret
  have hown : s.vm.findClass RX8 = some m.cls := hown
  have hnm : meth.name = "<init>" := hnm
  have hinX8 : ∀ w ∈ u_ws RX8 TX8 3, w ∈ wsX8_init := by decide +kernel
  have hl : lv_has ls 1 [(0, .ref (h0))] := hl
  have hP : va_P D vwCl ([(h0, .inr (8, [.null, .int (nI (0)), .int (nI (0))]))]) s.heap := hP
  refine lv_aload_n hx hb dX8_init_0 rfl (lv_at hl 0 rfl) ?_
  refine W.objInit hx hb hown (hts (.methodLink RX8 3 objectInit) (by decide +kernel)) (hts (.instanceMethod objectInit) (by decide +kernel)) (hts (.code objectInit ⟨#[0xb1]⟩ 1 none) (List.mem_cons_of_mem _ (by first | exact List.mem_append_left _ (List.mem_of_getElem? (i := 2) rfl) | exact List.mem_of_getElem? (i := 2) rfl))) rfl (by rw [hml]; exact hl.1) rfl dX8_init_1 (Nat.le_of_ble_eq_true rfl) (Nat.le_of_ble_eq_true rfl) ?_
  refine W.eq (g2 := F0 m 4 ls []) rfl ?_
  refine lv_aload_n hx hb dX8_init_4 rfl (lv_at hl 0 rfl) ?_
  refine lv_bipush (v := (nI (16))) hx hb dX8_init_5 (by decide) ?_
  refine mk_i hx hb (hts (.arrayClass .int) (by decide +kernel)) hK hP hD hS hA 0 rfl (by decide) (Nat.le_of_ble_eq_true rfl) (Nat.le_of_ble_eq_true rfl) dX8_init_7 (fun q_1 H hP hD hS => ?_)
  have hP : va_P D vwCl ([(h0, .inr (8, [.null, .int (nI (0)), .int (nI (0))])), (q_1, .inl (cy 0, 16, .inl (fun _ => 0)))]) H := hP
  have hD : va_D A ([(h0, .inr (8, [.null, .int (nI (0)), .int (nI (0))])), (q_1, .inl (cy 0, 16, .inl (fun _ => 0)))]) := hD
  refine va_putF (D := D) (ci := 8) (v := .ref (q_1)) (ty := .array .int) (C := RX8) (T := TX8) (N := 3) hx hb hts hinX8 tyX8 tyX8_ok nmX8 hown hK hP hD hS 0 rfl rfl 0 (by decide) (hts (.fieldLink RX8 9 "CornDesk$Sheet" "numbers" "[I") (by decide +kernel)) (fun _ h9 => h9) rfl hnm rfl (by decide +kernel) rfl rfl (Nat.le_of_ble_eq_true rfl) dX8_init_9 (fun H locs hP hD hS => ?_)
  have hP : va_P D vwCl ([(h0, .inr (8, [.ref (q_1), .int (nI (0)), .int (nI (0))])), (q_1, .inl (cy 0, 16, .inl (fun _ => 0)))]) H := hP
  have hD : va_D A ([(h0, .inr (8, [.ref (q_1), .int (nI (0)), .int (nI (0))])), (q_1, .inl (cy 0, 16, .inl (fun _ => 0)))]) := hD
  exact hret _ _ _ _ _ ⟨q_1, rfl⟩ hP hD hS dX8_init_12
set_option maxHeartbeats 4000000 in
set_option maxRecDepth 100000 in
theorem qX8_isMissing (l : Launch) (D : va_G) (cy : Nat → ClassId) (h0 : Nat) (nb : Nat) (bt : Nat) (ct : Nat) (NU : Nat → Int32)  (hb9 : bt ≤ 32) : nq_i l D (cT cy) yX8_isMissing wsX8_isMissing 0 0 0 0 [.ref (h0)] ([(h0, .inr (8, [.ref (nb), .int (nI (bt)), .int (nI (ct))])), (nb, .inl (cy 0, 16, .inl NU))]) (fun r w1 => r = bI (bt = 0) ∧ w1 = [(h0, .inr (8, [.ref (nb), .int (nI (bt)), .int (nI (ct))])), (nb, .inl (cy 0, 16, .inl NU))]) := by
  refine nq_z_of (cc := cX8_isMissing) (maxL := 1) (by decide) rfl (Nat.le_of_ble_eq_true rfl) ?_
  intro p e s m args below meth c A Q ls hx hb hts hown hml hnm hN hA hP hK hD hS hl hret
  have hown : s.vm.findClass RX8 = some m.cls := hown
  have hinX8 : ∀ w ∈ u_ws RX8 TX8 3, w ∈ wsX8_isMissing := by decide +kernel
  have hl : lv_has ls 1 [(0, .ref (h0))] := hl
  have hP : va_P D vwCl ([(h0, .inr (8, [.ref (nb), .int (nI (bt)), .int (nI (ct))])), (nb, .inl (cy 0, 16, .inl NU))]) s.heap := hP
  refine lv_aload_n hx hb dX8_isMissing_0 rfl (lv_at hl 0 rfl) ?_
  refine va_get (D := D) (ci := 8) (v := .int (nI (bt))) (C := RX8) (T := TX8) (N := 3) hx hb hts hinX8 hown hK hP 0 rfl rfl 1 (by decide) (hts (.fieldLink RX8 15 "CornDesk$Sheet" "bits" "I") (by decide +kernel)) (fun _ h9 => h9) rfl dX8_isMissing_1 ?_
  refine ln_if_ne (tgt := 11) hx hb dX8_isMissing_4 (by decide) (by omega) (fun c1 => ?_) (fun c1 => ?_)
  · refine lv_iconst (v := (nI (0))) hx hb dX8_isMissing_11 (by decide) ?_
    exact hret _ _ _ _ _ _ rfl ⟨bI_f' (by omega), rfl⟩ hP hD hS dX8_isMissing_12
  · refine lv_iconst (v := (nI (1))) hx hb dX8_isMissing_7 (by decide) ?_
    refine lv_goto (tgt := 12) hx hb dX8_isMissing_8 (by decide) ?_
    exact hret _ _ _ _ _ _ rfl ⟨bI_t' (by omega), rfl⟩ hP hD hS dX8_isMissing_12
set_option maxHeartbeats 4000000 in
set_option maxRecDepth 100000 in
theorem qX8_bits (l : Launch) (D : va_G) (cy : Nat → ClassId) (h0 : Nat) (nb : Nat) (bt : Nat) (ct : Nat) (NU : Nat → Int32)   : nq_i l D (cT cy) yX8_bits wsX8_bits 0 0 0 0 [.ref (h0)] ([(h0, .inr (8, [.ref (nb), .int (nI (bt)), .int (nI (ct))])), (nb, .inl (cy 0, 16, .inl NU))]) (fun r w1 => r = nI bt ∧ w1 = [(h0, .inr (8, [.ref (nb), .int (nI (bt)), .int (nI (ct))])), (nb, .inl (cy 0, 16, .inl NU))]) := by
  refine nq_i_of (cc := cX8_bits) (maxL := 1) (by decide) rfl (Nat.le_of_ble_eq_true rfl) ?_
  intro p e s m args below meth c A Q ls hx hb hts hown hml hnm hN hA hP hK hD hS hl hret
  have hown : s.vm.findClass RX8 = some m.cls := hown
  have hinX8 : ∀ w ∈ u_ws RX8 TX8 3, w ∈ wsX8_bits := by decide +kernel
  have hl : lv_has ls 1 [(0, .ref (h0))] := hl
  have hP : va_P D vwCl ([(h0, .inr (8, [.ref (nb), .int (nI (bt)), .int (nI (ct))])), (nb, .inl (cy 0, 16, .inl NU))]) s.heap := hP
  refine lv_aload_n hx hb dX8_bits_0 rfl (lv_at hl 0 rfl) ?_
  refine va_get (D := D) (ci := 8) (v := .int (nI (bt))) (C := RX8) (T := TX8) (N := 3) hx hb hts hinX8 hown hK hP 0 rfl rfl 1 (by decide) (hts (.fieldLink RX8 15 "CornDesk$Sheet" "bits" "I") (by decide +kernel)) (fun _ h9 => h9) rfl dX8_bits_1 ?_
  exact hret _ _ _ _ _ _ ⟨rfl, rfl⟩ hP hD hS dX8_bits_4
set_option maxHeartbeats 4000000 in
set_option maxRecDepth 100000 in
theorem qX8_size (l : Launch) (D : va_G) (cy : Nat → ClassId) (h0 : Nat) (nb : Nat) (bt : Nat) (ct : Nat) (NU : Nat → Int32)   : nq_i l D (cT cy) yX8_size wsX8_size 0 0 0 0 [.ref (h0)] ([(h0, .inr (8, [.ref (nb), .int (nI (bt)), .int (nI (ct))])), (nb, .inl (cy 0, 16, .inl NU))]) (fun r w1 => r = nI ct ∧ w1 = [(h0, .inr (8, [.ref (nb), .int (nI (bt)), .int (nI (ct))])), (nb, .inl (cy 0, 16, .inl NU))]) := by
  refine nq_i_of (cc := cX8_size) (maxL := 1) (by decide) rfl (Nat.le_of_ble_eq_true rfl) ?_
  intro p e s m args below meth c A Q ls hx hb hts hown hml hnm hN hA hP hK hD hS hl hret
  have hown : s.vm.findClass RX8 = some m.cls := hown
  have hinX8 : ∀ w ∈ u_ws RX8 TX8 3, w ∈ wsX8_size := by decide +kernel
  have hl : lv_has ls 1 [(0, .ref (h0))] := hl
  have hP : va_P D vwCl ([(h0, .inr (8, [.ref (nb), .int (nI (bt)), .int (nI (ct))])), (nb, .inl (cy 0, 16, .inl NU))]) s.heap := hP
  refine lv_aload_n hx hb dX8_size_0 rfl (lv_at hl 0 rfl) ?_
  refine va_get (D := D) (ci := 8) (v := .int (nI (ct))) (C := RX8) (T := TX8) (N := 3) hx hb hts hinX8 hown hK hP 0 rfl rfl 2 (by decide) (hts (.fieldLink RX8 19 "CornDesk$Sheet" "count" "I") (by decide +kernel)) (fun _ h9 => h9) rfl dX8_size_1 ?_
  exact hret _ _ _ _ _ _ ⟨rfl, rfl⟩ hP hD hS dX8_size_4
set_option maxHeartbeats 4000000 in
set_option maxRecDepth 100000 in
theorem qX8_become (l : Launch) (D : va_G) (cy : Nat → ClassId) (h0 : Nat) (nb : Nat) (bt : Nat) (ct : Nat) (NU : Nat → Int32) (x : Nat) (y : Nat) (hx9 : x ≤ 32) : nq_v l D (cT cy) yX8_become wsX8_become 1 0 0 23 [.ref (h0), .int (nI (x)), .int (nI (y))] ([(h0, .inr (8, [.ref (nb), .int (nI (bt)), .int (nI (ct))])), (nb, .inl (cy 0, 16, .inl NU))]) (fun w1 => w1 = [(h0, .inr (8, [.ref (nb), .int (nI (x)), .int (nI (if x = 0 then 0 else y))])), (nb, .inl (cy 0, 16, .inl (cpI NU (fun _ => nI 0) 0 16)))]) := by
  refine nq_v_of (cc := cX8_become) (maxL := 3) (by decide) rfl (Nat.le_of_ble_eq_true rfl) ?_
  intro p e s m args below meth c A Q ls hx hb hts hown hml hnm hN hA hP hK hD hS hl hret
  have hown : s.vm.findClass RX8 = some m.cls := hown
  have hinX8 : ∀ w ∈ u_ws RX8 TX8 3, w ∈ wsX8_become := by decide +kernel
  have hl : lv_has ls 3 [(0, .ref (h0)), (1, .int (nI (x))), (2, .int (nI (y)))] := hl
  have hP : va_P D vwCl ([(h0, .inr (8, [.ref (nb), .int (nI (bt)), .int (nI (ct))])), (nb, .inl (cy 0, 16, .inl NU))]) s.heap := hP
  refine lv_aload_n hx hb dX8_become_0 rfl (lv_at hl 0 rfl) ?_
  refine lv_iload_n hx hb dX8_become_1 rfl (lv_at hl 1 rfl) ?_
  refine va_put (D := D) (ci := 8) (v := .int (nI (x))) (ty := .int) (C := RX8) (T := TX8) (N := 3) hx hb hts hinX8 tyX8 tyX8_ok nmX8 hown hK hP hD hS 0 rfl rfl 1 (by decide) (hts (.fieldLink RX8 15 "CornDesk$Sheet" "bits" "I") (by decide +kernel)) (fun _ h9 => h9) rfl (by decide +kernel) rfl rfl (Nat.le_of_ble_eq_true rfl) dX8_become_2 (fun H locs hP hD hS => ?_)
  have hP : va_P D vwCl ([(h0, .inr (8, [.ref (nb), .int (nI (x)), .int (nI (ct))])), (nb, .inl (cy 0, 16, .inl NU))]) H := hP
  have hD : va_D A ([(h0, .inr (8, [.ref (nb), .int (nI (x)), .int (nI (ct))])), (nb, .inl (cy 0, 16, .inl NU))]) := hD
  refine lv_aload_n hx hb dX8_become_5 rfl (lv_at hl 0 rfl) ?_
  refine lv_iload_n hx hb dX8_become_6 rfl (lv_at hl 1 rfl) ?_
  refine ln_if_ne (tgt := 14) hx hb dX8_become_7 (by decide) (by omega) (fun c1 => ?_) (fun c1 => ?_)
  · have es : (if x = 0 then 0 else y) = y := if_neg (by omega)
    refine lv_iload_n hx hb dX8_become_14 rfl (lv_at hl 2 rfl) ?_
    refine va_put (D := D) (ci := 8) (v := .int (nI (y))) (ty := .int) (C := RX8) (T := TX8) (N := 3) hx hb hts hinX8 tyX8 tyX8_ok nmX8 hown hK hP hD hS 0 rfl rfl 2 (by decide) (hts (.fieldLink RX8 19 "CornDesk$Sheet" "count" "I") (by decide +kernel)) (fun _ h9 => h9) rfl (by decide +kernel) rfl rfl (Nat.le_of_ble_eq_true rfl) dX8_become_15 (fun H locs hP hD hS => ?_)
    have hP : va_P D vwCl ([(h0, .inr (8, [.ref (nb), .int (nI (x)), .int (nI (y))])), (nb, .inl (cy 0, 16, .inl NU))]) H := hP
    have hD : va_D A ([(h0, .inr (8, [.ref (nb), .int (nI (x)), .int (nI (y))])), (nb, .inl (cy 0, 16, .inl NU))]) := hD
    refine lv_aload_n hx hb dX8_become_18 rfl (lv_at hl 0 rfl) ?_
    refine va_get (D := D) (ci := 8) (v := .ref (nb)) (C := RX8) (T := TX8) (N := 3) hx hb hts hinX8 hown hK hP 0 rfl rfl 0 (by decide) (hts (.fieldLink RX8 9 "CornDesk$Sheet" "numbers" "[I") (by decide +kernel)) (fun _ h9 => h9) rfl dX8_become_19 ?_
    refine lv_iconst (v := (nI (0))) hx hb dX8_become_22 (by decide) ?_
    have hP := hP.sub (ws' := [(nb, .inl (cy 0, 16, .inl NU)), (h0, .inr (8, [.ref (nb), .int (nI (x)), .int (nI (y))]))]) [1, 0] rfl
    have hD := hD.sub (ws' := [(nb, .inl (cy 0, 16, .inl NU)), (h0, .inr (8, [.ref (nb), .int (nI (x)), .int (nI (y))]))]) [1, 0] (by decide) rfl
    refine nq_Sv (As := [.ref (nb), .int (nI (0))]) (rest := []) (w := [(nb, .inl (cy 0, 16, .inl NU))]) (wr := [(h0, .inr (8, [.ref (nb), .int (nI (x)), .int (nI (y))]))]) ⟨hx, hb, hml, hown, hts⟩ (qJ7_fill_53178 l D cy nb 16 NU (nI (0)) (by decide)) (va_cwS 2 hts gX8_become_J7_fill_53178 rfl rfl rfl (by decide +kernel) ⟨Nat.le_of_ble_eq_true rfl, Nat.le_of_ble_eq_true rfl⟩) hP hK hD hN hS hA rfl hl.1 rfl (Nat.le_of_ble_eq_true rfl) dX8_become_23 ⟨Nat.le_of_ble_eq_true rfl, Nat.le_of_ble_eq_true rfl⟩ (fun w1 H locs hq hP hD hS => ?_)
    subst hq
    have hP : va_P D vwCl ([(nb, .inl (cy 0, 16, .inl (cpI NU (fun _ => (nI (0))) 0 16))), (h0, .inr (8, [.ref (nb), .int (nI (x)), .int (nI (y))]))]) H := hP
    have hD : va_D A ([(nb, .inl (cy 0, 16, .inl (cpI NU (fun _ => (nI (0))) 0 16))), (h0, .inr (8, [.ref (nb), .int (nI (x)), .int (nI (y))]))]) := hD
    have hP := hP.sub (ws' := [(h0, .inr (8, [.ref (nb), .int (nI (x)), .int (nI (y))])), (nb, .inl (cy 0, 16, .inl (cpI NU (fun _ => (nI (0))) 0 16)))]) [1, 0] rfl
    have hD := hD.sub (ws' := [(h0, .inr (8, [.ref (nb), .int (nI (x)), .int (nI (y))])), (nb, .inl (cy 0, 16, .inl (cpI NU (fun _ => (nI (0))) 0 16)))]) [1, 0] (by decide) rfl
    exact hret _ _ _ _ _ (by rw [es]) hP hD hS dX8_become_26
  · have es : (if x = 0 then 0 else y) = 0 := if_pos c1
    refine lv_iconst (v := (nI (0))) hx hb dX8_become_10 (by decide) ?_
    refine lv_goto (tgt := 15) hx hb dX8_become_11 (by decide) ?_
    refine va_put (D := D) (ci := 8) (v := .int (nI (0))) (ty := .int) (C := RX8) (T := TX8) (N := 3) hx hb hts hinX8 tyX8 tyX8_ok nmX8 hown hK hP hD hS 0 rfl rfl 2 (by decide) (hts (.fieldLink RX8 19 "CornDesk$Sheet" "count" "I") (by decide +kernel)) (fun _ h9 => h9) rfl (by decide +kernel) rfl rfl (Nat.le_of_ble_eq_true rfl) dX8_become_15 (fun H locs hP hD hS => ?_)
    have hP : va_P D vwCl ([(h0, .inr (8, [.ref (nb), .int (nI (x)), .int (nI (0))])), (nb, .inl (cy 0, 16, .inl NU))]) H := hP
    have hD : va_D A ([(h0, .inr (8, [.ref (nb), .int (nI (x)), .int (nI (0))])), (nb, .inl (cy 0, 16, .inl NU))]) := hD
    refine lv_aload_n hx hb dX8_become_18 rfl (lv_at hl 0 rfl) ?_
    refine va_get (D := D) (ci := 8) (v := .ref (nb)) (C := RX8) (T := TX8) (N := 3) hx hb hts hinX8 hown hK hP 0 rfl rfl 0 (by decide) (hts (.fieldLink RX8 9 "CornDesk$Sheet" "numbers" "[I") (by decide +kernel)) (fun _ h9 => h9) rfl dX8_become_19 ?_
    refine lv_iconst (v := (nI (0))) hx hb dX8_become_22 (by decide) ?_
    have hP := hP.sub (ws' := [(nb, .inl (cy 0, 16, .inl NU)), (h0, .inr (8, [.ref (nb), .int (nI (x)), .int (nI (0))]))]) [1, 0] rfl
    have hD := hD.sub (ws' := [(nb, .inl (cy 0, 16, .inl NU)), (h0, .inr (8, [.ref (nb), .int (nI (x)), .int (nI (0))]))]) [1, 0] (by decide) rfl
    refine nq_Sv (As := [.ref (nb), .int (nI (0))]) (rest := []) (w := [(nb, .inl (cy 0, 16, .inl NU))]) (wr := [(h0, .inr (8, [.ref (nb), .int (nI (x)), .int (nI (0))]))]) ⟨hx, hb, hml, hown, hts⟩ (qJ7_fill_53178 l D cy nb 16 NU (nI (0)) (by decide)) (va_cwS 2 hts gX8_become_J7_fill_53178 rfl rfl rfl (by decide +kernel) ⟨Nat.le_of_ble_eq_true rfl, Nat.le_of_ble_eq_true rfl⟩) hP hK hD hN hS hA rfl hl.1 rfl (Nat.le_of_ble_eq_true rfl) dX8_become_23 ⟨Nat.le_of_ble_eq_true rfl, Nat.le_of_ble_eq_true rfl⟩ (fun w1 H locs hq hP hD hS => ?_)
    subst hq
    have hP : va_P D vwCl ([(nb, .inl (cy 0, 16, .inl (cpI NU (fun _ => (nI (0))) 0 16))), (h0, .inr (8, [.ref (nb), .int (nI (x)), .int (nI (0))]))]) H := hP
    have hD : va_D A ([(nb, .inl (cy 0, 16, .inl (cpI NU (fun _ => (nI (0))) 0 16))), (h0, .inr (8, [.ref (nb), .int (nI (x)), .int (nI (0))]))]) := hD
    have hP := hP.sub (ws' := [(h0, .inr (8, [.ref (nb), .int (nI (x)), .int (nI (0))])), (nb, .inl (cy 0, 16, .inl (cpI NU (fun _ => (nI (0))) 0 16)))]) [1, 0] rfl
    have hD := hD.sub (ws' := [(h0, .inr (8, [.ref (nb), .int (nI (x)), .int (nI (0))])), (nb, .inl (cy 0, 16, .inl (cpI NU (fun _ => (nI (0))) 0 16)))]) [1, 0] (by decide) rfl
    exact hret _ _ _ _ _ (by rw [es]) hP hD hS dX8_become_26
