set_option maxHeartbeats 4000000 in
set_option maxRecDepth 100000 in
theorem qX11_isKind (l : Launch) (D : va_G) (cy : Nat → ClassId)  (v : Int32)  : kq_i l D (cT cy) yX11_isKind wsX11_isKind 1 0 0 22 [.int (v)] ([]) (fun r w1 => r = bI (rg 0 3 v) ∧ w1 = []) := by
  refine kq_z_of (cc := cX11_isKind) (maxL := 1) (by decide) rfl (Nat.le_of_ble_eq_true rfl) ?_
  intro p e s m args below meth c A Q ls hx hb hts hown hml hnm hN hka hA hP hK hD hS hl hret
  have hown : s.vm.findClass RX11 = some m.cls := hown
  have hl : lv_has ls 1 [(0, .int (v))] := hl
  have hP : va_P D vwCl ([]) s.heap := hP
  obtain ⟨tK, hZ, hTa⟩ := id hka
  refine lv_iload_n hx hb dX11_isKind_0 rfl (lv_at hl 0 rfl) ?_
  refine lv_iconst (v := (nI (0))) hx hb dX11_isKind_1 (by decide) ?_
  refine va_gets hx hb hZ hS hown (hts (.fieldLink RX11 372 "CornDesk" "KIND_ABOVE" "[I") (by decide +kernel)) (fun _ h9 => h9) dX11_isKind_2 ?_
  refine va_tlen hx hb hTa hS (v := nI 4) rfl dX11_isKind_5 ?_
  refine lv_iconst (v := (nI (1))) hx hb dX11_isKind_6 (by decide) ?_
  refine ln_isub hx hb dX11_isKind_7 (by omega) ?_
  refine nq_Si (As := [.int (v), .int (nI (0)), .int (nI ((4) - (1)))]) (rest := []) (w := []) (wr := []) ⟨hx, hb, hml, hown, hts⟩ (qX11_isWithin l D cy  (v) (nI (0)) (nI ((4) - (1))) ) (cwS 3 hts gX11_isKind_X11_isWithin rfl rfl rfl (by decide +kernel) ⟨Nat.le_of_ble_eq_true rfl, Nat.le_of_ble_eq_true rfl⟩) hP hK hD hN hS hA rfl hl.1 rfl (Nat.le_of_ble_eq_true rfl) dX11_isKind_8 ⟨Nat.le_of_ble_eq_true rfl, Nat.le_of_ble_eq_true rfl⟩ (fun r w1 H locs hq hP hD hS => ?_)
  obtain ⟨rfl, rfl⟩ := hq
  have hP : va_P D vwCl ([]) H := hP
  have hD : va_D A ([]) := hD
  exact hret _ _ _ _ _ _ bI_nar ⟨rfl, rfl⟩ hP hD hS dX11_isKind_11
/-- a kind stands under another, or is it -/
abbrev undr (k u : Nat) : Prop := u = k ∨ u = 0 ∨ (k = 3 ∧ u = 1)
set_option maxHeartbeats 4000000 in
set_option maxRecDepth 100000 in
theorem qX11_isUnder (l : Launch) (D : va_G) (cy : Nat → ClassId)  (k : Nat) (u : Nat) (hk : k ≤ 3) (hu : u ≤ 3) : kq_i l D (cT cy) yX11_isUnder wsX11_isUnder 2 0 0 42 [.int (nI (k)), .int (nI (u))] ([]) (fun r w1 => r = bI (undr k u) ∧ w1 = []) := by
  refine kq_z_of (cc := cX11_isUnder) (maxL := 4) (by decide) rfl (Nat.le_of_ble_eq_true rfl) ?_
  intro p e s m args below meth c A Q ls hx hb hts hown hml hnm hN hka hA hP hK hD hS hl hret
  have hown : s.vm.findClass RX11 = some m.cls := hown
  have hl : lv_has ls 4 [(0, .int (nI (k))), (1, .int (nI (u)))] := hl
  have hP : va_P D vwCl ([]) s.heap := hP
  obtain ⟨tK, hZ, hTa⟩ := id hka
  rcases (show k = 0 ∨ k = 1 ∨ k = 2 ∨ k = 3 by omega) with rfl | rfl | rfl | rfl
  · refine lv_iload_n hx hb dX11_isUnder_0 rfl (lv_at hl 0 rfl) ?_
    refine lv_istore_n (lv' := [(2, .int (nI (0))), (0, .int (nI (0))), (1, .int (nI (u)))]) hx hb dX11_isUnder_1 rfl hl (by decide) rfl (fun ls hl => ?_)
    refine lv_iconst (v := (nI (0))) hx hb dX11_isUnder_2 (by decide) ?_
    refine lv_istore_n (lv' := [(3, .int (nI (0))), (2, .int (nI (0))), (0, .int (nI (0))), (1, .int (nI (u)))]) hx hb dX11_isUnder_3 rfl hl (by decide) rfl (fun ls hl => ?_)
    refine lv_iload_n hx hb dX11_isUnder_4 rfl (lv_at hl 0 rfl) ?_
    refine va_gets hx hb hZ hS hown (hts (.fieldLink RX11 372 "CornDesk" "KIND_ABOVE" "[I") (by decide +kernel)) (fun _ h9 => h9) dX11_isUnder_5 ?_
    refine va_tlen hx hb hTa hS (v := nI 4) rfl dX11_isUnder_8 ?_
    refine ln_icmp_ge (tgt := 40) hx hb dX11_isUnder_9 (by decide) (by omega) (by omega) (fun c0l => ?_) (fun c0l => ?_)
    · exact absurd c0l (by decide)
    · refine lv_iload_n hx hb dX11_isUnder_12 rfl (lv_at hl 1 rfl) ?_
      refine kq_Si (As := [.int (nI (0))]) (rest := []) (w := []) (wr := []) ⟨hx, hb, hml, hown, hts⟩ (qX11_isKind l D cy  (nI (0)) ) (cwS 1 hts gX11_isUnder_X11_isKind rfl rfl rfl (by decide +kernel) ⟨Nat.le_of_ble_eq_true rfl, Nat.le_of_ble_eq_true rfl⟩) hP hK hD hN hka hS hA rfl hl.1 rfl (Nat.le_of_ble_eq_true rfl) dX11_isUnder_13 ⟨Nat.le_of_ble_eq_true rfl, Nat.le_of_ble_eq_true rfl⟩ (fun r w1 H locs hq hP hD hS => ?_)
      obtain ⟨rfl, rfl⟩ := hq
      have hP : va_P D vwCl ([]) H := hP
      have hD : va_D A ([]) := hD
      refine lb_if_ne (tgt := 21) hx hb dX11_isUnder_16 (by decide) (fun c0k => ?_) (fun c0k => ?_)
      · refine lv_iload_n hx hb dX11_isUnder_21 rfl (lv_at hl 1 rfl) ?_
        refine lv_iload_n hx hb dX11_isUnder_22 rfl (lv_at hl 3 rfl) ?_
        refine ln_icmp_ne (tgt := 28) hx hb dX11_isUnder_23 (by decide) (by omega) (by omega) (fun c0e => ?_) (fun c0e => ?_)
        · refine va_gets hx hb hZ hS hown (hts (.fieldLink RX11 372 "CornDesk" "KIND_ABOVE" "[I") (by decide +kernel)) (fun _ h9 => h9) dX11_isUnder_28 ?_
          refine lv_iload_n hx hb dX11_isUnder_31 rfl (lv_at hl 1 rfl) ?_
          refine va_ti (v := .int (-1)) hx hb hTa hS (vp_in_nI (show 0 < 4 by decide) (by decide)) rfl dX11_isUnder_32 ?_
          refine lv_istore_n (lv' := [(2, .int (-1)), (3, .int (nI (0))), (0, .int (nI (0))), (1, .int (nI (u)))]) hx hb dX11_isUnder_33 rfl hl (by decide) rfl (fun ls hl => ?_)
          refine lv_iinc (v := (nI (1))) (lv' := [(3, .int (nI (1))), (2, .int (-1)), (0, .int (nI (0))), (1, .int (nI (u)))]) hx hb dX11_isUnder_34 hl (k := 1) rfl (by decide) (by decide) rfl (fun ls hl => ?_)
          refine lv_goto (tgt := 4) hx hb dX11_isUnder_37 (by decide) ?_
          refine lv_iload_n hx hb dX11_isUnder_4 rfl (lv_at hl 0 rfl) ?_
          refine va_gets hx hb hZ hS hown (hts (.fieldLink RX11 372 "CornDesk" "KIND_ABOVE" "[I") (by decide +kernel)) (fun _ h9 => h9) dX11_isUnder_5 ?_
          refine va_tlen hx hb hTa hS (v := nI 4) rfl dX11_isUnder_8 ?_
          refine ln_icmp_ge (tgt := 40) hx hb dX11_isUnder_9 (by decide) (by omega) (by omega) (fun c1l => ?_) (fun c1l => ?_)
          · exact absurd c1l (by decide)
          · refine lv_iload_n hx hb dX11_isUnder_12 rfl (lv_at hl 1 rfl) ?_
            refine kq_Si (As := [.int (-1)]) (rest := []) (w := []) (wr := []) ⟨hx, hb, hml, hown, hts⟩ (qX11_isKind l D cy  (-1) ) (cwS 1 hts gX11_isUnder_X11_isKind rfl rfl rfl (by decide +kernel) ⟨Nat.le_of_ble_eq_true rfl, Nat.le_of_ble_eq_true rfl⟩) hP hK hD hN hka hS hA rfl hl.1 rfl (Nat.le_of_ble_eq_true rfl) dX11_isUnder_13 ⟨Nat.le_of_ble_eq_true rfl, Nat.le_of_ble_eq_true rfl⟩ (fun r w1 H locs hq hP hD hS => ?_)
            obtain ⟨rfl, rfl⟩ := hq
            have hP : va_P D vwCl ([]) H := hP
            have hD : va_D A ([]) := hD
            refine lb_if_ne (tgt := 21) hx hb dX11_isUnder_16 (by decide) (fun c1k => ?_) (fun c1k => ?_)
            · exact absurd c1k (by decide)
            · refine lv_iconst (v := (nI (0))) hx hb dX11_isUnder_19 (by decide) ?_
              exact hret _ _ _ _ _ _ rfl ⟨bI_f' (fun h => by have h : u = 0 ∨ u = 0 ∨ ((0 : Nat) = 3 ∧ u = 1) := h; omega), rfl⟩ hP hD hS dX11_isUnder_20
        · refine lv_iconst (v := (nI (1))) hx hb dX11_isUnder_26 (by decide) ?_
          exact hret _ _ _ _ _ _ rfl ⟨bI_t' (show u = 0 ∨ u = 0 ∨ ((0 : Nat) = 3 ∧ u = 1) by omega), rfl⟩ hP hD hS dX11_isUnder_27
      · exact absurd (show rg 0 3 (nI 0) by decide) c0k
  · refine lv_iload_n hx hb dX11_isUnder_0 rfl (lv_at hl 0 rfl) ?_
    refine lv_istore_n (lv' := [(2, .int (nI (1))), (0, .int (nI (1))), (1, .int (nI (u)))]) hx hb dX11_isUnder_1 rfl hl (by decide) rfl (fun ls hl => ?_)
    refine lv_iconst (v := (nI (0))) hx hb dX11_isUnder_2 (by decide) ?_
    refine lv_istore_n (lv' := [(3, .int (nI (0))), (2, .int (nI (1))), (0, .int (nI (1))), (1, .int (nI (u)))]) hx hb dX11_isUnder_3 rfl hl (by decide) rfl (fun ls hl => ?_)
    refine lv_iload_n hx hb dX11_isUnder_4 rfl (lv_at hl 0 rfl) ?_
    refine va_gets hx hb hZ hS hown (hts (.fieldLink RX11 372 "CornDesk" "KIND_ABOVE" "[I") (by decide +kernel)) (fun _ h9 => h9) dX11_isUnder_5 ?_
    refine va_tlen hx hb hTa hS (v := nI 4) rfl dX11_isUnder_8 ?_
    refine ln_icmp_ge (tgt := 40) hx hb dX11_isUnder_9 (by decide) (by omega) (by omega) (fun c0l => ?_) (fun c0l => ?_)
    · exact absurd c0l (by decide)
    · refine lv_iload_n hx hb dX11_isUnder_12 rfl (lv_at hl 1 rfl) ?_
      refine kq_Si (As := [.int (nI (1))]) (rest := []) (w := []) (wr := []) ⟨hx, hb, hml, hown, hts⟩ (qX11_isKind l D cy  (nI (1)) ) (cwS 1 hts gX11_isUnder_X11_isKind rfl rfl rfl (by decide +kernel) ⟨Nat.le_of_ble_eq_true rfl, Nat.le_of_ble_eq_true rfl⟩) hP hK hD hN hka hS hA rfl hl.1 rfl (Nat.le_of_ble_eq_true rfl) dX11_isUnder_13 ⟨Nat.le_of_ble_eq_true rfl, Nat.le_of_ble_eq_true rfl⟩ (fun r w1 H locs hq hP hD hS => ?_)
      obtain ⟨rfl, rfl⟩ := hq
      have hP : va_P D vwCl ([]) H := hP
      have hD : va_D A ([]) := hD
      refine lb_if_ne (tgt := 21) hx hb dX11_isUnder_16 (by decide) (fun c0k => ?_) (fun c0k => ?_)
      · refine lv_iload_n hx hb dX11_isUnder_21 rfl (lv_at hl 1 rfl) ?_
        refine lv_iload_n hx hb dX11_isUnder_22 rfl (lv_at hl 3 rfl) ?_
        refine ln_icmp_ne (tgt := 28) hx hb dX11_isUnder_23 (by decide) (by omega) (by omega) (fun c0e => ?_) (fun c0e => ?_)
        · refine va_gets hx hb hZ hS hown (hts (.fieldLink RX11 372 "CornDesk" "KIND_ABOVE" "[I") (by decide +kernel)) (fun _ h9 => h9) dX11_isUnder_28 ?_
          refine lv_iload_n hx hb dX11_isUnder_31 rfl (lv_at hl 1 rfl) ?_
          refine va_ti (v := .int (nI 0)) hx hb hTa hS (vp_in_nI (show 1 < 4 by decide) (by decide)) rfl dX11_isUnder_32 ?_
          refine lv_istore_n (lv' := [(2, .int (nI (0))), (3, .int (nI (0))), (0, .int (nI (1))), (1, .int (nI (u)))]) hx hb dX11_isUnder_33 rfl hl (by decide) rfl (fun ls hl => ?_)
          refine lv_iinc (v := (nI (1))) (lv' := [(3, .int (nI (1))), (2, .int (nI (0))), (0, .int (nI (1))), (1, .int (nI (u)))]) hx hb dX11_isUnder_34 hl (k := 1) rfl (by decide) (by decide) rfl (fun ls hl => ?_)
          refine lv_goto (tgt := 4) hx hb dX11_isUnder_37 (by decide) ?_
          refine lv_iload_n hx hb dX11_isUnder_4 rfl (lv_at hl 0 rfl) ?_
          refine va_gets hx hb hZ hS hown (hts (.fieldLink RX11 372 "CornDesk" "KIND_ABOVE" "[I") (by decide +kernel)) (fun _ h9 => h9) dX11_isUnder_5 ?_
          refine va_tlen hx hb hTa hS (v := nI 4) rfl dX11_isUnder_8 ?_
          refine ln_icmp_ge (tgt := 40) hx hb dX11_isUnder_9 (by decide) (by omega) (by omega) (fun c1l => ?_) (fun c1l => ?_)
          · exact absurd c1l (by decide)
          · refine lv_iload_n hx hb dX11_isUnder_12 rfl (lv_at hl 1 rfl) ?_
            refine kq_Si (As := [.int (nI (0))]) (rest := []) (w := []) (wr := []) ⟨hx, hb, hml, hown, hts⟩ (qX11_isKind l D cy  (nI (0)) ) (cwS 1 hts gX11_isUnder_X11_isKind rfl rfl rfl (by decide +kernel) ⟨Nat.le_of_ble_eq_true rfl, Nat.le_of_ble_eq_true rfl⟩) hP hK hD hN hka hS hA rfl hl.1 rfl (Nat.le_of_ble_eq_true rfl) dX11_isUnder_13 ⟨Nat.le_of_ble_eq_true rfl, Nat.le_of_ble_eq_true rfl⟩ (fun r w1 H locs hq hP hD hS => ?_)
            obtain ⟨rfl, rfl⟩ := hq
            have hP : va_P D vwCl ([]) H := hP
            have hD : va_D A ([]) := hD
            refine lb_if_ne (tgt := 21) hx hb dX11_isUnder_16 (by decide) (fun c1k => ?_) (fun c1k => ?_)
            · refine lv_iload_n hx hb dX11_isUnder_21 rfl (lv_at hl 1 rfl) ?_
              refine lv_iload_n hx hb dX11_isUnder_22 rfl (lv_at hl 3 rfl) ?_
              refine ln_icmp_ne (tgt := 28) hx hb dX11_isUnder_23 (by decide) (by omega) (by omega) (fun c1e => ?_) (fun c1e => ?_)
              · refine va_gets hx hb hZ hS hown (hts (.fieldLink RX11 372 "CornDesk" "KIND_ABOVE" "[I") (by decide +kernel)) (fun _ h9 => h9) dX11_isUnder_28 ?_
                refine lv_iload_n hx hb dX11_isUnder_31 rfl (lv_at hl 1 rfl) ?_
                refine va_ti (v := .int (-1)) hx hb hTa hS (vp_in_nI (show 0 < 4 by decide) (by decide)) rfl dX11_isUnder_32 ?_
                refine lv_istore_n (lv' := [(2, .int (-1)), (3, .int (nI (1))), (0, .int (nI (1))), (1, .int (nI (u)))]) hx hb dX11_isUnder_33 rfl hl (by decide) rfl (fun ls hl => ?_)
                refine lv_iinc (v := (nI (2))) (lv' := [(3, .int (nI (2))), (2, .int (-1)), (0, .int (nI (1))), (1, .int (nI (u)))]) hx hb dX11_isUnder_34 hl (k := 1) rfl (by decide) (by decide) rfl (fun ls hl => ?_)
                refine lv_goto (tgt := 4) hx hb dX11_isUnder_37 (by decide) ?_
                refine lv_iload_n hx hb dX11_isUnder_4 rfl (lv_at hl 0 rfl) ?_
                refine va_gets hx hb hZ hS hown (hts (.fieldLink RX11 372 "CornDesk" "KIND_ABOVE" "[I") (by decide +kernel)) (fun _ h9 => h9) dX11_isUnder_5 ?_
                refine va_tlen hx hb hTa hS (v := nI 4) rfl dX11_isUnder_8 ?_
                refine ln_icmp_ge (tgt := 40) hx hb dX11_isUnder_9 (by decide) (by omega) (by omega) (fun c2l => ?_) (fun c2l => ?_)
                · exact absurd c2l (by decide)
                · refine lv_iload_n hx hb dX11_isUnder_12 rfl (lv_at hl 1 rfl) ?_
                  refine kq_Si (As := [.int (-1)]) (rest := []) (w := []) (wr := []) ⟨hx, hb, hml, hown, hts⟩ (qX11_isKind l D cy  (-1) ) (cwS 1 hts gX11_isUnder_X11_isKind rfl rfl rfl (by decide +kernel) ⟨Nat.le_of_ble_eq_true rfl, Nat.le_of_ble_eq_true rfl⟩) hP hK hD hN hka hS hA rfl hl.1 rfl (Nat.le_of_ble_eq_true rfl) dX11_isUnder_13 ⟨Nat.le_of_ble_eq_true rfl, Nat.le_of_ble_eq_true rfl⟩ (fun r w1 H locs hq hP hD hS => ?_)
                  obtain ⟨rfl, rfl⟩ := hq
                  have hP : va_P D vwCl ([]) H := hP
                  have hD : va_D A ([]) := hD
                  refine lb_if_ne (tgt := 21) hx hb dX11_isUnder_16 (by decide) (fun c2k => ?_) (fun c2k => ?_)
                  · exact absurd c2k (by decide)
                  · refine lv_iconst (v := (nI (0))) hx hb dX11_isUnder_19 (by decide) ?_
                    exact hret _ _ _ _ _ _ rfl ⟨bI_f' (fun h => by have h : u = 1 ∨ u = 0 ∨ ((1 : Nat) = 3 ∧ u = 1) := h; omega), rfl⟩ hP hD hS dX11_isUnder_20
              · refine lv_iconst (v := (nI (1))) hx hb dX11_isUnder_26 (by decide) ?_
                exact hret _ _ _ _ _ _ rfl ⟨bI_t' (show u = 1 ∨ u = 0 ∨ ((1 : Nat) = 3 ∧ u = 1) by omega), rfl⟩ hP hD hS dX11_isUnder_27
            · exact absurd (show rg 0 3 (nI 0) by decide) c1k
        · refine lv_iconst (v := (nI (1))) hx hb dX11_isUnder_26 (by decide) ?_
          exact hret _ _ _ _ _ _ rfl ⟨bI_t' (show u = 1 ∨ u = 0 ∨ ((1 : Nat) = 3 ∧ u = 1) by omega), rfl⟩ hP hD hS dX11_isUnder_27
      · exact absurd (show rg 0 3 (nI 1) by decide) c0k
  · refine lv_iload_n hx hb dX11_isUnder_0 rfl (lv_at hl 0 rfl) ?_
    refine lv_istore_n (lv' := [(2, .int (nI (2))), (0, .int (nI (2))), (1, .int (nI (u)))]) hx hb dX11_isUnder_1 rfl hl (by decide) rfl (fun ls hl => ?_)
    refine lv_iconst (v := (nI (0))) hx hb dX11_isUnder_2 (by decide) ?_
    refine lv_istore_n (lv' := [(3, .int (nI (0))), (2, .int (nI (2))), (0, .int (nI (2))), (1, .int (nI (u)))]) hx hb dX11_isUnder_3 rfl hl (by decide) rfl (fun ls hl => ?_)
    refine lv_iload_n hx hb dX11_isUnder_4 rfl (lv_at hl 0 rfl) ?_
    refine va_gets hx hb hZ hS hown (hts (.fieldLink RX11 372 "CornDesk" "KIND_ABOVE" "[I") (by decide +kernel)) (fun _ h9 => h9) dX11_isUnder_5 ?_
    refine va_tlen hx hb hTa hS (v := nI 4) rfl dX11_isUnder_8 ?_
    refine ln_icmp_ge (tgt := 40) hx hb dX11_isUnder_9 (by decide) (by omega) (by omega) (fun c0l => ?_) (fun c0l => ?_)
    · exact absurd c0l (by decide)
    · refine lv_iload_n hx hb dX11_isUnder_12 rfl (lv_at hl 1 rfl) ?_
      refine kq_Si (As := [.int (nI (2))]) (rest := []) (w := []) (wr := []) ⟨hx, hb, hml, hown, hts⟩ (qX11_isKind l D cy  (nI (2)) ) (cwS 1 hts gX11_isUnder_X11_isKind rfl rfl rfl (by decide +kernel) ⟨Nat.le_of_ble_eq_true rfl, Nat.le_of_ble_eq_true rfl⟩) hP hK hD hN hka hS hA rfl hl.1 rfl (Nat.le_of_ble_eq_true rfl) dX11_isUnder_13 ⟨Nat.le_of_ble_eq_true rfl, Nat.le_of_ble_eq_true rfl⟩ (fun r w1 H locs hq hP hD hS => ?_)
      obtain ⟨rfl, rfl⟩ := hq
      have hP : va_P D vwCl ([]) H := hP
      have hD : va_D A ([]) := hD
      refine lb_if_ne (tgt := 21) hx hb dX11_isUnder_16 (by decide) (fun c0k => ?_) (fun c0k => ?_)
      · refine lv_iload_n hx hb dX11_isUnder_21 rfl (lv_at hl 1 rfl) ?_
        refine lv_iload_n hx hb dX11_isUnder_22 rfl (lv_at hl 3 rfl) ?_
        refine ln_icmp_ne (tgt := 28) hx hb dX11_isUnder_23 (by decide) (by omega) (by omega) (fun c0e => ?_) (fun c0e => ?_)
        · refine va_gets hx hb hZ hS hown (hts (.fieldLink RX11 372 "CornDesk" "KIND_ABOVE" "[I") (by decide +kernel)) (fun _ h9 => h9) dX11_isUnder_28 ?_
          refine lv_iload_n hx hb dX11_isUnder_31 rfl (lv_at hl 1 rfl) ?_
          refine va_ti (v := .int (nI 0)) hx hb hTa hS (vp_in_nI (show 2 < 4 by decide) (by decide)) rfl dX11_isUnder_32 ?_
          refine lv_istore_n (lv' := [(2, .int (nI (0))), (3, .int (nI (0))), (0, .int (nI (2))), (1, .int (nI (u)))]) hx hb dX11_isUnder_33 rfl hl (by decide) rfl (fun ls hl => ?_)
          refine lv_iinc (v := (nI (1))) (lv' := [(3, .int (nI (1))), (2, .int (nI (0))), (0, .int (nI (2))), (1, .int (nI (u)))]) hx hb dX11_isUnder_34 hl (k := 1) rfl (by decide) (by decide) rfl (fun ls hl => ?_)
          refine lv_goto (tgt := 4) hx hb dX11_isUnder_37 (by decide) ?_
          refine lv_iload_n hx hb dX11_isUnder_4 rfl (lv_at hl 0 rfl) ?_
          refine va_gets hx hb hZ hS hown (hts (.fieldLink RX11 372 "CornDesk" "KIND_ABOVE" "[I") (by decide +kernel)) (fun _ h9 => h9) dX11_isUnder_5 ?_
          refine va_tlen hx hb hTa hS (v := nI 4) rfl dX11_isUnder_8 ?_
          refine ln_icmp_ge (tgt := 40) hx hb dX11_isUnder_9 (by decide) (by omega) (by omega) (fun c1l => ?_) (fun c1l => ?_)
          · exact absurd c1l (by decide)
          · refine lv_iload_n hx hb dX11_isUnder_12 rfl (lv_at hl 1 rfl) ?_
            refine kq_Si (As := [.int (nI (0))]) (rest := []) (w := []) (wr := []) ⟨hx, hb, hml, hown, hts⟩ (qX11_isKind l D cy  (nI (0)) ) (cwS 1 hts gX11_isUnder_X11_isKind rfl rfl rfl (by decide +kernel) ⟨Nat.le_of_ble_eq_true rfl, Nat.le_of_ble_eq_true rfl⟩) hP hK hD hN hka hS hA rfl hl.1 rfl (Nat.le_of_ble_eq_true rfl) dX11_isUnder_13 ⟨Nat.le_of_ble_eq_true rfl, Nat.le_of_ble_eq_true rfl⟩ (fun r w1 H locs hq hP hD hS => ?_)
            obtain ⟨rfl, rfl⟩ := hq
            have hP : va_P D vwCl ([]) H := hP
            have hD : va_D A ([]) := hD
            refine lb_if_ne (tgt := 21) hx hb dX11_isUnder_16 (by decide) (fun c1k => ?_) (fun c1k => ?_)
            · refine lv_iload_n hx hb dX11_isUnder_21 rfl (lv_at hl 1 rfl) ?_
              refine lv_iload_n hx hb dX11_isUnder_22 rfl (lv_at hl 3 rfl) ?_
              refine ln_icmp_ne (tgt := 28) hx hb dX11_isUnder_23 (by decide) (by omega) (by omega) (fun c1e => ?_) (fun c1e => ?_)
              · refine va_gets hx hb hZ hS hown (hts (.fieldLink RX11 372 "CornDesk" "KIND_ABOVE" "[I") (by decide +kernel)) (fun _ h9 => h9) dX11_isUnder_28 ?_
                refine lv_iload_n hx hb dX11_isUnder_31 rfl (lv_at hl 1 rfl) ?_
                refine va_ti (v := .int (-1)) hx hb hTa hS (vp_in_nI (show 0 < 4 by decide) (by decide)) rfl dX11_isUnder_32 ?_
                refine lv_istore_n (lv' := [(2, .int (-1)), (3, .int (nI (1))), (0, .int (nI (2))), (1, .int (nI (u)))]) hx hb dX11_isUnder_33 rfl hl (by decide) rfl (fun ls hl => ?_)
                refine lv_iinc (v := (nI (2))) (lv' := [(3, .int (nI (2))), (2, .int (-1)), (0, .int (nI (2))), (1, .int (nI (u)))]) hx hb dX11_isUnder_34 hl (k := 1) rfl (by decide) (by decide) rfl (fun ls hl => ?_)
                refine lv_goto (tgt := 4) hx hb dX11_isUnder_37 (by decide) ?_
                refine lv_iload_n hx hb dX11_isUnder_4 rfl (lv_at hl 0 rfl) ?_
                refine va_gets hx hb hZ hS hown (hts (.fieldLink RX11 372 "CornDesk" "KIND_ABOVE" "[I") (by decide +kernel)) (fun _ h9 => h9) dX11_isUnder_5 ?_
                refine va_tlen hx hb hTa hS (v := nI 4) rfl dX11_isUnder_8 ?_
                refine ln_icmp_ge (tgt := 40) hx hb dX11_isUnder_9 (by decide) (by omega) (by omega) (fun c2l => ?_) (fun c2l => ?_)
                · exact absurd c2l (by decide)
                · refine lv_iload_n hx hb dX11_isUnder_12 rfl (lv_at hl 1 rfl) ?_
                  refine kq_Si (As := [.int (-1)]) (rest := []) (w := []) (wr := []) ⟨hx, hb, hml, hown, hts⟩ (qX11_isKind l D cy  (-1) ) (cwS 1 hts gX11_isUnder_X11_isKind rfl rfl rfl (by decide +kernel) ⟨Nat.le_of_ble_eq_true rfl, Nat.le_of_ble_eq_true rfl⟩) hP hK hD hN hka hS hA rfl hl.1 rfl (Nat.le_of_ble_eq_true rfl) dX11_isUnder_13 ⟨Nat.le_of_ble_eq_true rfl, Nat.le_of_ble_eq_true rfl⟩ (fun r w1 H locs hq hP hD hS => ?_)
                  obtain ⟨rfl, rfl⟩ := hq
                  have hP : va_P D vwCl ([]) H := hP
                  have hD : va_D A ([]) := hD
                  refine lb_if_ne (tgt := 21) hx hb dX11_isUnder_16 (by decide) (fun c2k => ?_) (fun c2k => ?_)
                  · exact absurd c2k (by decide)
                  · refine lv_iconst (v := (nI (0))) hx hb dX11_isUnder_19 (by decide) ?_
                    exact hret _ _ _ _ _ _ rfl ⟨bI_f' (fun h => by have h : u = 2 ∨ u = 0 ∨ ((2 : Nat) = 3 ∧ u = 1) := h; omega), rfl⟩ hP hD hS dX11_isUnder_20
              · refine lv_iconst (v := (nI (1))) hx hb dX11_isUnder_26 (by decide) ?_
                exact hret _ _ _ _ _ _ rfl ⟨bI_t' (show u = 2 ∨ u = 0 ∨ ((2 : Nat) = 3 ∧ u = 1) by omega), rfl⟩ hP hD hS dX11_isUnder_27
            · exact absurd (show rg 0 3 (nI 0) by decide) c1k
        · refine lv_iconst (v := (nI (1))) hx hb dX11_isUnder_26 (by decide) ?_
          exact hret _ _ _ _ _ _ rfl ⟨bI_t' (show u = 2 ∨ u = 0 ∨ ((2 : Nat) = 3 ∧ u = 1) by omega), rfl⟩ hP hD hS dX11_isUnder_27
      · exact absurd (show rg 0 3 (nI 2) by decide) c0k
  · refine lv_iload_n hx hb dX11_isUnder_0 rfl (lv_at hl 0 rfl) ?_
    refine lv_istore_n (lv' := [(2, .int (nI (3))), (0, .int (nI (3))), (1, .int (nI (u)))]) hx hb dX11_isUnder_1 rfl hl (by decide) rfl (fun ls hl => ?_)
    refine lv_iconst (v := (nI (0))) hx hb dX11_isUnder_2 (by decide) ?_
    refine lv_istore_n (lv' := [(3, .int (nI (0))), (2, .int (nI (3))), (0, .int (nI (3))), (1, .int (nI (u)))]) hx hb dX11_isUnder_3 rfl hl (by decide) rfl (fun ls hl => ?_)
    refine lv_iload_n hx hb dX11_isUnder_4 rfl (lv_at hl 0 rfl) ?_
    refine va_gets hx hb hZ hS hown (hts (.fieldLink RX11 372 "CornDesk" "KIND_ABOVE" "[I") (by decide +kernel)) (fun _ h9 => h9) dX11_isUnder_5 ?_
    refine va_tlen hx hb hTa hS (v := nI 4) rfl dX11_isUnder_8 ?_
    refine ln_icmp_ge (tgt := 40) hx hb dX11_isUnder_9 (by decide) (by omega) (by omega) (fun c0l => ?_) (fun c0l => ?_)
    · exact absurd c0l (by decide)
    · refine lv_iload_n hx hb dX11_isUnder_12 rfl (lv_at hl 1 rfl) ?_
      refine kq_Si (As := [.int (nI (3))]) (rest := []) (w := []) (wr := []) ⟨hx, hb, hml, hown, hts⟩ (qX11_isKind l D cy  (nI (3)) ) (cwS 1 hts gX11_isUnder_X11_isKind rfl rfl rfl (by decide +kernel) ⟨Nat.le_of_ble_eq_true rfl, Nat.le_of_ble_eq_true rfl⟩) hP hK hD hN hka hS hA rfl hl.1 rfl (Nat.le_of_ble_eq_true rfl) dX11_isUnder_13 ⟨Nat.le_of_ble_eq_true rfl, Nat.le_of_ble_eq_true rfl⟩ (fun r w1 H locs hq hP hD hS => ?_)
      obtain ⟨rfl, rfl⟩ := hq
      have hP : va_P D vwCl ([]) H := hP
      have hD : va_D A ([]) := hD
      refine lb_if_ne (tgt := 21) hx hb dX11_isUnder_16 (by decide) (fun c0k => ?_) (fun c0k => ?_)
      · refine lv_iload_n hx hb dX11_isUnder_21 rfl (lv_at hl 1 rfl) ?_
        refine lv_iload_n hx hb dX11_isUnder_22 rfl (lv_at hl 3 rfl) ?_
        refine ln_icmp_ne (tgt := 28) hx hb dX11_isUnder_23 (by decide) (by omega) (by omega) (fun c0e => ?_) (fun c0e => ?_)
        · refine va_gets hx hb hZ hS hown (hts (.fieldLink RX11 372 "CornDesk" "KIND_ABOVE" "[I") (by decide +kernel)) (fun _ h9 => h9) dX11_isUnder_28 ?_
          refine lv_iload_n hx hb dX11_isUnder_31 rfl (lv_at hl 1 rfl) ?_
          refine va_ti (v := .int (nI 1)) hx hb hTa hS (vp_in_nI (show 3 < 4 by decide) (by decide)) rfl dX11_isUnder_32 ?_
          refine lv_istore_n (lv' := [(2, .int (nI (1))), (3, .int (nI (0))), (0, .int (nI (3))), (1, .int (nI (u)))]) hx hb dX11_isUnder_33 rfl hl (by decide) rfl (fun ls hl => ?_)
          refine lv_iinc (v := (nI (1))) (lv' := [(3, .int (nI (1))), (2, .int (nI (1))), (0, .int (nI (3))), (1, .int (nI (u)))]) hx hb dX11_isUnder_34 hl (k := 1) rfl (by decide) (by decide) rfl (fun ls hl => ?_)
          refine lv_goto (tgt := 4) hx hb dX11_isUnder_37 (by decide) ?_
          refine lv_iload_n hx hb dX11_isUnder_4 rfl (lv_at hl 0 rfl) ?_
          refine va_gets hx hb hZ hS hown (hts (.fieldLink RX11 372 "CornDesk" "KIND_ABOVE" "[I") (by decide +kernel)) (fun _ h9 => h9) dX11_isUnder_5 ?_
          refine va_tlen hx hb hTa hS (v := nI 4) rfl dX11_isUnder_8 ?_
          refine ln_icmp_ge (tgt := 40) hx hb dX11_isUnder_9 (by decide) (by omega) (by omega) (fun c1l => ?_) (fun c1l => ?_)
          · exact absurd c1l (by decide)
          · refine lv_iload_n hx hb dX11_isUnder_12 rfl (lv_at hl 1 rfl) ?_
            refine kq_Si (As := [.int (nI (1))]) (rest := []) (w := []) (wr := []) ⟨hx, hb, hml, hown, hts⟩ (qX11_isKind l D cy  (nI (1)) ) (cwS 1 hts gX11_isUnder_X11_isKind rfl rfl rfl (by decide +kernel) ⟨Nat.le_of_ble_eq_true rfl, Nat.le_of_ble_eq_true rfl⟩) hP hK hD hN hka hS hA rfl hl.1 rfl (Nat.le_of_ble_eq_true rfl) dX11_isUnder_13 ⟨Nat.le_of_ble_eq_true rfl, Nat.le_of_ble_eq_true rfl⟩ (fun r w1 H locs hq hP hD hS => ?_)
            obtain ⟨rfl, rfl⟩ := hq
            have hP : va_P D vwCl ([]) H := hP
            have hD : va_D A ([]) := hD
            refine lb_if_ne (tgt := 21) hx hb dX11_isUnder_16 (by decide) (fun c1k => ?_) (fun c1k => ?_)
            · refine lv_iload_n hx hb dX11_isUnder_21 rfl (lv_at hl 1 rfl) ?_
              refine lv_iload_n hx hb dX11_isUnder_22 rfl (lv_at hl 3 rfl) ?_
              refine ln_icmp_ne (tgt := 28) hx hb dX11_isUnder_23 (by decide) (by omega) (by omega) (fun c1e => ?_) (fun c1e => ?_)
              · refine va_gets hx hb hZ hS hown (hts (.fieldLink RX11 372 "CornDesk" "KIND_ABOVE" "[I") (by decide +kernel)) (fun _ h9 => h9) dX11_isUnder_28 ?_
                refine lv_iload_n hx hb dX11_isUnder_31 rfl (lv_at hl 1 rfl) ?_
                refine va_ti (v := .int (nI 0)) hx hb hTa hS (vp_in_nI (show 1 < 4 by decide) (by decide)) rfl dX11_isUnder_32 ?_
                refine lv_istore_n (lv' := [(2, .int (nI (0))), (3, .int (nI (1))), (0, .int (nI (3))), (1, .int (nI (u)))]) hx hb dX11_isUnder_33 rfl hl (by decide) rfl (fun ls hl => ?_)
                refine lv_iinc (v := (nI (2))) (lv' := [(3, .int (nI (2))), (2, .int (nI (0))), (0, .int (nI (3))), (1, .int (nI (u)))]) hx hb dX11_isUnder_34 hl (k := 1) rfl (by decide) (by decide) rfl (fun ls hl => ?_)
                refine lv_goto (tgt := 4) hx hb dX11_isUnder_37 (by decide) ?_
                refine lv_iload_n hx hb dX11_isUnder_4 rfl (lv_at hl 0 rfl) ?_
                refine va_gets hx hb hZ hS hown (hts (.fieldLink RX11 372 "CornDesk" "KIND_ABOVE" "[I") (by decide +kernel)) (fun _ h9 => h9) dX11_isUnder_5 ?_
                refine va_tlen hx hb hTa hS (v := nI 4) rfl dX11_isUnder_8 ?_
                refine ln_icmp_ge (tgt := 40) hx hb dX11_isUnder_9 (by decide) (by omega) (by omega) (fun c2l => ?_) (fun c2l => ?_)
                · exact absurd c2l (by decide)
                · refine lv_iload_n hx hb dX11_isUnder_12 rfl (lv_at hl 1 rfl) ?_
                  refine kq_Si (As := [.int (nI (0))]) (rest := []) (w := []) (wr := []) ⟨hx, hb, hml, hown, hts⟩ (qX11_isKind l D cy  (nI (0)) ) (cwS 1 hts gX11_isUnder_X11_isKind rfl rfl rfl (by decide +kernel) ⟨Nat.le_of_ble_eq_true rfl, Nat.le_of_ble_eq_true rfl⟩) hP hK hD hN hka hS hA rfl hl.1 rfl (Nat.le_of_ble_eq_true rfl) dX11_isUnder_13 ⟨Nat.le_of_ble_eq_true rfl, Nat.le_of_ble_eq_true rfl⟩ (fun r w1 H locs hq hP hD hS => ?_)
                  obtain ⟨rfl, rfl⟩ := hq
                  have hP : va_P D vwCl ([]) H := hP
                  have hD : va_D A ([]) := hD
                  refine lb_if_ne (tgt := 21) hx hb dX11_isUnder_16 (by decide) (fun c2k => ?_) (fun c2k => ?_)
                  · refine lv_iload_n hx hb dX11_isUnder_21 rfl (lv_at hl 1 rfl) ?_
                    refine lv_iload_n hx hb dX11_isUnder_22 rfl (lv_at hl 3 rfl) ?_
                    refine ln_icmp_ne (tgt := 28) hx hb dX11_isUnder_23 (by decide) (by omega) (by omega) (fun c2e => ?_) (fun c2e => ?_)
                    · refine va_gets hx hb hZ hS hown (hts (.fieldLink RX11 372 "CornDesk" "KIND_ABOVE" "[I") (by decide +kernel)) (fun _ h9 => h9) dX11_isUnder_28 ?_
                      refine lv_iload_n hx hb dX11_isUnder_31 rfl (lv_at hl 1 rfl) ?_
                      refine va_ti (v := .int (-1)) hx hb hTa hS (vp_in_nI (show 0 < 4 by decide) (by decide)) rfl dX11_isUnder_32 ?_
                      refine lv_istore_n (lv' := [(2, .int (-1)), (3, .int (nI (2))), (0, .int (nI (3))), (1, .int (nI (u)))]) hx hb dX11_isUnder_33 rfl hl (by decide) rfl (fun ls hl => ?_)
                      refine lv_iinc (v := (nI (3))) (lv' := [(3, .int (nI (3))), (2, .int (-1)), (0, .int (nI (3))), (1, .int (nI (u)))]) hx hb dX11_isUnder_34 hl (k := 1) rfl (by decide) (by decide) rfl (fun ls hl => ?_)
                      refine lv_goto (tgt := 4) hx hb dX11_isUnder_37 (by decide) ?_
                      refine lv_iload_n hx hb dX11_isUnder_4 rfl (lv_at hl 0 rfl) ?_
                      refine va_gets hx hb hZ hS hown (hts (.fieldLink RX11 372 "CornDesk" "KIND_ABOVE" "[I") (by decide +kernel)) (fun _ h9 => h9) dX11_isUnder_5 ?_
                      refine va_tlen hx hb hTa hS (v := nI 4) rfl dX11_isUnder_8 ?_
                      refine ln_icmp_ge (tgt := 40) hx hb dX11_isUnder_9 (by decide) (by omega) (by omega) (fun c3l => ?_) (fun c3l => ?_)
                      · exact absurd c3l (by decide)
                      · refine lv_iload_n hx hb dX11_isUnder_12 rfl (lv_at hl 1 rfl) ?_
                        refine kq_Si (As := [.int (-1)]) (rest := []) (w := []) (wr := []) ⟨hx, hb, hml, hown, hts⟩ (qX11_isKind l D cy  (-1) ) (cwS 1 hts gX11_isUnder_X11_isKind rfl rfl rfl (by decide +kernel) ⟨Nat.le_of_ble_eq_true rfl, Nat.le_of_ble_eq_true rfl⟩) hP hK hD hN hka hS hA rfl hl.1 rfl (Nat.le_of_ble_eq_true rfl) dX11_isUnder_13 ⟨Nat.le_of_ble_eq_true rfl, Nat.le_of_ble_eq_true rfl⟩ (fun r w1 H locs hq hP hD hS => ?_)
                        obtain ⟨rfl, rfl⟩ := hq
                        have hP : va_P D vwCl ([]) H := hP
                        have hD : va_D A ([]) := hD
                        refine lb_if_ne (tgt := 21) hx hb dX11_isUnder_16 (by decide) (fun c3k => ?_) (fun c3k => ?_)
                        · exact absurd c3k (by decide)
                        · refine lv_iconst (v := (nI (0))) hx hb dX11_isUnder_19 (by decide) ?_
                          exact hret _ _ _ _ _ _ rfl ⟨bI_f' (fun h => by have h : u = 3 ∨ u = 0 ∨ ((3 : Nat) = 3 ∧ u = 1) := h; omega), rfl⟩ hP hD hS dX11_isUnder_20
                    · refine lv_iconst (v := (nI (1))) hx hb dX11_isUnder_26 (by decide) ?_
                      exact hret _ _ _ _ _ _ rfl ⟨bI_t' (show u = 3 ∨ u = 0 ∨ ((3 : Nat) = 3 ∧ u = 1) by omega), rfl⟩ hP hD hS dX11_isUnder_27
                  · exact absurd (show rg 0 3 (nI 0) by decide) c2k
              · refine lv_iconst (v := (nI (1))) hx hb dX11_isUnder_26 (by decide) ?_
                exact hret _ _ _ _ _ _ rfl ⟨bI_t' (show u = 3 ∨ u = 0 ∨ ((3 : Nat) = 3 ∧ u = 1) by omega), rfl⟩ hP hD hS dX11_isUnder_27
            · exact absurd (show rg 0 3 (nI 1) by decide) c1k
        · refine lv_iconst (v := (nI (1))) hx hb dX11_isUnder_26 (by decide) ?_
          exact hret _ _ _ _ _ _ rfl ⟨bI_t' (show u = 3 ∨ u = 0 ∨ ((3 : Nat) = 3 ∧ u = 1) by omega), rfl⟩ hP hD hS dX11_isUnder_27
      · exact absurd (show rg 0 3 (nI 3) by decide) c0k
def mkP (k s g : Nat) : Prop := k ≤ 3 ∧ s ≤ 99 ∧ g ≤ 15 ∧ ((k = 1 ∨ k = 3) → 1 ≤ s) ∧ (¬ (k = 1 ∨ k = 3) → s = 0 ∧ g = 0)
abbrev mkI (k x y : Int32) : Prop := rg 0 3 k ∧ ((k = nI 1 ∨ k = nI 3) → rg 1 99 x ∧ rg 0 15 y) ∧ (¬ (k = nI 1 ∨ k = nI 3) → x = 0 ∧ y = 0)
theorem undr1 {k : Nat} : undr k 1 ↔ (k = 1 ∨ k = 3) := by
  show (1 = k ∨ 1 = 0 ∨ (k = 3 ∧ 1 = 1)) ↔ _
  omega
theorem mk13 {a : Nat} (ha : a ≤ 3) : (nI a = nI 1 ∨ nI a = nI 3) ↔ (a = 1 ∨ a = 3) := by
  constructor
  · rintro (h | h)
    · exact Or.inl (nI_inj8 (by omega) (by decide) h)
    · exact Or.inr (nI_inj8 (by omega) (by decide) h)
  · rintro (rfl | rfl)
    · exact Or.inl rfl
    · exact Or.inr rfl
theorem mkI_no {k x y : Int32} (h : ¬ rg 0 3 k) : ¬ mkI k x y := fun g => h g.1
theorem mkI_r {a : Nat} {x y : Int32} (ha : a ≤ 3) (hr : a = 1 ∨ a = 3) : mkI (nI a) x y ↔ rg 1 99 x ∧ rg 0 15 y :=
  ⟨fun g => g.2.1 ((mk13 ha).mpr hr), fun g => ⟨rg_nI (Nat.zero_le _) ha (by decide), fun _ => g, fun q => absurd ((mk13 ha).mpr hr) q⟩⟩
theorem mkI_n {a : Nat} {x y : Int32} (ha : a ≤ 3) (hr : ¬ (a = 1 ∨ a = 3)) : mkI (nI a) x y ↔ x = 0 ∧ y = 0 :=
  ⟨fun g => g.2.2 (fun q => hr ((mk13 ha).mp q)), fun g => ⟨rg_nI (Nat.zero_le _) ha (by decide), fun q => absurd ((mk13 ha).mp q) hr, fun _ => g⟩⟩
theorem mkI_ex {k x y : Int32} (h : mkI k x y) : ∃ a s g : Nat, (k = nI a ∧ x = nI s ∧ y = nI g) ∧ mkP a s g := by
  obtain ⟨a, _, ha, rfl⟩ := rg_of h.1 (by decide) (by decide)
  by_cases hr : a = 1 ∨ a = 3
  · obtain ⟨h1, h2⟩ := (mkI_r ha hr).mp h
    obtain ⟨s, s1, s2, rfl⟩ := rg_of h1 (by decide) (by decide)
    obtain ⟨g, g1, g2, rfl⟩ := rg_of h2 (by decide) (by decide)
    exact ⟨a, s, g, ⟨rfl, rfl, rfl⟩, ha, s2, g2, fun _ => s1, fun q => absurd hr q⟩
  · obtain ⟨rfl, rfl⟩ := (mkI_n ha hr).mp h
    exact ⟨a, 0, 0, ⟨rfl, rfl, rfl⟩, ha, by decide, by decide, fun q => absurd q hr, fun _ => ⟨rfl, rfl⟩⟩
set_option maxHeartbeats 4000000 in
set_option maxRecDepth 100000 in
theorem qX11_isMarkOf (l : Launch) (D : va_G) (cy : Nat → ClassId)  (v : Int32) (x : Int32) (y : Int32)  : kq_i l D (cT cy) yX11_isMarkOf wsX11_isMarkOf 3 0 0 65 [.int (v), .int (x), .int (y)] ([]) (fun r w1 => r = bI (mkI v x y) ∧ w1 = []) := by
  refine kq_z_of (cc := cX11_isMarkOf) (maxL := 3) (by decide) rfl (Nat.le_of_ble_eq_true rfl) ?_
  intro p e s m args below meth c A Q ls hx hb hts hown hml hnm hN hka hA hP hK hD hS hl hret
  have hown : s.vm.findClass RX11 = some m.cls := hown
  have hl : lv_has ls 3 [(0, .int (v)), (1, .int (x)), (2, .int (y))] := hl
  have hP : va_P D vwCl ([]) s.heap := hP
  refine lv_iload_n hx hb dX11_isMarkOf_0 rfl (lv_at hl 0 rfl) ?_
  refine kq_Si (As := [.int (v)]) (rest := []) (w := []) (wr := []) ⟨hx, hb, hml, hown, hts⟩ (qX11_isKind l D cy  (v) ) (cwS 1 hts gX11_isMarkOf_X11_isKind rfl rfl rfl (by decide +kernel) ⟨Nat.le_of_ble_eq_true rfl, Nat.le_of_ble_eq_true rfl⟩) hP hK hD hN hka hS hA rfl hl.1 rfl (Nat.le_of_ble_eq_true rfl) dX11_isMarkOf_1 ⟨Nat.le_of_ble_eq_true rfl, Nat.le_of_ble_eq_true rfl⟩ (fun r w1 H locs hq hP hD hS => ?_)
  obtain ⟨rfl, rfl⟩ := hq
  have hP : va_P D vwCl ([]) H := hP
  have hD : va_D A ([]) := hD
  refine lb_if_ne (tgt := 9) hx hb dX11_isMarkOf_4 (by decide) (fun c1 => ?_) (fun c1 => ?_)
  · obtain ⟨a, _, ha, rfl⟩ := rg_of c1 (by decide) (by decide)
    refine lv_iload_n hx hb dX11_isMarkOf_9 rfl (lv_at hl 0 rfl) ?_
    refine lv_iconst (v := (nI (1))) hx hb dX11_isMarkOf_10 (by decide) ?_
    refine kq_Si (As := [.int (nI (a)), .int (nI (1))]) (rest := []) (w := []) (wr := []) ⟨hx, hb, hml, hown, hts⟩ (qX11_isUnder l D cy  (a) (1) ha (by decide)) (cwS 2 hts gX11_isMarkOf_X11_isUnder rfl rfl rfl (by decide +kernel) ⟨Nat.le_of_ble_eq_true rfl, Nat.le_of_ble_eq_true rfl⟩) hP hK hD hN hka hS hA rfl hl.1 rfl (Nat.le_of_ble_eq_true rfl) dX11_isMarkOf_11 ⟨Nat.le_of_ble_eq_true rfl, Nat.le_of_ble_eq_true rfl⟩ (fun r w1 H locs hq hP hD hS => ?_)
    obtain ⟨rfl, rfl⟩ := hq
    have hP : va_P D vwCl ([]) H := hP
    have hD : va_D A ([]) := hD
    refine lb_if_eq (tgt := 43) hx hb dX11_isMarkOf_14 (by decide) (fun c2 => ?_) (fun c2 => ?_)
    · have hr := fun q => c2 (undr1.mpr q)
      refine lv_iload_n hx hb dX11_isMarkOf_43 rfl (lv_at hl 1 rfl) ?_
      refine lv_if_ne (tgt := 55) hx hb dX11_isMarkOf_44 (by decide) (fun c3 => ?_) (fun c3 => ?_)
      · refine lv_iconst (v := (nI (0))) hx hb dX11_isMarkOf_55 (by decide) ?_
        exact hret _ _ _ _ _ _ rfl ⟨bI_f' (fun h => c3 ((mkI_n ha hr).mp h).1), rfl⟩ hP hD hS dX11_isMarkOf_56
      · refine lv_iload_n hx hb dX11_isMarkOf_47 rfl (lv_at hl 2 rfl) ?_
        refine lv_if_ne (tgt := 55) hx hb dX11_isMarkOf_48 (by decide) (fun c4 => ?_) (fun c4 => ?_)
        · refine lv_iconst (v := (nI (0))) hx hb dX11_isMarkOf_55 (by decide) ?_
          exact hret _ _ _ _ _ _ rfl ⟨bI_f' (fun h => c4 ((mkI_n ha hr).mp h).2), rfl⟩ hP hD hS dX11_isMarkOf_56
        · refine lv_iconst (v := (nI (1))) hx hb dX11_isMarkOf_51 (by decide) ?_
          refine lv_goto (tgt := 56) hx hb dX11_isMarkOf_52 (by decide) ?_
          exact hret _ _ _ _ _ _ rfl ⟨bI_t' ((mkI_n ha hr).mpr ⟨c3, c4⟩), rfl⟩ hP hD hS dX11_isMarkOf_56
    · have hr := undr1.mp c2
      refine lv_iload_n hx hb dX11_isMarkOf_17 rfl (lv_at hl 1 rfl) ?_
      refine lv_iconst (v := (nI (1))) hx hb dX11_isMarkOf_18 (by decide) ?_
      refine lv_bipush (v := (nI (99))) hx hb dX11_isMarkOf_19 (by decide) ?_
      refine nq_Si (As := [.int (x), .int (nI (1)), .int (nI (99))]) (rest := []) (w := []) (wr := []) ⟨hx, hb, hml, hown, hts⟩ (qX11_isWithin l D cy  (x) (nI (1)) (nI (99)) ) (cwS 3 hts gX11_isMarkOf_X11_isWithin rfl rfl rfl (by decide +kernel) ⟨Nat.le_of_ble_eq_true rfl, Nat.le_of_ble_eq_true rfl⟩) hP hK hD hN hS hA rfl hl.1 rfl (Nat.le_of_ble_eq_true rfl) dX11_isMarkOf_21 ⟨Nat.le_of_ble_eq_true rfl, Nat.le_of_ble_eq_true rfl⟩ (fun r w1 H locs hq hP hD hS => ?_)
      obtain ⟨rfl, rfl⟩ := hq
      have hP : va_P D vwCl ([]) H := hP
      have hD : va_D A ([]) := hD
      refine lb_if_eq (tgt := 41) hx hb dX11_isMarkOf_24 (by decide) (fun c3 => ?_) (fun c3 => ?_)
      · refine lv_iconst (v := (nI (0))) hx hb dX11_isMarkOf_41 (by decide) ?_
        exact hret _ _ _ _ _ _ rfl ⟨bI_f' (fun h => c3 ((mkI_r ha hr).mp h).1), rfl⟩ hP hD hS dX11_isMarkOf_42
      · refine lv_iload_n hx hb dX11_isMarkOf_27 rfl (lv_at hl 2 rfl) ?_
        refine lv_iconst (v := (nI (0))) hx hb dX11_isMarkOf_28 (by decide) ?_
        refine lv_bipush (v := (nI (15))) hx hb dX11_isMarkOf_29 (by decide) ?_
        refine nq_Si (As := [.int (y), .int (nI (0)), .int (nI (15))]) (rest := []) (w := []) (wr := []) ⟨hx, hb, hml, hown, hts⟩ (qX11_isWithin l D cy  (y) (nI (0)) (nI (15)) ) (cwS 3 hts gX11_isMarkOf_X11_isWithin rfl rfl rfl (by decide +kernel) ⟨Nat.le_of_ble_eq_true rfl, Nat.le_of_ble_eq_true rfl⟩) hP hK hD hN hS hA rfl hl.1 rfl (Nat.le_of_ble_eq_true rfl) dX11_isMarkOf_31 ⟨Nat.le_of_ble_eq_true rfl, Nat.le_of_ble_eq_true rfl⟩ (fun r w1 H locs hq hP hD hS => ?_)
        obtain ⟨rfl, rfl⟩ := hq
        have hP : va_P D vwCl ([]) H := hP
        have hD : va_D A ([]) := hD
        refine lb_if_eq (tgt := 41) hx hb dX11_isMarkOf_34 (by decide) (fun c4 => ?_) (fun c4 => ?_)
        · refine lv_iconst (v := (nI (0))) hx hb dX11_isMarkOf_41 (by decide) ?_
          exact hret _ _ _ _ _ _ rfl ⟨bI_f' (fun h => c4 ((mkI_r ha hr).mp h).2), rfl⟩ hP hD hS dX11_isMarkOf_42
        · refine lv_iconst (v := (nI (1))) hx hb dX11_isMarkOf_37 (by decide) ?_
          refine lv_goto (tgt := 42) hx hb dX11_isMarkOf_38 (by decide) ?_
          exact hret _ _ _ _ _ _ rfl ⟨bI_t' ((mkI_r ha hr).mpr ⟨c3, c4⟩), rfl⟩ hP hD hS dX11_isMarkOf_42
  · refine lv_iconst (v := (nI (0))) hx hb dX11_isMarkOf_7 (by decide) ?_
    exact hret _ _ _ _ _ _ rfl ⟨bI_f' (mkI_no c1), rfl⟩ hP hD hS dX11_isMarkOf_8
set_option maxHeartbeats 4000000 in
set_option maxRecDepth 100000 in
theorem qX11_as_y (l : Launch) (D : va_G) (cy : Nat → ClassId) (d0 : Nat) (pA : Nat) (np : Nat) (mA : Nat) (nm : Nat) (go0 : Nat) (m0 : Nat) (fQ : Nat) (nf : Nat) (t0 : Nat) (g0 : Nat) (shA : Nat) (pq : Nat) (fnd : Int64) (MA : Nat → Option Nat) (k0 : Nat) (p0 : Nat) (kd : Nat) (mu : Nat) (mv : Nat) (ms : Nat) (mg : Nat) (i : Nat) (v : Int32) (hi : i < nm) (hcm : nm ≤ 20) (hma : MA i = some k0) (hkd : kd ≤ 3) : kq_l l D (cT cy) yX11_as wsX11_as 3 0 0 65 [.ref (d0), .int (nI (i)), .int (v)] ([(d0, .inr (11, [.ref (pA), .int (nI (np)), .ref (mA), .int (nI (nm)), .ref (go0), .ref (m0), .ref (fQ), .int (nI (nf)), .ref (t0), .ref (g0), .ref (shA), .ref (pq), .long (fnd)])), (mA, .inl (cy 4, 20, .inr (.inr (.inr (.inr MA))))), (k0, .inr (5, [.ref (p0), .int (nI (kd)), .int (nI (mu)), .int (nI (mv)), .int (nI (ms)), .int (nI (mg))]))]) (fun r w1 => (¬ rg 0 3 v ∧ r = -1000000001 ∧ w1 = [(d0, .inr (11, [.ref (pA), .int (nI (np)), .ref (mA), .int (nI (nm)), .ref (go0), .ref (m0), .ref (fQ), .int (nI (nf)), .ref (t0), .ref (g0), .ref (shA), .ref (pq), .long (tol fnd (-1000000001))])), (mA, .inl (cy 4, 20, .inr (.inr (.inr (.inr MA))))), (k0, .inr (5, [.ref (p0), .int (nI (kd)), .int (nI (mu)), .int (nI (mv)), .int (nI (ms)), .int (nI (mg))]))]) ∨ (∃ q : Nat, v = nI q ∧ q ≤ 3 ∧ ((undr kd q ∧ r = (nI i).toInt64 ∧ w1 = [(d0, .inr (11, [.ref (pA), .int (nI (np)), .ref (mA), .int (nI (nm)), .ref (go0), .ref (m0), .ref (fQ), .int (nI (nf)), .ref (t0), .ref (g0), .ref (shA), .ref (pq), .long (fnd)])), (mA, .inl (cy 4, 20, .inr (.inr (.inr (.inr MA))))), (k0, .inr (5, [.ref (p0), .int (nI (kd)), .int (nI (mu)), .int (nI (mv)), .int (nI (ms)), .int (nI (mg))]))]) ∨ (¬ undr kd q ∧ r = -1000000004 ∧ w1 = [(d0, .inr (11, [.ref (pA), .int (nI (np)), .ref (mA), .int (nI (nm)), .ref (go0), .ref (m0), .ref (fQ), .int (nI (nf)), .ref (t0), .ref (g0), .ref (shA), .ref (pq), .long (tol fnd (-1000000004))])), (mA, .inl (cy 4, 20, .inr (.inr (.inr (.inr MA))))), (k0, .inr (5, [.ref (p0), .int (nI (kd)), .int (nI (mu)), .int (nI (mv)), .int (nI (ms)), .int (nI (mg))]))])))) := by
  refine kq_l_of (cc := cX11_as) (maxL := 4) (by decide) rfl (Nat.le_of_ble_eq_true rfl) ?_
  intro p e s m args below meth c A Q ls hx hb hts hown hml hnm hN hka hA hP hK hD hS hl hret
  have hown : s.vm.findClass RX11 = some m.cls := hown
  have hinX5 : ∀ w ∈ u_ws RX5 TX5 6, w ∈ wsX11_as := by decide +kernel
  have hl : lv_has ls 4 [(0, .ref (d0)), (1, .int (nI (i))), (2, .int (v))] := hl
  have hP : va_P D vwCl ([(d0, .inr (11, [.ref (pA), .int (nI (np)), .ref (mA), .int (nI (nm)), .ref (go0), .ref (m0), .ref (fQ), .int (nI (nf)), .ref (t0), .ref (g0), .ref (shA), .ref (pq), .long (fnd)])), (mA, .inl (cy 4, 20, .inr (.inr (.inr (.inr MA))))), (k0, .inr (5, [.ref (p0), .int (nI (kd)), .int (nI (mu)), .int (nI (mv)), .int (nI (ms)), .int (nI (mg))]))]) s.heap := hP
  refine lv_aload_n hx hb dX11_as_0 rfl (lv_at hl 0 rfl) ?_
  refine lv_iload_n hx hb dX11_as_1 rfl (lv_at hl 1 rfl) ?_
  refine nq_Vr (As := [.int (nI (i))]) (rest := []) (w := [(d0, .inr (11, [.ref (pA), .int (nI (np)), .ref (mA), .int (nI (nm)), .ref (go0), .ref (m0), .ref (fQ), .int (nI (nf)), .ref (t0), .ref (g0), .ref (shA), .ref (pq), .long (fnd)])), (mA, .inl (cy 4, 20, .inr (.inr (.inr (.inr MA)))))]) (wr := [(k0, .inr (5, [.ref (p0), .int (nI (kd)), .int (nI (mu)), .int (nI (mv)), .int (nI (ms)), .int (nI (mg))]))]) (ci := 11) (k0 := 0) ⟨hx, hb, hml, hown, hts⟩ (qX11_markAt_y l D cy d0 pA np mA nm go0 m0 fQ nf t0 g0 shA pq fnd MA (i) k0 hi hcm hma) (cwV 1 hts gX11_as_X11_markAt rfl rfl rfl (by decide +kernel) ⟨Nat.le_of_ble_eq_true rfl, Nat.le_of_ble_eq_true rfl⟩) rfl rfl hP hK hD hN hS hA rfl hl.1 rfl (Nat.le_of_ble_eq_true rfl) dX11_as_2 ⟨Nat.le_of_ble_eq_true rfl, Nat.le_of_ble_eq_true rfl⟩ (fun r w1 H locs hq hP hD hS => ?_)
  obtain ⟨rfl, rfl⟩ := hq
  have hP : va_P D vwCl ([(d0, .inr (11, [.ref (pA), .int (nI (np)), .ref (mA), .int (nI (nm)), .ref (go0), .ref (m0), .ref (fQ), .int (nI (nf)), .ref (t0), .ref (g0), .ref (shA), .ref (pq), .long (fnd)])), (mA, .inl (cy 4, 20, .inr (.inr (.inr (.inr MA))))), (k0, .inr (5, [.ref (p0), .int (nI (kd)), .int (nI (mu)), .int (nI (mv)), .int (nI (ms)), .int (nI (mg))]))]) H := hP
  have hD : va_D A ([(d0, .inr (11, [.ref (pA), .int (nI (np)), .ref (mA), .int (nI (nm)), .ref (go0), .ref (m0), .ref (fQ), .int (nI (nf)), .ref (t0), .ref (g0), .ref (shA), .ref (pq), .long (fnd)])), (mA, .inl (cy 4, 20, .inr (.inr (.inr (.inr MA))))), (k0, .inr (5, [.ref (p0), .int (nI (kd)), .int (nI (mu)), .int (nI (mv)), .int (nI (ms)), .int (nI (mg))]))]) := hD
  refine lv_astore_n (lv' := [(3, .ref (k0)), (0, .ref (d0)), (1, .int (nI (i))), (2, .int (v))]) hx hb dX11_as_5 rfl hl (by decide) rfl (fun ls hl => ?_)
  refine lv_aload_n hx hb dX11_as_6 rfl (lv_at hl 0 rfl) ?_
  refine lv_ifnull hx hb dX11_as_7 ?_
  refine lv_iload_n hx hb dX11_as_10 rfl (lv_at hl 3 rfl) ?_
  refine kq_Si (As := [.int (v)]) (rest := []) (w := []) (wr := [(d0, .inr (11, [.ref (pA), .int (nI (np)), .ref (mA), .int (nI (nm)), .ref (go0), .ref (m0), .ref (fQ), .int (nI (nf)), .ref (t0), .ref (g0), .ref (shA), .ref (pq), .long (fnd)])), (mA, .inl (cy 4, 20, .inr (.inr (.inr (.inr MA))))), (k0, .inr (5, [.ref (p0), .int (nI (kd)), .int (nI (mu)), .int (nI (mv)), .int (nI (ms)), .int (nI (mg))]))]) ⟨hx, hb, hml, hown, hts⟩ (qX11_isKind l D cy  (v) ) (cwS 1 hts gX11_as_X11_isKind rfl rfl rfl (by decide +kernel) ⟨Nat.le_of_ble_eq_true rfl, Nat.le_of_ble_eq_true rfl⟩) hP hK hD hN hka hS hA rfl hl.1 rfl (Nat.le_of_ble_eq_true rfl) dX11_as_11 ⟨Nat.le_of_ble_eq_true rfl, Nat.le_of_ble_eq_true rfl⟩ (fun r w1 H locs hq hP hD hS => ?_)
  obtain ⟨rfl, rfl⟩ := hq
  have hP : va_P D vwCl ([(d0, .inr (11, [.ref (pA), .int (nI (np)), .ref (mA), .int (nI (nm)), .ref (go0), .ref (m0), .ref (fQ), .int (nI (nf)), .ref (t0), .ref (g0), .ref (shA), .ref (pq), .long (fnd)])), (mA, .inl (cy 4, 20, .inr (.inr (.inr (.inr MA))))), (k0, .inr (5, [.ref (p0), .int (nI (kd)), .int (nI (mu)), .int (nI (mv)), .int (nI (ms)), .int (nI (mg))]))]) H := hP
  have hD : va_D A ([(d0, .inr (11, [.ref (pA), .int (nI (np)), .ref (mA), .int (nI (nm)), .ref (go0), .ref (m0), .ref (fQ), .int (nI (nf)), .ref (t0), .ref (g0), .ref (shA), .ref (pq), .long (fnd)])), (mA, .inl (cy 4, 20, .inr (.inr (.inr (.inr MA))))), (k0, .inr (5, [.ref (p0), .int (nI (kd)), .int (nI (mu)), .int (nI (mv)), .int (nI (ms)), .int (nI (mg))]))]) := hD
  refine lb_if_ne (tgt := 25) hx hb dX11_as_14 (by decide) (fun c1 => ?_) (fun c1 => ?_)
  · obtain ⟨q, _, hq3, rfl⟩ := rg_of c1 (by decide) (by decide)
    refine lv_aload_n hx hb dX11_as_25 rfl (lv_at hl 0 rfl) ?_
    refine va_getN (D := D) (ci := 5) (v := .int (nI (kd))) (C := RX5) (T := TX5) (N := 6) hx hb hts hinX5 hown hK hP 2 rfl rfl 1 (by decide) (nst_f (a := "CornDesk") (i := 164) (b := "CornDesk$Mark") (n := "kind") (d := "I") (g := "CornDesk") hN (by decide)) (fun _ h9 => h9) rfl dX11_as_26 ?_
    refine lv_iload_n hx hb dX11_as_29 rfl (lv_at hl 3 rfl) ?_
    refine kq_Si (As := [.int (nI (kd)), .int (nI (q))]) (rest := []) (w := []) (wr := [(d0, .inr (11, [.ref (pA), .int (nI (np)), .ref (mA), .int (nI (nm)), .ref (go0), .ref (m0), .ref (fQ), .int (nI (nf)), .ref (t0), .ref (g0), .ref (shA), .ref (pq), .long (fnd)])), (mA, .inl (cy 4, 20, .inr (.inr (.inr (.inr MA))))), (k0, .inr (5, [.ref (p0), .int (nI (kd)), .int (nI (mu)), .int (nI (mv)), .int (nI (ms)), .int (nI (mg))]))]) ⟨hx, hb, hml, hown, hts⟩ (qX11_isUnder l D cy  (kd) (q) hkd hq3) (cwS 2 hts gX11_as_X11_isUnder rfl rfl rfl (by decide +kernel) ⟨Nat.le_of_ble_eq_true rfl, Nat.le_of_ble_eq_true rfl⟩) hP hK hD hN hka hS hA rfl hl.1 rfl (Nat.le_of_ble_eq_true rfl) dX11_as_30 ⟨Nat.le_of_ble_eq_true rfl, Nat.le_of_ble_eq_true rfl⟩ (fun r w1 H locs hq hP hD hS => ?_)
    obtain ⟨rfl, rfl⟩ := hq
    have hP : va_P D vwCl ([(d0, .inr (11, [.ref (pA), .int (nI (np)), .ref (mA), .int (nI (nm)), .ref (go0), .ref (m0), .ref (fQ), .int (nI (nf)), .ref (t0), .ref (g0), .ref (shA), .ref (pq), .long (fnd)])), (mA, .inl (cy 4, 20, .inr (.inr (.inr (.inr MA))))), (k0, .inr (5, [.ref (p0), .int (nI (kd)), .int (nI (mu)), .int (nI (mv)), .int (nI (ms)), .int (nI (mg))]))]) H := hP
    have hD : va_D A ([(d0, .inr (11, [.ref (pA), .int (nI (np)), .ref (mA), .int (nI (nm)), .ref (go0), .ref (m0), .ref (fQ), .int (nI (nf)), .ref (t0), .ref (g0), .ref (shA), .ref (pq), .long (fnd)])), (mA, .inl (cy 4, 20, .inr (.inr (.inr (.inr MA))))), (k0, .inr (5, [.ref (p0), .int (nI (kd)), .int (nI (mu)), .int (nI (mv)), .int (nI (ms)), .int (nI (mg))]))]) := hD
    refine lb_if_eq (tgt := 41) hx hb dX11_as_33 (by decide) (fun c2 => ?_) (fun c2 => ?_)
    · refine lv_aload_n hx hb dX11_as_41 rfl (lv_at hl 1 rfl) ?_
      refine lv_ldc2 (v := (-1000000004)) hx hb hown (hts (.constantLong RX11 171 (-1000000004)) (by decide +kernel)) dX11_as_42 ?_
      refine nq_Vl (As := [.long ((-1000000004))]) (rest := []) (w := [(d0, .inr (11, [.ref (pA), .int (nI (np)), .ref (mA), .int (nI (nm)), .ref (go0), .ref (m0), .ref (fQ), .int (nI (nf)), .ref (t0), .ref (g0), .ref (shA), .ref (pq), .long (fnd)]))]) (wr := [(mA, .inl (cy 4, 20, .inr (.inr (.inr (.inr MA))))), (k0, .inr (5, [.ref (p0), .int (nI (kd)), .int (nI (mu)), .int (nI (mv)), .int (nI (ms)), .int (nI (mg))]))]) (ci := 11) (k0 := 0) ⟨hx, hb, hml, hown, hts⟩ (qX11_told l D cy d0 pA np mA nm go0 m0 fQ nf t0 g0 shA pq fnd ((-1000000004)) ) (cwV 1 hts gX11_as_X11_told rfl rfl rfl (by decide +kernel) ⟨Nat.le_of_ble_eq_true rfl, Nat.le_of_ble_eq_true rfl⟩) rfl rfl hP hK hD hN hS hA rfl hl.1 rfl (Nat.le_of_ble_eq_true rfl) dX11_as_45 ⟨Nat.le_of_ble_eq_true rfl, Nat.le_of_ble_eq_true rfl⟩ (fun r w1 H locs hq hP hD hS => ?_)
      obtain ⟨rfl, rfl⟩ := hq
      have hP : va_P D vwCl ([(d0, .inr (11, [.ref (pA), .int (nI (np)), .ref (mA), .int (nI (nm)), .ref (go0), .ref (m0), .ref (fQ), .int (nI (nf)), .ref (t0), .ref (g0), .ref (shA), .ref (pq), .long (tol fnd (((-1000000004))))])), (mA, .inl (cy 4, 20, .inr (.inr (.inr (.inr MA))))), (k0, .inr (5, [.ref (p0), .int (nI (kd)), .int (nI (mu)), .int (nI (mv)), .int (nI (ms)), .int (nI (mg))]))]) H := hP
      have hD : va_D A ([(d0, .inr (11, [.ref (pA), .int (nI (np)), .ref (mA), .int (nI (nm)), .ref (go0), .ref (m0), .ref (fQ), .int (nI (nf)), .ref (t0), .ref (g0), .ref (shA), .ref (pq), .long (tol fnd (((-1000000004))))])), (mA, .inl (cy 4, 20, .inr (.inr (.inr (.inr MA))))), (k0, .inr (5, [.ref (p0), .int (nI (kd)), .int (nI (mu)), .int (nI (mv)), .int (nI (ms)), .int (nI (mg))]))]) := hD
      exact hret _ _ _ _ _ _ (.inr ⟨q, rfl, hq3, .inr ⟨c2, rfl, rfl⟩⟩) hP hD hS dX11_as_48
    · refine lv_iload_n hx hb dX11_as_36 rfl (lv_at hl 2 rfl) ?_
      refine lv_i2l hx hb dX11_as_37 rfl ?_
      refine lv_goto (tgt := 48) hx hb dX11_as_38 (by decide) ?_
      exact hret _ _ _ _ _ _ (.inr ⟨q, rfl, hq3, .inl ⟨c2, rfl, rfl⟩⟩) hP hD hS dX11_as_48
  · refine lv_aload_n hx hb dX11_as_17 rfl (lv_at hl 1 rfl) ?_
    refine lv_ldc2 (v := (-1000000001)) hx hb hown (hts (.constantLong RX11 94 (-1000000001)) (by decide +kernel)) dX11_as_18 ?_
    refine nq_Vl (As := [.long ((-1000000001))]) (rest := []) (w := [(d0, .inr (11, [.ref (pA), .int (nI (np)), .ref (mA), .int (nI (nm)), .ref (go0), .ref (m0), .ref (fQ), .int (nI (nf)), .ref (t0), .ref (g0), .ref (shA), .ref (pq), .long (fnd)]))]) (wr := [(mA, .inl (cy 4, 20, .inr (.inr (.inr (.inr MA))))), (k0, .inr (5, [.ref (p0), .int (nI (kd)), .int (nI (mu)), .int (nI (mv)), .int (nI (ms)), .int (nI (mg))]))]) (ci := 11) (k0 := 0) ⟨hx, hb, hml, hown, hts⟩ (qX11_told l D cy d0 pA np mA nm go0 m0 fQ nf t0 g0 shA pq fnd ((-1000000001)) ) (cwV 1 hts gX11_as_X11_told rfl rfl rfl (by decide +kernel) ⟨Nat.le_of_ble_eq_true rfl, Nat.le_of_ble_eq_true rfl⟩) rfl rfl hP hK hD hN hS hA rfl hl.1 rfl (Nat.le_of_ble_eq_true rfl) dX11_as_21 ⟨Nat.le_of_ble_eq_true rfl, Nat.le_of_ble_eq_true rfl⟩ (fun r w1 H locs hq hP hD hS => ?_)
    obtain ⟨rfl, rfl⟩ := hq
    have hP : va_P D vwCl ([(d0, .inr (11, [.ref (pA), .int (nI (np)), .ref (mA), .int (nI (nm)), .ref (go0), .ref (m0), .ref (fQ), .int (nI (nf)), .ref (t0), .ref (g0), .ref (shA), .ref (pq), .long (tol fnd (((-1000000001))))])), (mA, .inl (cy 4, 20, .inr (.inr (.inr (.inr MA))))), (k0, .inr (5, [.ref (p0), .int (nI (kd)), .int (nI (mu)), .int (nI (mv)), .int (nI (ms)), .int (nI (mg))]))]) H := hP
    have hD : va_D A ([(d0, .inr (11, [.ref (pA), .int (nI (np)), .ref (mA), .int (nI (nm)), .ref (go0), .ref (m0), .ref (fQ), .int (nI (nf)), .ref (t0), .ref (g0), .ref (shA), .ref (pq), .long (tol fnd (((-1000000001))))])), (mA, .inl (cy 4, 20, .inr (.inr (.inr (.inr MA))))), (k0, .inr (5, [.ref (p0), .int (nI (kd)), .int (nI (mu)), .int (nI (mv)), .int (nI (ms)), .int (nI (mg))]))]) := hD
    exact hret _ _ _ _ _ _ (.inl ⟨c1, rfl, rfl⟩) hP hD hS dX11_as_24
set_option maxHeartbeats 4000000 in
set_option maxRecDepth 100000 in
theorem qX11_mark_y (l : Launch) (D : va_G) (cy : Nat → ClassId) (d0 : Nat) (pA : Nat) (np : Nat) (mA : Nat) (nm : Nat) (go0 : Nat) (m0 : Nat) (fQ : Nat) (nf : Nat) (t0 : Nat) (g0 : Nat) (shA : Nat) (pq : Nat) (fnd : Int64) (PA : Nat → Option Nat) (MA : Nat → Option Nat) (sA0 : Nat) (nx : Nat) (kp : Nat) (SQ : Nat → Option Nat) (s0 : Nat) (ac : Nat) (wh : Nat) (rw0 : Nat) (RW : Nat → Nat) (i : Nat) (k : Int32) (u : Int32) (v : Int32) (x : Int32) (y : Int32) (p0 : Nat) (hi : i < np) (hc : np ≤ 6) (hpa : PA i = some p0) (hx20 : nx < 20) (hk20 : kp ≤ 20) (hs : SQ nx = some s0) (hnm : nm ≤ 20) : kq_l l D (cT cy) yX11_mark wsX11_mark 4 1 6 87 [.ref (d0), .int (nI (i)), .int (k), .int (u), .int (v), .int (x), .int (y)] ([(d0, .inr (11, [.ref (pA), .int (nI (np)), .ref (mA), .int (nI (nm)), .ref (go0), .ref (m0), .ref (fQ), .int (nI (nf)), .ref (t0), .ref (g0), .ref (shA), .ref (pq), .long (fnd)])), (pA, .inl (cy 3, 6, .inr (.inr (.inr (.inr PA))))), (mA, .inl (cy 4, 20, .inr (.inr (.inr (.inr MA))))), (pq, .inr (6, [.ref (sA0), .int (nI (nx)), .int (nI (kp))])), (sA0, .inl (cy 7, 20, .inr (.inr (.inr (.inr SQ))))), (s0, .inr (9, [.int (nI (ac)), .int (nI (wh)), .ref (rw0)])), (rw0, .inl (cy 0, 12, .inl (nA RW)))]) (fun r w1 => (¬ (rg 0 999 u ∧ rg 0 999 v ∧ mkI k x y) ∧ r = -1000000001 ∧ w1 = [(d0, .inr (11, [.ref (pA), .int (nI (np)), .ref (mA), .int (nI (nm)), .ref (go0), .ref (m0), .ref (fQ), .int (nI (nf)), .ref (t0), .ref (g0), .ref (shA), .ref (pq), .long (tol fnd (-1000000001))])), (pA, .inl (cy 3, 6, .inr (.inr (.inr (.inr PA))))), (mA, .inl (cy 4, 20, .inr (.inr (.inr (.inr MA))))), (pq, .inr (6, [.ref (sA0), .int (nI (nx)), .int (nI (kp))])), (sA0, .inl (cy 7, 20, .inr (.inr (.inr (.inr SQ))))), (s0, .inr (9, [.int (nI (ac)), .int (nI (wh)), .ref (rw0)])), (rw0, .inl (cy 0, 12, .inl (nA RW)))]) ∨ (∃ u1 v1 a sz ga : Nat, (u = nI u1 ∧ v = nI v1 ∧ k = nI a ∧ x = nI sz ∧ y = nI ga ∧ u1 ≤ 999 ∧ v1 ≤ 999 ∧ mkP a sz ga) ∧ ((nm = 20 ∧ r = -1000000005 ∧ w1 = [(d0, .inr (11, [.ref (pA), .int (nI (np)), .ref (mA), .int (nI (nm)), .ref (go0), .ref (m0), .ref (fQ), .int (nI (nf)), .ref (t0), .ref (g0), .ref (shA), .ref (pq), .long (tol fnd (-1000000005))])), (pA, .inl (cy 3, 6, .inr (.inr (.inr (.inr PA))))), (mA, .inl (cy 4, 20, .inr (.inr (.inr (.inr MA))))), (pq, .inr (6, [.ref (sA0), .int (nI (nx)), .int (nI (kp))])), (sA0, .inl (cy 7, 20, .inr (.inr (.inr (.inr SQ))))), (s0, .inr (9, [.int (nI (ac)), .int (nI (wh)), .ref (rw0)])), (rw0, .inl (cy 0, 12, .inl (nA RW)))]) ∨ (nm < 20 ∧ r = (nI nm).toInt64 ∧ ∃ q0 : Nat, w1 = [(d0, .inr (11, [.ref (pA), .int (nI (np)), .ref (mA), .int (nI (nm + 1)), .ref (go0), .ref (m0), .ref (fQ), .int (nI (nf)), .ref (t0), .ref (g0), .ref (shA), .ref (pq), .long (fnd)])), (pA, .inl (cy 3, 6, .inr (.inr (.inr (.inr PA))))), (mA, .inl (cy 4, 20, .inr (.inr (.inr (.inr (va_up MA nm (some q0))))))), (pq, .inr (6, [.ref (sA0), .int (nI ((nx + 1) % 20)), .int (nI (min (kp + 1) 20))])), (sA0, .inl (cy 7, 20, .inr (.inr (.inr (.inr SQ))))), (s0, .inr (9, [.int (nI (3)), .int (nI (nm)), .ref (rw0)])), (rw0, .inl (cy 0, 12, .inl (nA RW))), (q0, .inr (5, [.ref (p0), .int (nI (a)), .int (nI (u1)), .int (nI (v1)), .int (nI (sz)), .int (nI (ga))]))])))) := by
  refine kq_l_of (cc := cX11_mark) (maxL := 8) (by decide) rfl (Nat.le_of_ble_eq_true rfl) ?_
  intro p e s m args below meth c A Q ls hx hb hts hown hml hnm hN hka hA hP hK hD hS hl hret
  have hown : s.vm.findClass RX11 = some m.cls := hown
  have hinX11 : ∀ w ∈ u_ws RX11 TX11 13, w ∈ wsX11_mark := by decide +kernel
  have hinX5 : ∀ w ∈ u_ws RX5 TX5 6, w ∈ wsX11_mark := by decide +kernel
  have hl : lv_has ls 8 [(0, .ref (d0)), (1, .int (nI (i))), (2, .int (k)), (3, .int (u)), (4, .int (v)), (5, .int (x)), (6, .int (y))] := hl
  have hP : va_P D vwCl ([(d0, .inr (11, [.ref (pA), .int (nI (np)), .ref (mA), .int (nI (nm)), .ref (go0), .ref (m0), .ref (fQ), .int (nI (nf)), .ref (t0), .ref (g0), .ref (shA), .ref (pq), .long (fnd)])), (pA, .inl (cy 3, 6, .inr (.inr (.inr (.inr PA))))), (mA, .inl (cy 4, 20, .inr (.inr (.inr (.inr MA))))), (pq, .inr (6, [.ref (sA0), .int (nI (nx)), .int (nI (kp))])), (sA0, .inl (cy 7, 20, .inr (.inr (.inr (.inr SQ))))), (s0, .inr (9, [.int (nI (ac)), .int (nI (wh)), .ref (rw0)])), (rw0, .inl (cy 0, 12, .inl (nA RW)))]) s.heap := hP
  refine lv_aload_n hx hb dX11_mark_0 rfl (lv_at hl 0 rfl) ?_
  refine lv_iload_n hx hb dX11_mark_1 rfl (lv_at hl 1 rfl) ?_
  refine nq_Vr (As := [.int (nI (i))]) (rest := []) (w := [(d0, .inr (11, [.ref (pA), .int (nI (np)), .ref (mA), .int (nI (nm)), .ref (go0), .ref (m0), .ref (fQ), .int (nI (nf)), .ref (t0), .ref (g0), .ref (shA), .ref (pq), .long (fnd)])), (pA, .inl (cy 3, 6, .inr (.inr (.inr (.inr PA)))))]) (wr := [(mA, .inl (cy 4, 20, .inr (.inr (.inr (.inr MA))))), (pq, .inr (6, [.ref (sA0), .int (nI (nx)), .int (nI (kp))])), (sA0, .inl (cy 7, 20, .inr (.inr (.inr (.inr SQ))))), (s0, .inr (9, [.int (nI (ac)), .int (nI (wh)), .ref (rw0)])), (rw0, .inl (cy 0, 12, .inl (nA RW)))]) (ci := 11) (k0 := 0) ⟨hx, hb, hml, hown, hts⟩ (qX11_pictureAt_y l D cy d0 pA np mA nm go0 m0 fQ nf t0 g0 shA pq fnd PA (i) p0 hi hc hpa) (cwV 1 hts gX11_mark_X11_pictureAt rfl rfl rfl (by decide +kernel) ⟨Nat.le_of_ble_eq_true rfl, Nat.le_of_ble_eq_true rfl⟩) rfl rfl hP hK hD hN hS hA rfl hl.1 rfl (Nat.le_of_ble_eq_true rfl) dX11_mark_2 ⟨Nat.le_of_ble_eq_true rfl, Nat.le_of_ble_eq_true rfl⟩ (fun r w1 H locs hq hP hD hS => ?_)
  obtain ⟨rfl, rfl⟩ := hq
  have hP : va_P D vwCl ([(d0, .inr (11, [.ref (pA), .int (nI (np)), .ref (mA), .int (nI (nm)), .ref (go0), .ref (m0), .ref (fQ), .int (nI (nf)), .ref (t0), .ref (g0), .ref (shA), .ref (pq), .long (fnd)])), (pA, .inl (cy 3, 6, .inr (.inr (.inr (.inr PA))))), (mA, .inl (cy 4, 20, .inr (.inr (.inr (.inr MA))))), (pq, .inr (6, [.ref (sA0), .int (nI (nx)), .int (nI (kp))])), (sA0, .inl (cy 7, 20, .inr (.inr (.inr (.inr SQ))))), (s0, .inr (9, [.int (nI (ac)), .int (nI (wh)), .ref (rw0)])), (rw0, .inl (cy 0, 12, .inl (nA RW)))]) H := hP
  have hD : va_D A ([(d0, .inr (11, [.ref (pA), .int (nI (np)), .ref (mA), .int (nI (nm)), .ref (go0), .ref (m0), .ref (fQ), .int (nI (nf)), .ref (t0), .ref (g0), .ref (shA), .ref (pq), .long (fnd)])), (pA, .inl (cy 3, 6, .inr (.inr (.inr (.inr PA))))), (mA, .inl (cy 4, 20, .inr (.inr (.inr (.inr MA))))), (pq, .inr (6, [.ref (sA0), .int (nI (nx)), .int (nI (kp))])), (sA0, .inl (cy 7, 20, .inr (.inr (.inr (.inr SQ))))), (s0, .inr (9, [.int (nI (ac)), .int (nI (wh)), .ref (rw0)])), (rw0, .inl (cy 0, 12, .inl (nA RW)))]) := hD
  refine lv_astore (lv' := [(7, .ref (p0)), (0, .ref (d0)), (1, .int (nI (i))), (2, .int (k)), (3, .int (u)), (4, .int (v)), (5, .int (x)), (6, .int (y))]) hx hb dX11_mark_5 hl (by decide) rfl (fun ls hl => ?_)
  refine lv_aload hx hb dX11_mark_7 (lv_at hl 0 rfl) ?_
  refine lv_ifnull hx hb dX11_mark_9 ?_
  refine lv_iload_n hx hb dX11_mark_12 rfl (lv_at hl 4 rfl) ?_
  refine nq_Si (As := [.int (u)]) (rest := []) (w := []) (wr := [(d0, .inr (11, [.ref (pA), .int (nI (np)), .ref (mA), .int (nI (nm)), .ref (go0), .ref (m0), .ref (fQ), .int (nI (nf)), .ref (t0), .ref (g0), .ref (shA), .ref (pq), .long (fnd)])), (pA, .inl (cy 3, 6, .inr (.inr (.inr (.inr PA))))), (mA, .inl (cy 4, 20, .inr (.inr (.inr (.inr MA))))), (pq, .inr (6, [.ref (sA0), .int (nI (nx)), .int (nI (kp))])), (sA0, .inl (cy 7, 20, .inr (.inr (.inr (.inr SQ))))), (s0, .inr (9, [.int (nI (ac)), .int (nI (wh)), .ref (rw0)])), (rw0, .inl (cy 0, 12, .inl (nA RW)))]) ⟨hx, hb, hml, hown, hts⟩ (qX11_isSpot l D cy  (u) ) (cwS 1 hts gX11_mark_X11_isSpot rfl rfl rfl (by decide +kernel) ⟨Nat.le_of_ble_eq_true rfl, Nat.le_of_ble_eq_true rfl⟩) hP hK hD hN hS hA rfl hl.1 rfl (Nat.le_of_ble_eq_true rfl) dX11_mark_13 ⟨Nat.le_of_ble_eq_true rfl, Nat.le_of_ble_eq_true rfl⟩ (fun r w1 H locs hq hP hD hS => ?_)
  obtain ⟨rfl, rfl⟩ := hq
  have hP : va_P D vwCl ([(d0, .inr (11, [.ref (pA), .int (nI (np)), .ref (mA), .int (nI (nm)), .ref (go0), .ref (m0), .ref (fQ), .int (nI (nf)), .ref (t0), .ref (g0), .ref (shA), .ref (pq), .long (fnd)])), (pA, .inl (cy 3, 6, .inr (.inr (.inr (.inr PA))))), (mA, .inl (cy 4, 20, .inr (.inr (.inr (.inr MA))))), (pq, .inr (6, [.ref (sA0), .int (nI (nx)), .int (nI (kp))])), (sA0, .inl (cy 7, 20, .inr (.inr (.inr (.inr SQ))))), (s0, .inr (9, [.int (nI (ac)), .int (nI (wh)), .ref (rw0)])), (rw0, .inl (cy 0, 12, .inl (nA RW)))]) H := hP
  have hD : va_D A ([(d0, .inr (11, [.ref (pA), .int (nI (np)), .ref (mA), .int (nI (nm)), .ref (go0), .ref (m0), .ref (fQ), .int (nI (nf)), .ref (t0), .ref (g0), .ref (shA), .ref (pq), .long (fnd)])), (pA, .inl (cy 3, 6, .inr (.inr (.inr (.inr PA))))), (mA, .inl (cy 4, 20, .inr (.inr (.inr (.inr MA))))), (pq, .inr (6, [.ref (sA0), .int (nI (nx)), .int (nI (kp))])), (sA0, .inl (cy 7, 20, .inr (.inr (.inr (.inr SQ))))), (s0, .inr (9, [.int (nI (ac)), .int (nI (wh)), .ref (rw0)])), (rw0, .inl (cy 0, 12, .inl (nA RW)))]) := hD
  refine lb_if_eq (tgt := 38) hx hb dX11_mark_16 (by decide) (fun c1 => ?_) (fun c1 => ?_)
  · refine lv_aload_n hx hb dX11_mark_38 rfl (lv_at hl 1 rfl) ?_
    refine lv_ldc2 (v := (-1000000001)) hx hb hown (hts (.constantLong RX11 94 (-1000000001)) (by decide +kernel)) dX11_mark_39 ?_
    refine nq_Vl (As := [.long ((-1000000001))]) (rest := []) (w := [(d0, .inr (11, [.ref (pA), .int (nI (np)), .ref (mA), .int (nI (nm)), .ref (go0), .ref (m0), .ref (fQ), .int (nI (nf)), .ref (t0), .ref (g0), .ref (shA), .ref (pq), .long (fnd)]))]) (wr := [(pA, .inl (cy 3, 6, .inr (.inr (.inr (.inr PA))))), (mA, .inl (cy 4, 20, .inr (.inr (.inr (.inr MA))))), (pq, .inr (6, [.ref (sA0), .int (nI (nx)), .int (nI (kp))])), (sA0, .inl (cy 7, 20, .inr (.inr (.inr (.inr SQ))))), (s0, .inr (9, [.int (nI (ac)), .int (nI (wh)), .ref (rw0)])), (rw0, .inl (cy 0, 12, .inl (nA RW)))]) (ci := 11) (k0 := 0) ⟨hx, hb, hml, hown, hts⟩ (qX11_told l D cy d0 pA np mA nm go0 m0 fQ nf t0 g0 shA pq fnd ((-1000000001)) ) (cwV 1 hts gX11_mark_X11_told rfl rfl rfl (by decide +kernel) ⟨Nat.le_of_ble_eq_true rfl, Nat.le_of_ble_eq_true rfl⟩) rfl rfl hP hK hD hN hS hA rfl hl.1 rfl (Nat.le_of_ble_eq_true rfl) dX11_mark_42 ⟨Nat.le_of_ble_eq_true rfl, Nat.le_of_ble_eq_true rfl⟩ (fun r w1 H locs hq hP hD hS => ?_)
    obtain ⟨rfl, rfl⟩ := hq
    have hP : va_P D vwCl ([(d0, .inr (11, [.ref (pA), .int (nI (np)), .ref (mA), .int (nI (nm)), .ref (go0), .ref (m0), .ref (fQ), .int (nI (nf)), .ref (t0), .ref (g0), .ref (shA), .ref (pq), .long (tol fnd (((-1000000001))))])), (pA, .inl (cy 3, 6, .inr (.inr (.inr (.inr PA))))), (mA, .inl (cy 4, 20, .inr (.inr (.inr (.inr MA))))), (pq, .inr (6, [.ref (sA0), .int (nI (nx)), .int (nI (kp))])), (sA0, .inl (cy 7, 20, .inr (.inr (.inr (.inr SQ))))), (s0, .inr (9, [.int (nI (ac)), .int (nI (wh)), .ref (rw0)])), (rw0, .inl (cy 0, 12, .inl (nA RW)))]) H := hP
    have hD : va_D A ([(d0, .inr (11, [.ref (pA), .int (nI (np)), .ref (mA), .int (nI (nm)), .ref (go0), .ref (m0), .ref (fQ), .int (nI (nf)), .ref (t0), .ref (g0), .ref (shA), .ref (pq), .long (tol fnd (((-1000000001))))])), (pA, .inl (cy 3, 6, .inr (.inr (.inr (.inr PA))))), (mA, .inl (cy 4, 20, .inr (.inr (.inr (.inr MA))))), (pq, .inr (6, [.ref (sA0), .int (nI (nx)), .int (nI (kp))])), (sA0, .inl (cy 7, 20, .inr (.inr (.inr (.inr SQ))))), (s0, .inr (9, [.int (nI (ac)), .int (nI (wh)), .ref (rw0)])), (rw0, .inl (cy 0, 12, .inl (nA RW)))]) := hD
    refine W.widen (k := 1) (n := 6) (by decide) (by decide) ?_
    exact hret _ _ _ _ _ _ (.inl ⟨fun h => c1 h.1, rfl, rfl⟩) hP hD hS dX11_mark_45
  · refine lv_iload hx hb dX11_mark_19 (lv_at hl 5 rfl) ?_
    refine nq_Si (As := [.int (v)]) (rest := []) (w := []) (wr := [(d0, .inr (11, [.ref (pA), .int (nI (np)), .ref (mA), .int (nI (nm)), .ref (go0), .ref (m0), .ref (fQ), .int (nI (nf)), .ref (t0), .ref (g0), .ref (shA), .ref (pq), .long (fnd)])), (pA, .inl (cy 3, 6, .inr (.inr (.inr (.inr PA))))), (mA, .inl (cy 4, 20, .inr (.inr (.inr (.inr MA))))), (pq, .inr (6, [.ref (sA0), .int (nI (nx)), .int (nI (kp))])), (sA0, .inl (cy 7, 20, .inr (.inr (.inr (.inr SQ))))), (s0, .inr (9, [.int (nI (ac)), .int (nI (wh)), .ref (rw0)])), (rw0, .inl (cy 0, 12, .inl (nA RW)))]) ⟨hx, hb, hml, hown, hts⟩ (qX11_isSpot l D cy  (v) ) (cwS 1 hts gX11_mark_X11_isSpot rfl rfl rfl (by decide +kernel) ⟨Nat.le_of_ble_eq_true rfl, Nat.le_of_ble_eq_true rfl⟩) hP hK hD hN hS hA rfl hl.1 rfl (Nat.le_of_ble_eq_true rfl) dX11_mark_21 ⟨Nat.le_of_ble_eq_true rfl, Nat.le_of_ble_eq_true rfl⟩ (fun r w1 H locs hq hP hD hS => ?_)
    obtain ⟨rfl, rfl⟩ := hq
    have hP : va_P D vwCl ([(d0, .inr (11, [.ref (pA), .int (nI (np)), .ref (mA), .int (nI (nm)), .ref (go0), .ref (m0), .ref (fQ), .int (nI (nf)), .ref (t0), .ref (g0), .ref (shA), .ref (pq), .long (fnd)])), (pA, .inl (cy 3, 6, .inr (.inr (.inr (.inr PA))))), (mA, .inl (cy 4, 20, .inr (.inr (.inr (.inr MA))))), (pq, .inr (6, [.ref (sA0), .int (nI (nx)), .int (nI (kp))])), (sA0, .inl (cy 7, 20, .inr (.inr (.inr (.inr SQ))))), (s0, .inr (9, [.int (nI (ac)), .int (nI (wh)), .ref (rw0)])), (rw0, .inl (cy 0, 12, .inl (nA RW)))]) H := hP
    have hD : va_D A ([(d0, .inr (11, [.ref (pA), .int (nI (np)), .ref (mA), .int (nI (nm)), .ref (go0), .ref (m0), .ref (fQ), .int (nI (nf)), .ref (t0), .ref (g0), .ref (shA), .ref (pq), .long (fnd)])), (pA, .inl (cy 3, 6, .inr (.inr (.inr (.inr PA))))), (mA, .inl (cy 4, 20, .inr (.inr (.inr (.inr MA))))), (pq, .inr (6, [.ref (sA0), .int (nI (nx)), .int (nI (kp))])), (sA0, .inl (cy 7, 20, .inr (.inr (.inr (.inr SQ))))), (s0, .inr (9, [.int (nI (ac)), .int (nI (wh)), .ref (rw0)])), (rw0, .inl (cy 0, 12, .inl (nA RW)))]) := hD
    refine lb_if_eq (tgt := 38) hx hb dX11_mark_24 (by decide) (fun c2 => ?_) (fun c2 => ?_)
    · refine lv_aload_n hx hb dX11_mark_38 rfl (lv_at hl 1 rfl) ?_
      refine lv_ldc2 (v := (-1000000001)) hx hb hown (hts (.constantLong RX11 94 (-1000000001)) (by decide +kernel)) dX11_mark_39 ?_
      refine nq_Vl (As := [.long ((-1000000001))]) (rest := []) (w := [(d0, .inr (11, [.ref (pA), .int (nI (np)), .ref (mA), .int (nI (nm)), .ref (go0), .ref (m0), .ref (fQ), .int (nI (nf)), .ref (t0), .ref (g0), .ref (shA), .ref (pq), .long (fnd)]))]) (wr := [(pA, .inl (cy 3, 6, .inr (.inr (.inr (.inr PA))))), (mA, .inl (cy 4, 20, .inr (.inr (.inr (.inr MA))))), (pq, .inr (6, [.ref (sA0), .int (nI (nx)), .int (nI (kp))])), (sA0, .inl (cy 7, 20, .inr (.inr (.inr (.inr SQ))))), (s0, .inr (9, [.int (nI (ac)), .int (nI (wh)), .ref (rw0)])), (rw0, .inl (cy 0, 12, .inl (nA RW)))]) (ci := 11) (k0 := 0) ⟨hx, hb, hml, hown, hts⟩ (qX11_told l D cy d0 pA np mA nm go0 m0 fQ nf t0 g0 shA pq fnd ((-1000000001)) ) (cwV 1 hts gX11_mark_X11_told rfl rfl rfl (by decide +kernel) ⟨Nat.le_of_ble_eq_true rfl, Nat.le_of_ble_eq_true rfl⟩) rfl rfl hP hK hD hN hS hA rfl hl.1 rfl (Nat.le_of_ble_eq_true rfl) dX11_mark_42 ⟨Nat.le_of_ble_eq_true rfl, Nat.le_of_ble_eq_true rfl⟩ (fun r w1 H locs hq hP hD hS => ?_)
      obtain ⟨rfl, rfl⟩ := hq
      have hP : va_P D vwCl ([(d0, .inr (11, [.ref (pA), .int (nI (np)), .ref (mA), .int (nI (nm)), .ref (go0), .ref (m0), .ref (fQ), .int (nI (nf)), .ref (t0), .ref (g0), .ref (shA), .ref (pq), .long (tol fnd (((-1000000001))))])), (pA, .inl (cy 3, 6, .inr (.inr (.inr (.inr PA))))), (mA, .inl (cy 4, 20, .inr (.inr (.inr (.inr MA))))), (pq, .inr (6, [.ref (sA0), .int (nI (nx)), .int (nI (kp))])), (sA0, .inl (cy 7, 20, .inr (.inr (.inr (.inr SQ))))), (s0, .inr (9, [.int (nI (ac)), .int (nI (wh)), .ref (rw0)])), (rw0, .inl (cy 0, 12, .inl (nA RW)))]) H := hP
      have hD : va_D A ([(d0, .inr (11, [.ref (pA), .int (nI (np)), .ref (mA), .int (nI (nm)), .ref (go0), .ref (m0), .ref (fQ), .int (nI (nf)), .ref (t0), .ref (g0), .ref (shA), .ref (pq), .long (tol fnd (((-1000000001))))])), (pA, .inl (cy 3, 6, .inr (.inr (.inr (.inr PA))))), (mA, .inl (cy 4, 20, .inr (.inr (.inr (.inr MA))))), (pq, .inr (6, [.ref (sA0), .int (nI (nx)), .int (nI (kp))])), (sA0, .inl (cy 7, 20, .inr (.inr (.inr (.inr SQ))))), (s0, .inr (9, [.int (nI (ac)), .int (nI (wh)), .ref (rw0)])), (rw0, .inl (cy 0, 12, .inl (nA RW)))]) := hD
      refine W.widen (k := 1) (n := 6) (by decide) (by decide) ?_
      exact hret _ _ _ _ _ _ (.inl ⟨fun h => c2 h.2.1, rfl, rfl⟩) hP hD hS dX11_mark_45
    · refine lv_iload_n hx hb dX11_mark_27 rfl (lv_at hl 3 rfl) ?_
      refine lv_iload hx hb dX11_mark_28 (lv_at hl 6 rfl) ?_
      refine lv_iload hx hb dX11_mark_30 (lv_at hl 7 rfl) ?_
      refine kq_Si (As := [.int (k), .int (x), .int (y)]) (rest := []) (w := []) (wr := [(d0, .inr (11, [.ref (pA), .int (nI (np)), .ref (mA), .int (nI (nm)), .ref (go0), .ref (m0), .ref (fQ), .int (nI (nf)), .ref (t0), .ref (g0), .ref (shA), .ref (pq), .long (fnd)])), (pA, .inl (cy 3, 6, .inr (.inr (.inr (.inr PA))))), (mA, .inl (cy 4, 20, .inr (.inr (.inr (.inr MA))))), (pq, .inr (6, [.ref (sA0), .int (nI (nx)), .int (nI (kp))])), (sA0, .inl (cy 7, 20, .inr (.inr (.inr (.inr SQ))))), (s0, .inr (9, [.int (nI (ac)), .int (nI (wh)), .ref (rw0)])), (rw0, .inl (cy 0, 12, .inl (nA RW)))]) ⟨hx, hb, hml, hown, hts⟩ (qX11_isMarkOf l D cy  (k) (x) (y) ) (cwS 3 hts gX11_mark_X11_isMarkOf rfl rfl rfl (by decide +kernel) ⟨Nat.le_of_ble_eq_true rfl, Nat.le_of_ble_eq_true rfl⟩) hP hK hD hN hka hS hA rfl hl.1 rfl (Nat.le_of_ble_eq_true rfl) dX11_mark_32 ⟨Nat.le_of_ble_eq_true rfl, Nat.le_of_ble_eq_true rfl⟩ (fun r w1 H locs hq hP hD hS => ?_)
      obtain ⟨rfl, rfl⟩ := hq
      have hP : va_P D vwCl ([(d0, .inr (11, [.ref (pA), .int (nI (np)), .ref (mA), .int (nI (nm)), .ref (go0), .ref (m0), .ref (fQ), .int (nI (nf)), .ref (t0), .ref (g0), .ref (shA), .ref (pq), .long (fnd)])), (pA, .inl (cy 3, 6, .inr (.inr (.inr (.inr PA))))), (mA, .inl (cy 4, 20, .inr (.inr (.inr (.inr MA))))), (pq, .inr (6, [.ref (sA0), .int (nI (nx)), .int (nI (kp))])), (sA0, .inl (cy 7, 20, .inr (.inr (.inr (.inr SQ))))), (s0, .inr (9, [.int (nI (ac)), .int (nI (wh)), .ref (rw0)])), (rw0, .inl (cy 0, 12, .inl (nA RW)))]) H := hP
      have hD : va_D A ([(d0, .inr (11, [.ref (pA), .int (nI (np)), .ref (mA), .int (nI (nm)), .ref (go0), .ref (m0), .ref (fQ), .int (nI (nf)), .ref (t0), .ref (g0), .ref (shA), .ref (pq), .long (fnd)])), (pA, .inl (cy 3, 6, .inr (.inr (.inr (.inr PA))))), (mA, .inl (cy 4, 20, .inr (.inr (.inr (.inr MA))))), (pq, .inr (6, [.ref (sA0), .int (nI (nx)), .int (nI (kp))])), (sA0, .inl (cy 7, 20, .inr (.inr (.inr (.inr SQ))))), (s0, .inr (9, [.int (nI (ac)), .int (nI (wh)), .ref (rw0)])), (rw0, .inl (cy 0, 12, .inl (nA RW)))]) := hD
      refine lb_if_ne (tgt := 46) hx hb dX11_mark_35 (by decide) (fun c3 => ?_) (fun c3 => ?_)
      · obtain ⟨u1, _, hu1, rfl⟩ := rg_of c1 (by decide) (by decide)
        obtain ⟨v1, _, hv1, rfl⟩ := rg_of c2 (by decide) (by decide)
        obtain ⟨a, sz, ga, ⟨rfl, rfl, rfl⟩, hmk⟩ := mkI_ex c3
        refine lv_aload_n hx hb dX11_mark_46 rfl (lv_at hl 1 rfl) ?_
        refine va_get (D := D) (ci := 11) (v := .int (nI (nm))) (C := RX11) (T := TX11) (N := 13) hx hb hts hinX11 hown hK hP 0 rfl rfl 3 (by decide) (hts (.fieldLink RX11 151 "CornDesk" "markCount" "I") (by decide +kernel)) (fun _ h9 => h9) rfl dX11_mark_47 ?_
        refine lv_bipush (v := (nI (20))) hx hb dX11_mark_50 (by decide) ?_
        refine ln_icmp_lt (tgt := 63) hx hb dX11_mark_52 (by decide) (by omega) (by omega) (fun c4 => ?_) (fun c4 => ?_)
        · refine lv_aload_n hx hb dX11_mark_63 rfl (lv_at hl 1 rfl) ?_
          refine va_get (D := D) (ci := 11) (v := .ref (pq)) (C := RX11) (T := TX11) (N := 13) hx hb hts hinX11 hown hK hP 0 rfl rfl 11 (by decide) (hts (.fieldLink RX11 64 "CornDesk" "past" "LCornDesk$Past;") (by decide +kernel)) (fun _ h9 => h9) rfl dX11_mark_64 ?_
          refine lv_iconst (v := (nI (3))) hx hb dX11_mark_67 (by decide) ?_
          refine lv_aload_n hx hb dX11_mark_68 rfl (lv_at hl 1 rfl) ?_
          refine va_get (D := D) (ci := 11) (v := .int (nI (nm))) (C := RX11) (T := TX11) (N := 13) hx hb hts hinX11 hown hK hP 0 rfl rfl 3 (by decide) (hts (.fieldLink RX11 151 "CornDesk" "markCount" "I") (by decide +kernel)) (fun _ h9 => h9) rfl dX11_mark_69 ?_
          have hP := hP.sub (ws' := [(pq, .inr (6, [.ref (sA0), .int (nI (nx)), .int (nI (kp))])), (sA0, .inl (cy 7, 20, .inr (.inr (.inr (.inr SQ))))), (s0, .inr (9, [.int (nI (ac)), .int (nI (wh)), .ref (rw0)])), (rw0, .inl (cy 0, 12, .inl (nA RW))), (d0, .inr (11, [.ref (pA), .int (nI (np)), .ref (mA), .int (nI (nm)), .ref (go0), .ref (m0), .ref (fQ), .int (nI (nf)), .ref (t0), .ref (g0), .ref (shA), .ref (pq), .long (fnd)])), (pA, .inl (cy 3, 6, .inr (.inr (.inr (.inr PA))))), (mA, .inl (cy 4, 20, .inr (.inr (.inr (.inr MA)))))]) [3, 4, 5, 6, 0, 1, 2] rfl
          have hD := hD.sub (ws' := [(pq, .inr (6, [.ref (sA0), .int (nI (nx)), .int (nI (kp))])), (sA0, .inl (cy 7, 20, .inr (.inr (.inr (.inr SQ))))), (s0, .inr (9, [.int (nI (ac)), .int (nI (wh)), .ref (rw0)])), (rw0, .inl (cy 0, 12, .inl (nA RW))), (d0, .inr (11, [.ref (pA), .int (nI (np)), .ref (mA), .int (nI (nm)), .ref (go0), .ref (m0), .ref (fQ), .int (nI (nf)), .ref (t0), .ref (g0), .ref (shA), .ref (pq), .long (fnd)])), (pA, .inl (cy 3, 6, .inr (.inr (.inr (.inr PA))))), (mA, .inl (cy 4, 20, .inr (.inr (.inr (.inr MA)))))]) [3, 4, 5, 6, 0, 1, 2] (by decide) rfl
          refine nq_Vr (As := [.int (nI (3)), .int (nI (nm))]) (rest := []) (w := [(pq, .inr (6, [.ref (sA0), .int (nI (nx)), .int (nI (kp))])), (sA0, .inl (cy 7, 20, .inr (.inr (.inr (.inr SQ))))), (s0, .inr (9, [.int (nI (ac)), .int (nI (wh)), .ref (rw0)])), (rw0, .inl (cy 0, 12, .inl (nA RW)))]) (wr := [(d0, .inr (11, [.ref (pA), .int (nI (np)), .ref (mA), .int (nI (nm)), .ref (go0), .ref (m0), .ref (fQ), .int (nI (nf)), .ref (t0), .ref (g0), .ref (shA), .ref (pq), .long (fnd)])), (pA, .inl (cy 3, 6, .inr (.inr (.inr (.inr PA))))), (mA, .inl (cy 4, 20, .inr (.inr (.inr (.inr MA)))))]) (ci := 6) (k0 := 0) ⟨hx, hb, hml, hown, hts⟩ (qX6_keep l D cy pq sA0 nx kp SQ s0 ac wh rw0 RW (3) (nm) hx20 hk20 hs) (cwV 2 hts gX11_mark_X6_keep rfl rfl rfl (by decide +kernel) ⟨Nat.le_of_ble_eq_true rfl, Nat.le_of_ble_eq_true rfl⟩) rfl rfl hP hK hD hN hS hA rfl hl.1 rfl (Nat.le_of_ble_eq_true rfl) dX11_mark_72 ⟨Nat.le_of_ble_eq_true rfl, Nat.le_of_ble_eq_true rfl⟩ (fun r w1 H locs hq hP hD hS => ?_)
          obtain ⟨rfl, rfl⟩ := hq
          have hP : va_P D vwCl ([(pq, .inr (6, [.ref (sA0), .int (nI ((nx + 1) % 20)), .int (nI (min (kp + 1) 20))])), (sA0, .inl (cy 7, 20, .inr (.inr (.inr (.inr SQ))))), (s0, .inr (9, [.int (nI (3)), .int (nI (nm)), .ref (rw0)])), (rw0, .inl (cy 0, 12, .inl (nA RW))), (d0, .inr (11, [.ref (pA), .int (nI (np)), .ref (mA), .int (nI (nm)), .ref (go0), .ref (m0), .ref (fQ), .int (nI (nf)), .ref (t0), .ref (g0), .ref (shA), .ref (pq), .long (fnd)])), (pA, .inl (cy 3, 6, .inr (.inr (.inr (.inr PA))))), (mA, .inl (cy 4, 20, .inr (.inr (.inr (.inr MA)))))]) H := hP
          have hD : va_D A ([(pq, .inr (6, [.ref (sA0), .int (nI ((nx + 1) % 20)), .int (nI (min (kp + 1) 20))])), (sA0, .inl (cy 7, 20, .inr (.inr (.inr (.inr SQ))))), (s0, .inr (9, [.int (nI (3)), .int (nI (nm)), .ref (rw0)])), (rw0, .inl (cy 0, 12, .inl (nA RW))), (d0, .inr (11, [.ref (pA), .int (nI (np)), .ref (mA), .int (nI (nm)), .ref (go0), .ref (m0), .ref (fQ), .int (nI (nf)), .ref (t0), .ref (g0), .ref (shA), .ref (pq), .long (fnd)])), (pA, .inl (cy 3, 6, .inr (.inr (.inr (.inr PA))))), (mA, .inl (cy 4, 20, .inr (.inr (.inr (.inr MA)))))]) := hD
          refine lv_pop hx hb dX11_mark_75 rfl ?_
          refine lv_aload_n hx hb dX11_mark_76 rfl (lv_at hl 1 rfl) ?_
          refine va_get (D := D) (ci := 11) (v := .ref (mA)) (C := RX11) (T := TX11) (N := 13) hx hb hts hinX11 hown hK hP 4 rfl rfl 2 (by decide) (hts (.fieldLink RX11 17 "CornDesk" "marks" "[LCornDesk$Mark;") (by decide +kernel)) (fun _ h9 => h9) rfl dX11_mark_77 ?_
          refine lv_aload_n hx hb dX11_mark_80 rfl (lv_at hl 1 rfl) ?_
          refine va_get (D := D) (ci := 11) (v := .int (nI (nm))) (C := RX11) (T := TX11) (N := 13) hx hb hts hinX11 hown hK hP 4 rfl rfl 3 (by decide) (hts (.fieldLink RX11 151 "CornDesk" "markCount" "I") (by decide +kernel)) (fun _ h9 => h9) rfl dX11_mark_81 ?_
          refine va_new (ci := 5) (fs := [.null, .int (nI (0)), .int (nI (0)), .int (nI (0)), .int (nI (0)), .int (nI (0))]) (C := RX5) (T := TX5) (N := 6) hx hb hts hinX5 tyX5 tyX5_ok hown (hts (.classLink RX11 15 RX5) (by decide +kernel)) (hts (.instantiable RX5 6) (by decide +kernel)) (hts (.initialized RX5) (by decide +kernel)) hK hP hD hS hA rfl (fun j hj => by rcases (show j = 0 ∨ j = 1 ∨ j = 2 ∨ j = 3 ∨ j = 4 ∨ j = 5 by omega) with rfl | rfl | rfl | rfl | rfl | rfl <;> rfl) (Nat.le_of_ble_eq_true rfl) (Nat.le_of_ble_eq_true rfl) dX11_mark_84 (fun o_1 H hP hD hS => ?_)
          have hP : va_P D vwCl ([(pq, .inr (6, [.ref (sA0), .int (nI ((nx + 1) % 20)), .int (nI (min (kp + 1) 20))])), (sA0, .inl (cy 7, 20, .inr (.inr (.inr (.inr SQ))))), (s0, .inr (9, [.int (nI (3)), .int (nI (nm)), .ref (rw0)])), (rw0, .inl (cy 0, 12, .inl (nA RW))), (d0, .inr (11, [.ref (pA), .int (nI (np)), .ref (mA), .int (nI (nm)), .ref (go0), .ref (m0), .ref (fQ), .int (nI (nf)), .ref (t0), .ref (g0), .ref (shA), .ref (pq), .long (fnd)])), (pA, .inl (cy 3, 6, .inr (.inr (.inr (.inr PA))))), (mA, .inl (cy 4, 20, .inr (.inr (.inr (.inr MA))))), (o_1, .inr (5, [.null, .int (nI (0)), .int (nI (0)), .int (nI (0)), .int (nI (0)), .int (nI (0))]))]) H := hP
          have hD : va_D A ([(pq, .inr (6, [.ref (sA0), .int (nI ((nx + 1) % 20)), .int (nI (min (kp + 1) 20))])), (sA0, .inl (cy 7, 20, .inr (.inr (.inr (.inr SQ))))), (s0, .inr (9, [.int (nI (3)), .int (nI (nm)), .ref (rw0)])), (rw0, .inl (cy 0, 12, .inl (nA RW))), (d0, .inr (11, [.ref (pA), .int (nI (np)), .ref (mA), .int (nI (nm)), .ref (go0), .ref (m0), .ref (fQ), .int (nI (nf)), .ref (t0), .ref (g0), .ref (shA), .ref (pq), .long (fnd)])), (pA, .inl (cy 3, 6, .inr (.inr (.inr (.inr PA))))), (mA, .inl (cy 4, 20, .inr (.inr (.inr (.inr MA))))), (o_1, .inr (5, [.null, .int (nI (0)), .int (nI (0)), .int (nI (0)), .int (nI (0)), .int (nI (0))]))]) := hD
          refine lv_dup hx hb dX11_mark_87 rfl ?_
          refine lv_aload hx hb dX11_mark_88 (lv_at hl 0 rfl) ?_
          refine lv_iload_n hx hb dX11_mark_90 rfl (lv_at hl 3 rfl) ?_
          refine lv_iload_n hx hb dX11_mark_91 rfl (lv_at hl 4 rfl) ?_
          refine lv_iload hx hb dX11_mark_92 (lv_at hl 5 rfl) ?_
          refine lv_iload hx hb dX11_mark_94 (lv_at hl 6 rfl) ?_
          refine lv_iload hx hb dX11_mark_96 (lv_at hl 7 rfl) ?_
          have hP := hP.sub (ws' := [(o_1, .inr (5, [.null, .int (nI (0)), .int (nI (0)), .int (nI (0)), .int (nI (0)), .int (nI (0))])), (pq, .inr (6, [.ref (sA0), .int (nI ((nx + 1) % 20)), .int (nI (min (kp + 1) 20))])), (sA0, .inl (cy 7, 20, .inr (.inr (.inr (.inr SQ))))), (s0, .inr (9, [.int (nI (3)), .int (nI (nm)), .ref (rw0)])), (rw0, .inl (cy 0, 12, .inl (nA RW))), (d0, .inr (11, [.ref (pA), .int (nI (np)), .ref (mA), .int (nI (nm)), .ref (go0), .ref (m0), .ref (fQ), .int (nI (nf)), .ref (t0), .ref (g0), .ref (shA), .ref (pq), .long (fnd)])), (pA, .inl (cy 3, 6, .inr (.inr (.inr (.inr PA))))), (mA, .inl (cy 4, 20, .inr (.inr (.inr (.inr MA)))))]) [7, 0, 1, 2, 3, 4, 5, 6] rfl
          have hD := hD.sub (ws' := [(o_1, .inr (5, [.null, .int (nI (0)), .int (nI (0)), .int (nI (0)), .int (nI (0)), .int (nI (0))])), (pq, .inr (6, [.ref (sA0), .int (nI ((nx + 1) % 20)), .int (nI (min (kp + 1) 20))])), (sA0, .inl (cy 7, 20, .inr (.inr (.inr (.inr SQ))))), (s0, .inr (9, [.int (nI (3)), .int (nI (nm)), .ref (rw0)])), (rw0, .inl (cy 0, 12, .inl (nA RW))), (d0, .inr (11, [.ref (pA), .int (nI (np)), .ref (mA), .int (nI (nm)), .ref (go0), .ref (m0), .ref (fQ), .int (nI (nf)), .ref (t0), .ref (g0), .ref (shA), .ref (pq), .long (fnd)])), (pA, .inl (cy 3, 6, .inr (.inr (.inr (.inr PA))))), (mA, .inl (cy 4, 20, .inr (.inr (.inr (.inr MA)))))]) [7, 0, 1, 2, 3, 4, 5, 6] (by decide) rfl
          refine nq_Iv (As := [.ref (p0), .int (nI (a)), .int (nI (u1)), .int (nI (v1)), .int (nI (sz)), .int (nI (ga))]) (rest := [.ref (o_1), .int (nI (nm)), .ref (mA)]) (w := [(o_1, .inr (5, [.null, .int (nI (0)), .int (nI (0)), .int (nI (0)), .int (nI (0)), .int (nI (0))]))]) (wr := [(pq, .inr (6, [.ref (sA0), .int (nI ((nx + 1) % 20)), .int (nI (min (kp + 1) 20))])), (sA0, .inl (cy 7, 20, .inr (.inr (.inr (.inr SQ))))), (s0, .inr (9, [.int (nI (3)), .int (nI (nm)), .ref (rw0)])), (rw0, .inl (cy 0, 12, .inl (nA RW))), (d0, .inr (11, [.ref (pA), .int (nI (np)), .ref (mA), .int (nI (nm)), .ref (go0), .ref (m0), .ref (fQ), .int (nI (nf)), .ref (t0), .ref (g0), .ref (shA), .ref (pq), .long (fnd)])), (pA, .inl (cy 3, 6, .inr (.inr (.inr (.inr PA))))), (mA, .inl (cy 4, 20, .inr (.inr (.inr (.inr MA)))))]) ⟨hx, hb, hml, hown, hts⟩ (qX5_init l D cy o_1 p0 (a) (u1) (v1) (sz) (ga) ) (cwI 6 hts ggX11_mark_X5_init rfl rfl rfl (hts (.initialized RX5) (by decide +kernel)) (hts (.methodLink RX11 154 yX5_init) (by decide +kernel)) (hts (.instanceMethod yX5_init) (by decide +kernel)) rfl (by decide +kernel) ⟨Nat.le_of_ble_eq_true rfl, Nat.le_of_ble_eq_true rfl⟩) hP hK hD hN hS hA rfl hl.1 rfl (Nat.le_of_ble_eq_true rfl) dX11_mark_98 ⟨Nat.le_of_ble_eq_true rfl, Nat.le_of_ble_eq_true rfl⟩ (fun w1 H locs hq hP hD hS => ?_)
          subst hq
          have hP : va_P D vwCl ([(o_1, .inr (5, [.ref (p0), .int (nI (a)), .int (nI (u1)), .int (nI (v1)), .int (nI (sz)), .int (nI (ga))])), (pq, .inr (6, [.ref (sA0), .int (nI ((nx + 1) % 20)), .int (nI (min (kp + 1) 20))])), (sA0, .inl (cy 7, 20, .inr (.inr (.inr (.inr SQ))))), (s0, .inr (9, [.int (nI (3)), .int (nI (nm)), .ref (rw0)])), (rw0, .inl (cy 0, 12, .inl (nA RW))), (d0, .inr (11, [.ref (pA), .int (nI (np)), .ref (mA), .int (nI (nm)), .ref (go0), .ref (m0), .ref (fQ), .int (nI (nf)), .ref (t0), .ref (g0), .ref (shA), .ref (pq), .long (fnd)])), (pA, .inl (cy 3, 6, .inr (.inr (.inr (.inr PA))))), (mA, .inl (cy 4, 20, .inr (.inr (.inr (.inr MA)))))]) H := hP
          have hD : va_D A ([(o_1, .inr (5, [.ref (p0), .int (nI (a)), .int (nI (u1)), .int (nI (v1)), .int (nI (sz)), .int (nI (ga))])), (pq, .inr (6, [.ref (sA0), .int (nI ((nx + 1) % 20)), .int (nI (min (kp + 1) 20))])), (sA0, .inl (cy 7, 20, .inr (.inr (.inr (.inr SQ))))), (s0, .inr (9, [.int (nI (3)), .int (nI (nm)), .ref (rw0)])), (rw0, .inl (cy 0, 12, .inl (nA RW))), (d0, .inr (11, [.ref (pA), .int (nI (np)), .ref (mA), .int (nI (nm)), .ref (go0), .ref (m0), .ref (fQ), .int (nI (nf)), .ref (t0), .ref (g0), .ref (shA), .ref (pq), .long (fnd)])), (pA, .inl (cy 3, 6, .inr (.inr (.inr (.inr PA))))), (mA, .inl (cy 4, 20, .inr (.inr (.inr (.inr MA)))))]) := hD
          refine ln_aast hx hb hK hP hD hS 7 4 0 5 rfl rfl rfl rfl (by decide) (by omega) dX11_mark_101 (fun H locs hP hD hS => ?_)
          have hP : va_P D vwCl ([(o_1, .inr (5, [.ref (p0), .int (nI (a)), .int (nI (u1)), .int (nI (v1)), .int (nI (sz)), .int (nI (ga))])), (pq, .inr (6, [.ref (sA0), .int (nI ((nx + 1) % 20)), .int (nI (min (kp + 1) 20))])), (sA0, .inl (cy 7, 20, .inr (.inr (.inr (.inr SQ))))), (s0, .inr (9, [.int (nI (3)), .int (nI (nm)), .ref (rw0)])), (rw0, .inl (cy 0, 12, .inl (nA RW))), (d0, .inr (11, [.ref (pA), .int (nI (np)), .ref (mA), .int (nI (nm)), .ref (go0), .ref (m0), .ref (fQ), .int (nI (nf)), .ref (t0), .ref (g0), .ref (shA), .ref (pq), .long (fnd)])), (pA, .inl (cy 3, 6, .inr (.inr (.inr (.inr PA))))), (mA, .inl (cy 4, 20, .inr (.inr (.inr (.inr (va_up MA (nm) (some (o_1))))))))]) H := hP
          have hD : va_D A ([(o_1, .inr (5, [.ref (p0), .int (nI (a)), .int (nI (u1)), .int (nI (v1)), .int (nI (sz)), .int (nI (ga))])), (pq, .inr (6, [.ref (sA0), .int (nI ((nx + 1) % 20)), .int (nI (min (kp + 1) 20))])), (sA0, .inl (cy 7, 20, .inr (.inr (.inr (.inr SQ))))), (s0, .inr (9, [.int (nI (3)), .int (nI (nm)), .ref (rw0)])), (rw0, .inl (cy 0, 12, .inl (nA RW))), (d0, .inr (11, [.ref (pA), .int (nI (np)), .ref (mA), .int (nI (nm)), .ref (go0), .ref (m0), .ref (fQ), .int (nI (nf)), .ref (t0), .ref (g0), .ref (shA), .ref (pq), .long (fnd)])), (pA, .inl (cy 3, 6, .inr (.inr (.inr (.inr PA))))), (mA, .inl (cy 4, 20, .inr (.inr (.inr (.inr (va_up MA (nm) (some (o_1))))))))]) := hD
          refine lv_aload_n hx hb dX11_mark_102 rfl (lv_at hl 1 rfl) ?_
          refine lv_dup hx hb dX11_mark_103 rfl ?_
          refine va_get (D := D) (ci := 11) (v := .int (nI (nm))) (C := RX11) (T := TX11) (N := 13) hx hb hts hinX11 hown hK hP 5 rfl rfl 3 (by decide) (hts (.fieldLink RX11 151 "CornDesk" "markCount" "I") (by decide +kernel)) (fun _ h9 => h9) rfl dX11_mark_104 ?_
          refine lv_iconst (v := (nI (1))) hx hb dX11_mark_107 (by decide) ?_
          refine ln_iadd hx hb dX11_mark_108 ?_
          refine va_put (D := D) (ci := 11) (v := .int (nI (nm + 1))) (ty := .int) (C := RX11) (T := TX11) (N := 13) hx hb hts hinX11 tyX11 tyX11_ok nmX11 hown hK hP hD hS 5 rfl rfl 3 (by decide) (hts (.fieldLink RX11 151 "CornDesk" "markCount" "I") (by decide +kernel)) (fun _ h9 => h9) rfl (by decide +kernel) rfl rfl (Nat.le_of_ble_eq_true rfl) dX11_mark_109 (fun H locs hP hD hS => ?_)
          have hP : va_P D vwCl ([(o_1, .inr (5, [.ref (p0), .int (nI (a)), .int (nI (u1)), .int (nI (v1)), .int (nI (sz)), .int (nI (ga))])), (pq, .inr (6, [.ref (sA0), .int (nI ((nx + 1) % 20)), .int (nI (min (kp + 1) 20))])), (sA0, .inl (cy 7, 20, .inr (.inr (.inr (.inr SQ))))), (s0, .inr (9, [.int (nI (3)), .int (nI (nm)), .ref (rw0)])), (rw0, .inl (cy 0, 12, .inl (nA RW))), (d0, .inr (11, [.ref (pA), .int (nI (np)), .ref (mA), .int (nI (nm + 1)), .ref (go0), .ref (m0), .ref (fQ), .int (nI (nf)), .ref (t0), .ref (g0), .ref (shA), .ref (pq), .long (fnd)])), (pA, .inl (cy 3, 6, .inr (.inr (.inr (.inr PA))))), (mA, .inl (cy 4, 20, .inr (.inr (.inr (.inr (va_up MA (nm) (some (o_1))))))))]) H := hP
          have hD : va_D A ([(o_1, .inr (5, [.ref (p0), .int (nI (a)), .int (nI (u1)), .int (nI (v1)), .int (nI (sz)), .int (nI (ga))])), (pq, .inr (6, [.ref (sA0), .int (nI ((nx + 1) % 20)), .int (nI (min (kp + 1) 20))])), (sA0, .inl (cy 7, 20, .inr (.inr (.inr (.inr SQ))))), (s0, .inr (9, [.int (nI (3)), .int (nI (nm)), .ref (rw0)])), (rw0, .inl (cy 0, 12, .inl (nA RW))), (d0, .inr (11, [.ref (pA), .int (nI (np)), .ref (mA), .int (nI (nm + 1)), .ref (go0), .ref (m0), .ref (fQ), .int (nI (nf)), .ref (t0), .ref (g0), .ref (shA), .ref (pq), .long (fnd)])), (pA, .inl (cy 3, 6, .inr (.inr (.inr (.inr PA))))), (mA, .inl (cy 4, 20, .inr (.inr (.inr (.inr (va_up MA (nm) (some (o_1))))))))]) := hD
          refine lv_aload_n hx hb dX11_mark_112 rfl (lv_at hl 1 rfl) ?_
          refine va_get (D := D) (ci := 11) (v := .int (nI (nm + 1))) (C := RX11) (T := TX11) (N := 13) hx hb hts hinX11 hown hK hP 5 rfl rfl 3 (by decide) (hts (.fieldLink RX11 151 "CornDesk" "markCount" "I") (by decide +kernel)) (fun _ h9 => h9) rfl dX11_mark_113 ?_
          refine lv_iconst (v := (nI (1))) hx hb dX11_mark_116 (by decide) ?_
          refine ln_isub hx hb dX11_mark_117 (by omega) ?_
          refine lv_i2l hx hb dX11_mark_118 rfl ?_
          refine ln_eql (y := ((nI nm).toInt64)) (by rw [show nm + 1 - 1 = nm from rfl]) ?_
          have hP := hP.sub (ws' := [(d0, .inr (11, [.ref (pA), .int (nI (np)), .ref (mA), .int (nI (nm + 1)), .ref (go0), .ref (m0), .ref (fQ), .int (nI (nf)), .ref (t0), .ref (g0), .ref (shA), .ref (pq), .long (fnd)])), (pA, .inl (cy 3, 6, .inr (.inr (.inr (.inr PA))))), (mA, .inl (cy 4, 20, .inr (.inr (.inr (.inr (va_up MA (nm) (some (o_1)))))))), (pq, .inr (6, [.ref (sA0), .int (nI ((nx + 1) % 20)), .int (nI (min (kp + 1) 20))])), (sA0, .inl (cy 7, 20, .inr (.inr (.inr (.inr SQ))))), (s0, .inr (9, [.int (nI (3)), .int (nI (nm)), .ref (rw0)])), (rw0, .inl (cy 0, 12, .inl (nA RW))), (o_1, .inr (5, [.ref (p0), .int (nI (a)), .int (nI (u1)), .int (nI (v1)), .int (nI (sz)), .int (nI (ga))]))]) [5, 6, 7, 1, 2, 3, 4, 0] rfl
          have hD := hD.sub (ws' := [(d0, .inr (11, [.ref (pA), .int (nI (np)), .ref (mA), .int (nI (nm + 1)), .ref (go0), .ref (m0), .ref (fQ), .int (nI (nf)), .ref (t0), .ref (g0), .ref (shA), .ref (pq), .long (fnd)])), (pA, .inl (cy 3, 6, .inr (.inr (.inr (.inr PA))))), (mA, .inl (cy 4, 20, .inr (.inr (.inr (.inr (va_up MA (nm) (some (o_1)))))))), (pq, .inr (6, [.ref (sA0), .int (nI ((nx + 1) % 20)), .int (nI (min (kp + 1) 20))])), (sA0, .inl (cy 7, 20, .inr (.inr (.inr (.inr SQ))))), (s0, .inr (9, [.int (nI (3)), .int (nI (nm)), .ref (rw0)])), (rw0, .inl (cy 0, 12, .inl (nA RW))), (o_1, .inr (5, [.ref (p0), .int (nI (a)), .int (nI (u1)), .int (nI (v1)), .int (nI (sz)), .int (nI (ga))]))]) [5, 6, 7, 1, 2, 3, 4, 0] (by decide) rfl
          exact hret _ _ _ _ _ _ (.inr ⟨u1, v1, a, sz, ga, ⟨rfl, rfl, rfl, rfl, rfl, hu1, hv1, hmk⟩, .inr ⟨c4, rfl, o_1, rfl⟩⟩) hP hD hS dX11_mark_119
        · refine lv_aload_n hx hb dX11_mark_55 rfl (lv_at hl 1 rfl) ?_
          refine lv_ldc2 (v := (-1000000005)) hx hb hown (hts (.constantLong RX11 73 (-1000000005)) (by decide +kernel)) dX11_mark_56 ?_
          refine nq_Vl (As := [.long ((-1000000005))]) (rest := []) (w := [(d0, .inr (11, [.ref (pA), .int (nI (np)), .ref (mA), .int (nI (nm)), .ref (go0), .ref (m0), .ref (fQ), .int (nI (nf)), .ref (t0), .ref (g0), .ref (shA), .ref (pq), .long (fnd)]))]) (wr := [(pA, .inl (cy 3, 6, .inr (.inr (.inr (.inr PA))))), (mA, .inl (cy 4, 20, .inr (.inr (.inr (.inr MA))))), (pq, .inr (6, [.ref (sA0), .int (nI (nx)), .int (nI (kp))])), (sA0, .inl (cy 7, 20, .inr (.inr (.inr (.inr SQ))))), (s0, .inr (9, [.int (nI (ac)), .int (nI (wh)), .ref (rw0)])), (rw0, .inl (cy 0, 12, .inl (nA RW)))]) (ci := 11) (k0 := 0) ⟨hx, hb, hml, hown, hts⟩ (qX11_told l D cy d0 pA np mA nm go0 m0 fQ nf t0 g0 shA pq fnd ((-1000000005)) ) (cwV 1 hts gX11_mark_X11_told rfl rfl rfl (by decide +kernel) ⟨Nat.le_of_ble_eq_true rfl, Nat.le_of_ble_eq_true rfl⟩) rfl rfl hP hK hD hN hS hA rfl hl.1 rfl (Nat.le_of_ble_eq_true rfl) dX11_mark_59 ⟨Nat.le_of_ble_eq_true rfl, Nat.le_of_ble_eq_true rfl⟩ (fun r w1 H locs hq hP hD hS => ?_)
          obtain ⟨rfl, rfl⟩ := hq
          have hP : va_P D vwCl ([(d0, .inr (11, [.ref (pA), .int (nI (np)), .ref (mA), .int (nI (nm)), .ref (go0), .ref (m0), .ref (fQ), .int (nI (nf)), .ref (t0), .ref (g0), .ref (shA), .ref (pq), .long (tol fnd (((-1000000005))))])), (pA, .inl (cy 3, 6, .inr (.inr (.inr (.inr PA))))), (mA, .inl (cy 4, 20, .inr (.inr (.inr (.inr MA))))), (pq, .inr (6, [.ref (sA0), .int (nI (nx)), .int (nI (kp))])), (sA0, .inl (cy 7, 20, .inr (.inr (.inr (.inr SQ))))), (s0, .inr (9, [.int (nI (ac)), .int (nI (wh)), .ref (rw0)])), (rw0, .inl (cy 0, 12, .inl (nA RW)))]) H := hP
          have hD : va_D A ([(d0, .inr (11, [.ref (pA), .int (nI (np)), .ref (mA), .int (nI (nm)), .ref (go0), .ref (m0), .ref (fQ), .int (nI (nf)), .ref (t0), .ref (g0), .ref (shA), .ref (pq), .long (tol fnd (((-1000000005))))])), (pA, .inl (cy 3, 6, .inr (.inr (.inr (.inr PA))))), (mA, .inl (cy 4, 20, .inr (.inr (.inr (.inr MA))))), (pq, .inr (6, [.ref (sA0), .int (nI (nx)), .int (nI (kp))])), (sA0, .inl (cy 7, 20, .inr (.inr (.inr (.inr SQ))))), (s0, .inr (9, [.int (nI (ac)), .int (nI (wh)), .ref (rw0)])), (rw0, .inl (cy 0, 12, .inl (nA RW)))]) := hD
          refine W.widen (k := 1) (n := 6) (by decide) (by decide) ?_
          exact hret _ _ _ _ _ _ (.inr ⟨u1, v1, a, sz, ga, ⟨rfl, rfl, rfl, rfl, rfl, hu1, hv1, hmk⟩, .inl ⟨by omega, rfl, rfl⟩⟩) hP hD hS dX11_mark_62
      · refine lv_aload_n hx hb dX11_mark_38 rfl (lv_at hl 1 rfl) ?_
        refine lv_ldc2 (v := (-1000000001)) hx hb hown (hts (.constantLong RX11 94 (-1000000001)) (by decide +kernel)) dX11_mark_39 ?_
        refine nq_Vl (As := [.long ((-1000000001))]) (rest := []) (w := [(d0, .inr (11, [.ref (pA), .int (nI (np)), .ref (mA), .int (nI (nm)), .ref (go0), .ref (m0), .ref (fQ), .int (nI (nf)), .ref (t0), .ref (g0), .ref (shA), .ref (pq), .long (fnd)]))]) (wr := [(pA, .inl (cy 3, 6, .inr (.inr (.inr (.inr PA))))), (mA, .inl (cy 4, 20, .inr (.inr (.inr (.inr MA))))), (pq, .inr (6, [.ref (sA0), .int (nI (nx)), .int (nI (kp))])), (sA0, .inl (cy 7, 20, .inr (.inr (.inr (.inr SQ))))), (s0, .inr (9, [.int (nI (ac)), .int (nI (wh)), .ref (rw0)])), (rw0, .inl (cy 0, 12, .inl (nA RW)))]) (ci := 11) (k0 := 0) ⟨hx, hb, hml, hown, hts⟩ (qX11_told l D cy d0 pA np mA nm go0 m0 fQ nf t0 g0 shA pq fnd ((-1000000001)) ) (cwV 1 hts gX11_mark_X11_told rfl rfl rfl (by decide +kernel) ⟨Nat.le_of_ble_eq_true rfl, Nat.le_of_ble_eq_true rfl⟩) rfl rfl hP hK hD hN hS hA rfl hl.1 rfl (Nat.le_of_ble_eq_true rfl) dX11_mark_42 ⟨Nat.le_of_ble_eq_true rfl, Nat.le_of_ble_eq_true rfl⟩ (fun r w1 H locs hq hP hD hS => ?_)
        obtain ⟨rfl, rfl⟩ := hq
        have hP : va_P D vwCl ([(d0, .inr (11, [.ref (pA), .int (nI (np)), .ref (mA), .int (nI (nm)), .ref (go0), .ref (m0), .ref (fQ), .int (nI (nf)), .ref (t0), .ref (g0), .ref (shA), .ref (pq), .long (tol fnd (((-1000000001))))])), (pA, .inl (cy 3, 6, .inr (.inr (.inr (.inr PA))))), (mA, .inl (cy 4, 20, .inr (.inr (.inr (.inr MA))))), (pq, .inr (6, [.ref (sA0), .int (nI (nx)), .int (nI (kp))])), (sA0, .inl (cy 7, 20, .inr (.inr (.inr (.inr SQ))))), (s0, .inr (9, [.int (nI (ac)), .int (nI (wh)), .ref (rw0)])), (rw0, .inl (cy 0, 12, .inl (nA RW)))]) H := hP
        have hD : va_D A ([(d0, .inr (11, [.ref (pA), .int (nI (np)), .ref (mA), .int (nI (nm)), .ref (go0), .ref (m0), .ref (fQ), .int (nI (nf)), .ref (t0), .ref (g0), .ref (shA), .ref (pq), .long (tol fnd (((-1000000001))))])), (pA, .inl (cy 3, 6, .inr (.inr (.inr (.inr PA))))), (mA, .inl (cy 4, 20, .inr (.inr (.inr (.inr MA))))), (pq, .inr (6, [.ref (sA0), .int (nI (nx)), .int (nI (kp))])), (sA0, .inl (cy 7, 20, .inr (.inr (.inr (.inr SQ))))), (s0, .inr (9, [.int (nI (ac)), .int (nI (wh)), .ref (rw0)])), (rw0, .inl (cy 0, 12, .inl (nA RW)))]) := hD
        refine W.widen (k := 1) (n := 6) (by decide) (by decide) ?_
        exact hret _ _ _ _ _ _ (.inl ⟨fun h => c3 h.2.2, rfl, rfl⟩) hP hD hS dX11_mark_45
