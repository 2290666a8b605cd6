/-- a MARK's numbers -/
abbrev mkN (np i k u v s g : Nat) : Prop := i < np ∧ k ≤ 3 ∧ u ≤ 999 ∧ v ≤ 999 ∧ s ≤ 99 ∧ g ≤ 15 ∧ ((k = 1 ∨ k = 3) → 1 ≤ s) ∧ (¬ (k = 1 ∨ k = 3) → s = 0 ∧ g = 0)
theorem nI_of0 {x : Int32} (h : x = 0) : x = nI 0 := h
set_option maxHeartbeats 4000000 in
set_option maxRecDepth 100000 in
theorem cM_mark (l : Launch) (D : va_G) (ad : Nat → Nat) (cI cJ : ClassId) (a kp bt sz : Nat → Nat) (sheets : Nat → Int32) (go ro : Nat → Nat) (car : Nat → Int32) (ke km fi gm bs bu : Nat) (n1 n2 n3 n4 n5 n6 n7 : Int64) (px py db : Nat → Int64) (pi : Int32) (ki : Int32) (u : Int32) (v : Int32) (si : Int32) (ga : Int32) (h0 : a 0 ≤ 6) (h1 : a 1 ≤ 20) (he : ke < 20) (hm : km ≤ 20) : mq_l l D (mT cI cJ) yX12_mark wsX12_mark 2 0 0 43 [.ref (ad 0), .int (pi), .int (ki), .int (u), .int (v), .int (si), .int (ga)] (mW ad cI cJ a kp bt sz sheets go ro car ke km fi gm bs bu n1 n2 n3 n4 n5 n6 n7 px py db) (fun r w1 => ((¬ ∃ i k u' v' s' g' : Nat, (pi = nI i ∧ ki = nI k ∧ u = nI u' ∧ v = nI v' ∧ si = nI s' ∧ ga = nI g') ∧ mkN (a 0) i k u' v' s' g') ∧ r = -1000000001 ∧ w1 = mW ad cI cJ a kp bt sz sheets go ro car ke km (fi + 1) gm bs bu n1 n2 n3 n4 n5 n6 n7 px py db) ∨ (∃ i k u' v' s' g' : Nat, (pi = nI i ∧ ki = nI k ∧ u = nI u' ∧ v = nI v' ∧ si = nI s' ∧ ga = nI g') ∧ mkN (a 0) i k u' v' s' g' ∧ ((a 1 = 20 ∧ r = -1000000005 ∧ w1 = mW ad cI cJ a kp bt sz sheets go ro car ke km (fi + 1) gm bs bu n1 n2 n3 n4 n5 n6 n7 px py db) ∨ (a 1 < 20 ∧ r = (nI (a 1)).toInt64 ∧ w1 = mW ad cI cJ ((upN (upN (upN (upN (upN (upN (upN a (202 + 6 * a 1) i) (202 + 6 * a 1 + 1) k) (202 + 6 * a 1 + 2) u') (202 + 6 * a 1 + 3) v') (202 + 6 * a 1 + 4) s') (202 + 6 * a 1 + 5) g') 1 (a 1 + 1))) (cpN kp a (598 * ke) 598) bt sz sheets go ro car ((ke + 1) % 20) (kmU km) fi gm bs bu n1 n2 n3 n4 n5 n6 n7 px py db)))) := by
  refine mq_l_of (cc := cX12_mark) (maxL := 8) (by decide) rfl (Nat.le_of_ble_eq_true rfl) ?_
  intro p e s m args below meth c A Q ls hx hb hts hown hml hnm hA hP hK hD hS hl hret
  have hown : s.vm.findClass RX12 = some m.cls := hown
  have hinX12 : ∀ w ∈ u_ws RX12 TX12 24, w ∈ wsX12_mark := by decide +kernel
  have hl : lv_has ls 8 [(0, .ref (ad 0)), (1, .int (pi)), (2, .int (ki)), (3, .int (u)), (4, .int (v)), (5, .int (si)), (6, .int (ga))] := hl
  refine lv_aload_n hx hb dX12_mark_0 rfl (lv_at hl 0 rfl) ?_
  refine lv_iload_n hx hb dX12_mark_1 rfl (lv_at hl 1 rfl) ?_
  refine mq_Vi (As := [.int (pi)]) (rest := []) (ci := 12) (k0 := 0) ⟨hx, hb, hml, hown, hts⟩ (cM_isPicture l D ad cI cJ a kp bt sz sheets go ro car ke km fi gm bs bu n1 n2 n3 n4 n5 n6 n7 px py db (pi) (by omega)) (cwV 1 hts gX12_mark_X12_isPicture rfl rfl rfl (by decide +kernel) ⟨Nat.le_of_ble_eq_true rfl, Nat.le_of_ble_eq_true rfl⟩) rfl rfl hP hK hD hS hA rfl hl.1 rfl (Nat.le_of_ble_eq_true rfl) dX12_mark_2 ⟨Nat.le_of_ble_eq_true rfl, Nat.le_of_ble_eq_true rfl⟩ (fun r w1 H locs hq hP hD hS => ?_)
  obtain ⟨rfl, rfl⟩ := hq
  refine lb_if_eq (tgt := 32) hx hb dX12_mark_5 (by decide) (fun c1 => ?_) (fun c1 => ?_)
  · refine lv_aload_n hx hb dX12_mark_32 rfl (lv_at hl 0 rfl) ?_
    refine lv_ldc2 (v := (-1000000001)) hx hb hown (hts (.constantLong RX12 76 (-1000000001)) (by decide +kernel)) dX12_mark_33 ?_
    refine mq_Vl (As := [.long ((-1000000001))]) (rest := []) (ci := 12) (k0 := 0) ⟨hx, hb, hml, hown, hts⟩ (cM_finds l D ad cI cJ a kp bt sz sheets go ro car ke km fi gm bs bu n1 n2 n3 n4 n5 n6 n7 px py db ((-1000000001)) ) (cwV 1 hts gX12_mark_X12_finds rfl rfl rfl (by decide +kernel) ⟨Nat.le_of_ble_eq_true rfl, Nat.le_of_ble_eq_true rfl⟩) rfl rfl hP hK hD hS hA rfl hl.1 rfl (Nat.le_of_ble_eq_true rfl) dX12_mark_36 ⟨Nat.le_of_ble_eq_true rfl, Nat.le_of_ble_eq_true rfl⟩ (fun r w1 H locs hq hP hD hS => ?_)
    obtain ⟨rfl, rfl⟩ := hq
    exact hret _ _ _ _ _ _ (Or.inl ⟨(fun hh => by obtain ⟨i, k, u', v', s', g', ⟨e1, e2, e3, e4, e5, e6⟩, h⟩ := hh; subst e1; subst e2; subst e3; subst e4; subst e5; subst e6; exact c1 (ix_nI h.1 (by omega))), rfl, rfl⟩) hP hD hS dX12_mark_39
  · refine lv_iload_n hx hb dX12_mark_8 rfl (lv_at hl 2 rfl) ?_
    refine lv_iconst (v := (nI (0))) hx hb dX12_mark_9 (by decide) ?_
    refine lv_iconst (v := (nI (3))) hx hb dX12_mark_10 (by decide) ?_
    refine mq_Si (As := [.int (ki), .int (nI (0)), .int (nI (3))]) (rest := []) ⟨hx, hb, hml, hown, hts⟩ (cM_in l D _ (ki) (nI (0)) (nI (3)) ) (cwS 3 hts gX12_mark_X12_in rfl rfl rfl (by decide +kernel) ⟨Nat.le_of_ble_eq_true rfl, Nat.le_of_ble_eq_true rfl⟩) hP hK hS hA rfl hl.1 rfl (Nat.le_of_ble_eq_true rfl) dX12_mark_11 ⟨Nat.le_of_ble_eq_true rfl, Nat.le_of_ble_eq_true rfl⟩ (fun r w1 H locs hq hP hS => ?_)
    subst hq
    refine lb_if_eq (tgt := 32) hx hb dX12_mark_14 (by decide) (fun c2 => ?_) (fun c2 => ?_)
    · refine lv_aload_n hx hb dX12_mark_32 rfl (lv_at hl 0 rfl) ?_
      refine lv_ldc2 (v := (-1000000001)) hx hb hown (hts (.constantLong RX12 76 (-1000000001)) (by decide +kernel)) dX12_mark_33 ?_
      refine mq_Vl (As := [.long ((-1000000001))]) (rest := []) (ci := 12) (k0 := 0) ⟨hx, hb, hml, hown, hts⟩ (cM_finds l D ad cI cJ a kp bt sz sheets go ro car ke km fi gm bs bu n1 n2 n3 n4 n5 n6 n7 px py db ((-1000000001)) ) (cwV 1 hts gX12_mark_X12_finds rfl rfl rfl (by decide +kernel) ⟨Nat.le_of_ble_eq_true rfl, Nat.le_of_ble_eq_true rfl⟩) rfl rfl hP hK hD hS hA rfl hl.1 rfl (Nat.le_of_ble_eq_true rfl) dX12_mark_36 ⟨Nat.le_of_ble_eq_true rfl, Nat.le_of_ble_eq_true rfl⟩ (fun r w1 H locs hq hP hD hS => ?_)
      obtain ⟨rfl, rfl⟩ := hq
      exact hret _ _ _ _ _ _ (Or.inl ⟨(fun hh => by obtain ⟨i, k, u', v', s', g', ⟨e1, e2, e3, e4, e5, e6⟩, h⟩ := hh; subst e1; subst e2; subst e3; subst e4; subst e5; subst e6; exact c2 (rg_nI (Nat.zero_le _) h.2.1 (by decide))), rfl, rfl⟩) hP hD hS dX12_mark_39
    · refine lv_iload_n hx hb dX12_mark_17 rfl (lv_at hl 3 rfl) ?_
      refine mq_Si (As := [.int (u)]) (rest := []) ⟨hx, hb, hml, hown, hts⟩ (cM_isNumber l D _ (u) ) (cwS 1 hts gX12_mark_X12_isNumber rfl rfl rfl (by decide +kernel) ⟨Nat.le_of_ble_eq_true rfl, Nat.le_of_ble_eq_true rfl⟩) hP hK hS hA rfl hl.1 rfl (Nat.le_of_ble_eq_true rfl) dX12_mark_18 ⟨Nat.le_of_ble_eq_true rfl, Nat.le_of_ble_eq_true rfl⟩ (fun r w1 H locs hq hP hS => ?_)
      subst hq
      refine lb_if_eq (tgt := 32) hx hb dX12_mark_21 (by decide) (fun c3 => ?_) (fun c3 => ?_)
      · refine lv_aload_n hx hb dX12_mark_32 rfl (lv_at hl 0 rfl) ?_
        refine lv_ldc2 (v := (-1000000001)) hx hb hown (hts (.constantLong RX12 76 (-1000000001)) (by decide +kernel)) dX12_mark_33 ?_
        refine mq_Vl (As := [.long ((-1000000001))]) (rest := []) (ci := 12) (k0 := 0) ⟨hx, hb, hml, hown, hts⟩ (cM_finds l D ad cI cJ a kp bt sz sheets go ro car ke km fi gm bs bu n1 n2 n3 n4 n5 n6 n7 px py db ((-1000000001)) ) (cwV 1 hts gX12_mark_X12_finds rfl rfl rfl (by decide +kernel) ⟨Nat.le_of_ble_eq_true rfl, Nat.le_of_ble_eq_true rfl⟩) rfl rfl hP hK hD hS hA rfl hl.1 rfl (Nat.le_of_ble_eq_true rfl) dX12_mark_36 ⟨Nat.le_of_ble_eq_true rfl, Nat.le_of_ble_eq_true rfl⟩ (fun r w1 H locs hq hP hD hS => ?_)
        obtain ⟨rfl, rfl⟩ := hq
        exact hret _ _ _ _ _ _ (Or.inl ⟨(fun hh => by obtain ⟨i, k, u', v', s', g', ⟨e1, e2, e3, e4, e5, e6⟩, h⟩ := hh; subst e1; subst e2; subst e3; subst e4; subst e5; subst e6; exact c3 (rg_nI (Nat.zero_le _) h.2.2.1 (by decide))), rfl, rfl⟩) hP hD hS dX12_mark_39
      · refine lv_iload hx hb dX12_mark_24 (lv_at hl 4 rfl) ?_
        refine mq_Si (As := [.int (v)]) (rest := []) ⟨hx, hb, hml, hown, hts⟩ (cM_isNumber l D _ (v) ) (cwS 1 hts gX12_mark_X12_isNumber rfl rfl rfl (by decide +kernel) ⟨Nat.le_of_ble_eq_true rfl, Nat.le_of_ble_eq_true rfl⟩) hP hK hS hA rfl hl.1 rfl (Nat.le_of_ble_eq_true rfl) dX12_mark_26 ⟨Nat.le_of_ble_eq_true rfl, Nat.le_of_ble_eq_true rfl⟩ (fun r w1 H locs hq hP hS => ?_)
        subst hq
        refine lb_if_ne (tgt := 40) hx hb dX12_mark_29 (by decide) (fun c4 => ?_) (fun c4 => ?_)
        · obtain ⟨i0, hi, rfl⟩ := ix_of c1 (by omega)
          obtain ⟨ki0, -, hk, rfl⟩ := rg_of c2 (by decide) (by decide)
          obtain ⟨u0, -, hu, rfl⟩ := rg_of c3 (by decide) (by decide)
          obtain ⟨v0, -, hv, rfl⟩ := rg_of c4 (by decide) (by decide)
          refine lv_iload_n hx hb dX12_mark_40 rfl (lv_at hl 2 rfl) ?_
          refine mq_Si (As := [.int (nI (ki0))]) (rest := []) ⟨hx, hb, hml, hown, hts⟩ (cM_isRing l D _ (ki0) (by omega)) (cwS 1 hts gX12_mark_X12_isRing rfl rfl rfl (by decide +kernel) ⟨Nat.le_of_ble_eq_true rfl, Nat.le_of_ble_eq_true rfl⟩) hP hK hS hA rfl hl.1 rfl (Nat.le_of_ble_eq_true rfl) dX12_mark_41 ⟨Nat.le_of_ble_eq_true rfl, Nat.le_of_ble_eq_true rfl⟩ (fun r w1 H locs hq hP hS => ?_)
          subst hq
          refine lb_if_eq (tgt := 72) hx hb dX12_mark_44 (by decide) (fun c5 => ?_) (fun c5 => ?_)
          · refine lv_iload hx hb dX12_mark_72 (lv_at hl 5 rfl) ?_
            refine lv_if_ne (tgt := 82) hx hb dX12_mark_74 (by decide) (fun c6 => ?_) (fun c6 => ?_)
            · refine lv_aload_n hx hb dX12_mark_82 rfl (lv_at hl 0 rfl) ?_
              refine lv_ldc2 (v := (-1000000001)) hx hb hown (hts (.constantLong RX12 76 (-1000000001)) (by decide +kernel)) dX12_mark_83 ?_
              refine mq_Vl (As := [.long ((-1000000001))]) (rest := []) (ci := 12) (k0 := 0) ⟨hx, hb, hml, hown, hts⟩ (cM_finds l D ad cI cJ a kp bt sz sheets go ro car ke km fi gm bs bu n1 n2 n3 n4 n5 n6 n7 px py db ((-1000000001)) ) (cwV 1 hts gX12_mark_X12_finds rfl rfl rfl (by decide +kernel) ⟨Nat.le_of_ble_eq_true rfl, Nat.le_of_ble_eq_true rfl⟩) rfl rfl hP hK hD hS hA rfl hl.1 rfl (Nat.le_of_ble_eq_true rfl) dX12_mark_86 ⟨Nat.le_of_ble_eq_true rfl, Nat.le_of_ble_eq_true rfl⟩ (fun r w1 H locs hq hP hD hS => ?_)
              obtain ⟨rfl, rfl⟩ := hq
              exact hret _ _ _ _ _ _ (Or.inl ⟨(fun hh => by obtain ⟨i, k, u', v', s', g', ⟨e1, e2, e3, e4, e5, e6⟩, h⟩ := hh; subst e5; subst e6; have ek := (nI_eq (by omega) (by omega)).mp e2; exact c6 (by rw [(h.2.2.2.2.2.2.2 (by omega)).1]; rfl)), rfl, rfl⟩) hP hD hS dX12_mark_89
            · refine lv_iload hx hb dX12_mark_77 (lv_at hl 6 rfl) ?_
              refine lv_if_eq (tgt := 90) hx hb dX12_mark_79 (by decide) (fun c7 => ?_) (fun c7 => ?_)
              · have c6 := nI_of0 c6
                have c7 := nI_of0 c7
                subst c6
                subst c7
                have hs0 : (0 : Nat) ≤ 99 := by decide
                refine lv_aload_n hx hb dX12_mark_90 rfl (lv_at hl 0 rfl) ?_
                refine va_get (D := D) (ci := 12) (v := .ref (ad 1)) (C := RX12) (T := TX12) (N := 24) hx hb hts hinX12 hown hK hP 0 rfl rfl 0 (by decide) (hts (.fieldLink RX12 9 "CornDeskModel" "now" "[I") (by decide +kernel)) (fun _ h9 => h9) rfl dX12_mark_91 ?_
                refine lv_iconst (v := (nI (1))) hx hb dX12_mark_94 (by decide) ?_
                refine ln_iald hx hb hK hP 1 0 rfl rfl (by decide) (by omega) dX12_mark_95 ?_
                refine lv_istore (lv' := [(7, .int (nI (a (1)))), (0, .ref (ad 0)), (1, .int (nI (i0))), (2, .int (nI (ki0))), (3, .int (nI (u0))), (4, .int (nI (v0))), (5, .int (nI (0))), (6, .int (nI (0)))]) hx hb dX12_mark_96 hl (by decide) rfl (fun ls hl => ?_)
                refine lv_iload hx hb dX12_mark_98 (lv_at hl 0 rfl) ?_
                refine lv_bipush (v := (nI (20))) hx hb dX12_mark_100 (by decide) ?_
                refine ln_icmp_ne (tgt := 113) hx hb dX12_mark_102 (by decide) (by omega) (by omega) (fun c8 => ?_) (fun c8 => ?_)
                · refine lv_aload_n hx hb dX12_mark_113 rfl (lv_at hl 1 rfl) ?_
                  refine mq_Vv (As := []) (rest := []) (ci := 12) (k0 := 0) ⟨hx, hb, hml, hown, hts⟩ (cM_keep l D ad cI cJ a kp bt sz sheets go ro car ke km fi gm bs bu n1 n2 n3 n4 n5 n6 n7 px py db  he hm) (cwV 0 hts gX12_mark_X12_keep rfl rfl rfl (by decide +kernel) ⟨Nat.le_of_ble_eq_true rfl, Nat.le_of_ble_eq_true rfl⟩) rfl rfl hP hK hD hS hA rfl hl.1 rfl (Nat.le_of_ble_eq_true rfl) dX12_mark_114 ⟨Nat.le_of_ble_eq_true rfl, Nat.le_of_ble_eq_true rfl⟩ (fun w1 H locs hq hP hD hS => ?_)
                  subst hq
                  refine lv_aload_n hx hb dX12_mark_117 rfl (lv_at hl 1 rfl) ?_
                  refine va_get (D := D) (ci := 12) (v := .ref (ad 1)) (C := RX12) (T := TX12) (N := 24) hx hb hts hinX12 hown hK hP 0 rfl rfl 0 (by decide) (hts (.fieldLink RX12 9 "CornDeskModel" "now" "[I") (by decide +kernel)) (fun _ h9 => h9) rfl dX12_mark_118 ?_
                  refine lv_sipush (v := (nI (202))) hx hb dX12_mark_121 (by decide) ?_
                  refine lv_bipush (v := (nI (6))) hx hb dX12_mark_124 (by decide) ?_
                  refine lv_iload hx hb dX12_mark_126 (lv_at hl 0 rfl) ?_
                  refine ln_imul hx hb dX12_mark_128 ?_
                  refine ln_iadd hx hb dX12_mark_129 ?_
                  refine lv_iload_n hx hb dX12_mark_130 rfl (lv_at hl 2 rfl) ?_
                  refine ln_iastN hx hb hK hP hD hS 1 0 rfl rfl (by decide) (by omega) dX12_mark_131 (fun H locs hP hD hS => ?_)
                  have hP : va_P D vwCl (mW ad cI cJ (upN a (202 + (6) * (a (1))) (i0)) (cpN kp a (598 * ke) 598) bt sz sheets go ro car ((ke + 1) % 20) (kmU km) fi gm bs bu n1 n2 n3 n4 n5 n6 n7 px py db) H := hP
                  have hD : va_D A (mW ad cI cJ (upN a (202 + (6) * (a (1))) (i0)) (cpN kp a (598 * ke) 598) bt sz sheets go ro car ((ke + 1) % 20) (kmU km) fi gm bs bu n1 n2 n3 n4 n5 n6 n7 px py db) := hD
                  refine lv_aload_n hx hb dX12_mark_132 rfl (lv_at hl 1 rfl) ?_
                  refine va_get (D := D) (ci := 12) (v := .ref (ad 1)) (C := RX12) (T := TX12) (N := 24) hx hb hts hinX12 hown hK hP 0 rfl rfl 0 (by decide) (hts (.fieldLink RX12 9 "CornDeskModel" "now" "[I") (by decide +kernel)) (fun _ h9 => h9) rfl dX12_mark_133 ?_
                  refine lv_sipush (v := (nI (202))) hx hb dX12_mark_136 (by decide) ?_
                  refine lv_bipush (v := (nI (6))) hx hb dX12_mark_139 (by decide) ?_
                  refine lv_iload hx hb dX12_mark_141 (lv_at hl 0 rfl) ?_
                  refine ln_imul hx hb dX12_mark_143 ?_
                  refine ln_iadd hx hb dX12_mark_144 ?_
                  refine lv_iconst (v := (nI (1))) hx hb dX12_mark_145 (by decide) ?_
                  refine ln_iadd hx hb dX12_mark_146 ?_
                  refine lv_iload_n hx hb dX12_mark_147 rfl (lv_at hl 3 rfl) ?_
                  refine ln_iastN hx hb hK hP hD hS 1 0 rfl rfl (by decide) (by omega) dX12_mark_148 (fun H locs hP hD hS => ?_)
                  have hP : va_P D vwCl (mW ad cI cJ (upN (upN a (202 + (6) * (a (1))) (i0)) (202 + (6) * (a (1)) + 1) (ki0)) (cpN kp a (598 * ke) 598) bt sz sheets go ro car ((ke + 1) % 20) (kmU km) fi gm bs bu n1 n2 n3 n4 n5 n6 n7 px py db) H := hP
                  have hD : va_D A (mW ad cI cJ (upN (upN a (202 + (6) * (a (1))) (i0)) (202 + (6) * (a (1)) + 1) (ki0)) (cpN kp a (598 * ke) 598) bt sz sheets go ro car ((ke + 1) % 20) (kmU km) fi gm bs bu n1 n2 n3 n4 n5 n6 n7 px py db) := hD
                  refine lv_aload_n hx hb dX12_mark_149 rfl (lv_at hl 1 rfl) ?_
                  refine va_get (D := D) (ci := 12) (v := .ref (ad 1)) (C := RX12) (T := TX12) (N := 24) hx hb hts hinX12 hown hK hP 0 rfl rfl 0 (by decide) (hts (.fieldLink RX12 9 "CornDeskModel" "now" "[I") (by decide +kernel)) (fun _ h9 => h9) rfl dX12_mark_150 ?_
                  refine lv_sipush (v := (nI (202))) hx hb dX12_mark_153 (by decide) ?_
                  refine lv_bipush (v := (nI (6))) hx hb dX12_mark_156 (by decide) ?_
                  refine lv_iload hx hb dX12_mark_158 (lv_at hl 0 rfl) ?_
                  refine ln_imul hx hb dX12_mark_160 ?_
                  refine ln_iadd hx hb dX12_mark_161 ?_
                  refine lv_iconst (v := (nI (2))) hx hb dX12_mark_162 (by decide) ?_
                  refine ln_iadd hx hb dX12_mark_163 ?_
                  refine lv_iload_n hx hb dX12_mark_164 rfl (lv_at hl 4 rfl) ?_
                  refine ln_iastN hx hb hK hP hD hS 1 0 rfl rfl (by decide) (by omega) dX12_mark_165 (fun H locs hP hD hS => ?_)
                  have hP : va_P D vwCl (mW ad cI cJ (upN (upN (upN a (202 + (6) * (a (1))) (i0)) (202 + (6) * (a (1)) + 1) (ki0)) (202 + (6) * (a (1)) + 2) (u0)) (cpN kp a (598 * ke) 598) bt sz sheets go ro car ((ke + 1) % 20) (kmU km) fi gm bs bu n1 n2 n3 n4 n5 n6 n7 px py db) H := hP
                  have hD : va_D A (mW ad cI cJ (upN (upN (upN a (202 + (6) * (a (1))) (i0)) (202 + (6) * (a (1)) + 1) (ki0)) (202 + (6) * (a (1)) + 2) (u0)) (cpN kp a (598 * ke) 598) bt sz sheets go ro car ((ke + 1) % 20) (kmU km) fi gm bs bu n1 n2 n3 n4 n5 n6 n7 px py db) := hD
                  refine lv_aload_n hx hb dX12_mark_166 rfl (lv_at hl 1 rfl) ?_
                  refine va_get (D := D) (ci := 12) (v := .ref (ad 1)) (C := RX12) (T := TX12) (N := 24) hx hb hts hinX12 hown hK hP 0 rfl rfl 0 (by decide) (hts (.fieldLink RX12 9 "CornDeskModel" "now" "[I") (by decide +kernel)) (fun _ h9 => h9) rfl dX12_mark_167 ?_
                  refine lv_sipush (v := (nI (202))) hx hb dX12_mark_170 (by decide) ?_
                  refine lv_bipush (v := (nI (6))) hx hb dX12_mark_173 (by decide) ?_
                  refine lv_iload hx hb dX12_mark_175 (lv_at hl 0 rfl) ?_
                  refine ln_imul hx hb dX12_mark_177 ?_
                  refine ln_iadd hx hb dX12_mark_178 ?_
                  refine lv_iconst (v := (nI (3))) hx hb dX12_mark_179 (by decide) ?_
                  refine ln_iadd hx hb dX12_mark_180 ?_
                  refine lv_iload hx hb dX12_mark_181 (lv_at hl 5 rfl) ?_
                  refine ln_iastN hx hb hK hP hD hS 1 0 rfl rfl (by decide) (by omega) dX12_mark_183 (fun H locs hP hD hS => ?_)
                  have hP : va_P D vwCl (mW ad cI cJ (upN (upN (upN (upN a (202 + (6) * (a (1))) (i0)) (202 + (6) * (a (1)) + 1) (ki0)) (202 + (6) * (a (1)) + 2) (u0)) (202 + (6) * (a (1)) + 3) (v0)) (cpN kp a (598 * ke) 598) bt sz sheets go ro car ((ke + 1) % 20) (kmU km) fi gm bs bu n1 n2 n3 n4 n5 n6 n7 px py db) H := hP
                  have hD : va_D A (mW ad cI cJ (upN (upN (upN (upN a (202 + (6) * (a (1))) (i0)) (202 + (6) * (a (1)) + 1) (ki0)) (202 + (6) * (a (1)) + 2) (u0)) (202 + (6) * (a (1)) + 3) (v0)) (cpN kp a (598 * ke) 598) bt sz sheets go ro car ((ke + 1) % 20) (kmU km) fi gm bs bu n1 n2 n3 n4 n5 n6 n7 px py db) := hD
                  refine lv_aload_n hx hb dX12_mark_184 rfl (lv_at hl 1 rfl) ?_
                  refine va_get (D := D) (ci := 12) (v := .ref (ad 1)) (C := RX12) (T := TX12) (N := 24) hx hb hts hinX12 hown hK hP 0 rfl rfl 0 (by decide) (hts (.fieldLink RX12 9 "CornDeskModel" "now" "[I") (by decide +kernel)) (fun _ h9 => h9) rfl dX12_mark_185 ?_
                  refine lv_sipush (v := (nI (202))) hx hb dX12_mark_188 (by decide) ?_
                  refine lv_bipush (v := (nI (6))) hx hb dX12_mark_191 (by decide) ?_
                  refine lv_iload hx hb dX12_mark_193 (lv_at hl 0 rfl) ?_
                  refine ln_imul hx hb dX12_mark_195 ?_
                  refine ln_iadd hx hb dX12_mark_196 ?_
                  refine lv_iconst (v := (nI (4))) hx hb dX12_mark_197 (by decide) ?_
                  refine ln_iadd hx hb dX12_mark_198 ?_
                  refine lv_iload hx hb dX12_mark_199 (lv_at hl 6 rfl) ?_
                  refine ln_iastN hx hb hK hP hD hS 1 0 rfl rfl (by decide) (by omega) dX12_mark_201 (fun H locs hP hD hS => ?_)
                  have hP : va_P D vwCl (mW ad cI cJ (upN (upN (upN (upN (upN a (202 + (6) * (a (1))) (i0)) (202 + (6) * (a (1)) + 1) (ki0)) (202 + (6) * (a (1)) + 2) (u0)) (202 + (6) * (a (1)) + 3) (v0)) (202 + (6) * (a (1)) + 4) (0)) (cpN kp a (598 * ke) 598) bt sz sheets go ro car ((ke + 1) % 20) (kmU km) fi gm bs bu n1 n2 n3 n4 n5 n6 n7 px py db) H := hP
                  have hD : va_D A (mW ad cI cJ (upN (upN (upN (upN (upN a (202 + (6) * (a (1))) (i0)) (202 + (6) * (a (1)) + 1) (ki0)) (202 + (6) * (a (1)) + 2) (u0)) (202 + (6) * (a (1)) + 3) (v0)) (202 + (6) * (a (1)) + 4) (0)) (cpN kp a (598 * ke) 598) bt sz sheets go ro car ((ke + 1) % 20) (kmU km) fi gm bs bu n1 n2 n3 n4 n5 n6 n7 px py db) := hD
                  refine lv_aload_n hx hb dX12_mark_202 rfl (lv_at hl 1 rfl) ?_
                  refine va_get (D := D) (ci := 12) (v := .ref (ad 1)) (C := RX12) (T := TX12) (N := 24) hx hb hts hinX12 hown hK hP 0 rfl rfl 0 (by decide) (hts (.fieldLink RX12 9 "CornDeskModel" "now" "[I") (by decide +kernel)) (fun _ h9 => h9) rfl dX12_mark_203 ?_
                  refine lv_sipush (v := (nI (202))) hx hb dX12_mark_206 (by decide) ?_
                  refine lv_bipush (v := (nI (6))) hx hb dX12_mark_209 (by decide) ?_
                  refine lv_iload hx hb dX12_mark_211 (lv_at hl 0 rfl) ?_
                  refine ln_imul hx hb dX12_mark_213 ?_
                  refine ln_iadd hx hb dX12_mark_214 ?_
                  refine lv_iconst (v := (nI (5))) hx hb dX12_mark_215 (by decide) ?_
                  refine ln_iadd hx hb dX12_mark_216 ?_
                  refine lv_iload hx hb dX12_mark_217 (lv_at hl 7 rfl) ?_
                  refine ln_iastN hx hb hK hP hD hS 1 0 rfl rfl (by decide) (by omega) dX12_mark_219 (fun H locs hP hD hS => ?_)
                  have hP : va_P D vwCl (mW ad cI cJ (upN (upN (upN (upN (upN (upN a (202 + (6) * (a (1))) (i0)) (202 + (6) * (a (1)) + 1) (ki0)) (202 + (6) * (a (1)) + 2) (u0)) (202 + (6) * (a (1)) + 3) (v0)) (202 + (6) * (a (1)) + 4) (0)) (202 + (6) * (a (1)) + 5) (0)) (cpN kp a (598 * ke) 598) bt sz sheets go ro car ((ke + 1) % 20) (kmU km) fi gm bs bu n1 n2 n3 n4 n5 n6 n7 px py db) H := hP
                  have hD : va_D A (mW ad cI cJ (upN (upN (upN (upN (upN (upN a (202 + (6) * (a (1))) (i0)) (202 + (6) * (a (1)) + 1) (ki0)) (202 + (6) * (a (1)) + 2) (u0)) (202 + (6) * (a (1)) + 3) (v0)) (202 + (6) * (a (1)) + 4) (0)) (202 + (6) * (a (1)) + 5) (0)) (cpN kp a (598 * ke) 598) bt sz sheets go ro car ((ke + 1) % 20) (kmU km) fi gm bs bu n1 n2 n3 n4 n5 n6 n7 px py db) := hD
                  refine lv_aload_n hx hb dX12_mark_220 rfl (lv_at hl 1 rfl) ?_
                  refine va_get (D := D) (ci := 12) (v := .ref (ad 1)) (C := RX12) (T := TX12) (N := 24) hx hb hts hinX12 hown hK hP 0 rfl rfl 0 (by decide) (hts (.fieldLink RX12 9 "CornDeskModel" "now" "[I") (by decide +kernel)) (fun _ h9 => h9) rfl dX12_mark_221 ?_
                  refine lv_iconst (v := (nI (1))) hx hb dX12_mark_224 (by decide) ?_
                  refine lv_dup2_11 hx hb dX12_mark_225 rfl rfl ?_
                  refine ln_iald hx hb hK hP 1 0 rfl rfl (by decide) (by omega) dX12_mark_226 ?_
                  refine ln_eqi (y := (nI (a (1)))) (congrArg nI (by simp only [upN, if_true]; (repeat first | rw [if_neg (by omega)] | rw [if_pos (by omega)]))) ?_
                  refine lv_iconst (v := (nI (1))) hx hb dX12_mark_227 (by decide) ?_
                  refine ln_iadd hx hb dX12_mark_228 ?_
                  refine ln_iastN hx hb hK hP hD hS 1 0 rfl rfl (by decide) (by omega) dX12_mark_229 (fun H locs hP hD hS => ?_)
                  have hP : va_P D vwCl (mW ad cI cJ (upN (upN (upN (upN (upN (upN (upN a (202 + (6) * (a (1))) (i0)) (202 + (6) * (a (1)) + 1) (ki0)) (202 + (6) * (a (1)) + 2) (u0)) (202 + (6) * (a (1)) + 3) (v0)) (202 + (6) * (a (1)) + 4) (0)) (202 + (6) * (a (1)) + 5) (0)) (1) (a (1) + 1)) (cpN kp a (598 * ke) 598) bt sz sheets go ro car ((ke + 1) % 20) (kmU km) fi gm bs bu n1 n2 n3 n4 n5 n6 n7 px py db) H := hP
                  have hD : va_D A (mW ad cI cJ (upN (upN (upN (upN (upN (upN (upN a (202 + (6) * (a (1))) (i0)) (202 + (6) * (a (1)) + 1) (ki0)) (202 + (6) * (a (1)) + 2) (u0)) (202 + (6) * (a (1)) + 3) (v0)) (202 + (6) * (a (1)) + 4) (0)) (202 + (6) * (a (1)) + 5) (0)) (1) (a (1) + 1)) (cpN kp a (598 * ke) 598) bt sz sheets go ro car ((ke + 1) % 20) (kmU km) fi gm bs bu n1 n2 n3 n4 n5 n6 n7 px py db) := hD
                  refine lv_iload hx hb dX12_mark_230 (lv_at hl 0 rfl) ?_
                  refine lv_i2l hx hb dX12_mark_232 rfl ?_
                  exact hret _ _ _ _ _ _ (Or.inr ⟨i0, ki0, u0, v0, 0, 0, ⟨rfl, rfl, rfl, rfl, rfl, rfl⟩, ⟨hi, hk, hu, hv, by decide, by decide, fun h => absurd h c5, fun _ => ⟨rfl, rfl⟩⟩, Or.inr ⟨by omega, rfl, rfl⟩⟩) hP hD hS dX12_mark_233
                · refine lv_aload_n hx hb dX12_mark_105 rfl (lv_at hl 1 rfl) ?_
                  refine lv_ldc2 (v := (-1000000005)) hx hb hown (hts (.constantLong RX12 64 (-1000000005)) (by decide +kernel)) dX12_mark_106 ?_
                  refine mq_Vl (As := [.long ((-1000000005))]) (rest := []) (ci := 12) (k0 := 0) ⟨hx, hb, hml, hown, hts⟩ (cM_finds l D ad cI cJ a kp bt sz sheets go ro car ke km fi gm bs bu n1 n2 n3 n4 n5 n6 n7 px py db ((-1000000005)) ) (cwV 1 hts gX12_mark_X12_finds rfl rfl rfl (by decide +kernel) ⟨Nat.le_of_ble_eq_true rfl, Nat.le_of_ble_eq_true rfl⟩) rfl rfl hP hK hD hS hA rfl hl.1 rfl (Nat.le_of_ble_eq_true rfl) dX12_mark_109 ⟨Nat.le_of_ble_eq_true rfl, Nat.le_of_ble_eq_true rfl⟩ (fun r w1 H locs hq hP hD hS => ?_)
                  obtain ⟨rfl, rfl⟩ := hq
                  exact hret _ _ _ _ _ _ (Or.inr ⟨i0, ki0, u0, v0, 0, 0, ⟨rfl, rfl, rfl, rfl, rfl, rfl⟩, ⟨hi, hk, hu, hv, by decide, by decide, fun h => absurd h c5, fun _ => ⟨rfl, rfl⟩⟩, Or.inl ⟨c8, rfl, rfl⟩⟩) hP hD hS dX12_mark_112
              · refine lv_aload_n hx hb dX12_mark_82 rfl (lv_at hl 0 rfl) ?_
                refine lv_ldc2 (v := (-1000000001)) hx hb hown (hts (.constantLong RX12 76 (-1000000001)) (by decide +kernel)) dX12_mark_83 ?_
                refine mq_Vl (As := [.long ((-1000000001))]) (rest := []) (ci := 12) (k0 := 0) ⟨hx, hb, hml, hown, hts⟩ (cM_finds l D ad cI cJ a kp bt sz sheets go ro car ke km fi gm bs bu n1 n2 n3 n4 n5 n6 n7 px py db ((-1000000001)) ) (cwV 1 hts gX12_mark_X12_finds rfl rfl rfl (by decide +kernel) ⟨Nat.le_of_ble_eq_true rfl, Nat.le_of_ble_eq_true rfl⟩) rfl rfl hP hK hD hS hA rfl hl.1 rfl (Nat.le_of_ble_eq_true rfl) dX12_mark_86 ⟨Nat.le_of_ble_eq_true rfl, Nat.le_of_ble_eq_true rfl⟩ (fun r w1 H locs hq hP hD hS => ?_)
                obtain ⟨rfl, rfl⟩ := hq
                exact hret _ _ _ _ _ _ (Or.inl ⟨(fun hh => by obtain ⟨i, k, u', v', s', g', ⟨e1, e2, e3, e4, e5, e6⟩, h⟩ := hh; subst e5; subst e6; have ek := (nI_eq (by omega) (by omega)).mp e2; exact c7 (by rw [(h.2.2.2.2.2.2.2 (by omega)).2]; rfl)), rfl, rfl⟩) hP hD hS dX12_mark_89
          · refine lv_iload hx hb dX12_mark_47 (lv_at hl 5 rfl) ?_
            refine lv_iconst (v := (nI (1))) hx hb dX12_mark_49 (by decide) ?_
            refine lv_bipush (v := (nI (99))) hx hb dX12_mark_50 (by decide) ?_
            refine mq_Si (As := [.int (si), .int (nI (1)), .int (nI (99))]) (rest := []) ⟨hx, hb, hml, hown, hts⟩ (cM_in l D _ (si) (nI (1)) (nI (99)) ) (cwS 3 hts gX12_mark_X12_in rfl rfl rfl (by decide +kernel) ⟨Nat.le_of_ble_eq_true rfl, Nat.le_of_ble_eq_true rfl⟩) hP hK hS hA rfl hl.1 rfl (Nat.le_of_ble_eq_true rfl) dX12_mark_52 ⟨Nat.le_of_ble_eq_true rfl, Nat.le_of_ble_eq_true rfl⟩ (fun r w1 H locs hq hP hS => ?_)
            subst hq
            refine lb_if_eq (tgt := 82) hx hb dX12_mark_55 (by decide) (fun c6 => ?_) (fun c6 => ?_)
            · refine lv_aload_n hx hb dX12_mark_82 rfl (lv_at hl 0 rfl) ?_
              refine lv_ldc2 (v := (-1000000001)) hx hb hown (hts (.constantLong RX12 76 (-1000000001)) (by decide +kernel)) dX12_mark_83 ?_
              refine mq_Vl (As := [.long ((-1000000001))]) (rest := []) (ci := 12) (k0 := 0) ⟨hx, hb, hml, hown, hts⟩ (cM_finds l D ad cI cJ a kp bt sz sheets go ro car ke km fi gm bs bu n1 n2 n3 n4 n5 n6 n7 px py db ((-1000000001)) ) (cwV 1 hts gX12_mark_X12_finds rfl rfl rfl (by decide +kernel) ⟨Nat.le_of_ble_eq_true rfl, Nat.le_of_ble_eq_true rfl⟩) rfl rfl hP hK hD hS hA rfl hl.1 rfl (Nat.le_of_ble_eq_true rfl) dX12_mark_86 ⟨Nat.le_of_ble_eq_true rfl, Nat.le_of_ble_eq_true rfl⟩ (fun r w1 H locs hq hP hD hS => ?_)
              obtain ⟨rfl, rfl⟩ := hq
              exact hret _ _ _ _ _ _ (Or.inl ⟨(fun hh => by obtain ⟨i, k, u', v', s', g', ⟨e1, e2, e3, e4, e5, e6⟩, h⟩ := hh; subst e5; subst e6; have ek := (nI_eq (by omega) (by omega)).mp e2; exact c6 (rg_nI (h.2.2.2.2.2.2.1 (by omega)) h.2.2.2.2.1 (by decide))), rfl, rfl⟩) hP hD hS dX12_mark_89
            · refine lv_iload hx hb dX12_mark_58 (lv_at hl 6 rfl) ?_
              refine lv_iconst (v := (nI (0))) hx hb dX12_mark_60 (by decide) ?_
              refine lv_bipush (v := (nI (15))) hx hb dX12_mark_61 (by decide) ?_
              refine mq_Si (As := [.int (ga), .int (nI (0)), .int (nI (15))]) (rest := []) ⟨hx, hb, hml, hown, hts⟩ (cM_in l D _ (ga) (nI (0)) (nI (15)) ) (cwS 3 hts gX12_mark_X12_in rfl rfl rfl (by decide +kernel) ⟨Nat.le_of_ble_eq_true rfl, Nat.le_of_ble_eq_true rfl⟩) hP hK hS hA rfl hl.1 rfl (Nat.le_of_ble_eq_true rfl) dX12_mark_63 ⟨Nat.le_of_ble_eq_true rfl, Nat.le_of_ble_eq_true rfl⟩ (fun r w1 H locs hq hP hS => ?_)
              subst hq
              refine lb_if_ne (tgt := 90) hx hb dX12_mark_66 (by decide) (fun c7 => ?_) (fun c7 => ?_)
              · obtain ⟨s0, hs1, hs2, rfl⟩ := rg_of c6 (by decide) (by decide)
                obtain ⟨g0, -, hg, rfl⟩ := rg_of c7 (by decide) (by decide)
                refine lv_aload_n hx hb dX12_mark_90 rfl (lv_at hl 0 rfl) ?_
                refine va_get (D := D) (ci := 12) (v := .ref (ad 1)) (C := RX12) (T := TX12) (N := 24) hx hb hts hinX12 hown hK hP 0 rfl rfl 0 (by decide) (hts (.fieldLink RX12 9 "CornDeskModel" "now" "[I") (by decide +kernel)) (fun _ h9 => h9) rfl dX12_mark_91 ?_
                refine lv_iconst (v := (nI (1))) hx hb dX12_mark_94 (by decide) ?_
                refine ln_iald hx hb hK hP 1 0 rfl rfl (by decide) (by omega) dX12_mark_95 ?_
                refine lv_istore (lv' := [(7, .int (nI (a (1)))), (0, .ref (ad 0)), (1, .int (nI (i0))), (2, .int (nI (ki0))), (3, .int (nI (u0))), (4, .int (nI (v0))), (5, .int (nI (s0))), (6, .int (nI (g0)))]) hx hb dX12_mark_96 hl (by decide) rfl (fun ls hl => ?_)
                refine lv_iload hx hb dX12_mark_98 (lv_at hl 0 rfl) ?_
                refine lv_bipush (v := (nI (20))) hx hb dX12_mark_100 (by decide) ?_
                refine ln_icmp_ne (tgt := 113) hx hb dX12_mark_102 (by decide) (by omega) (by omega) (fun c8 => ?_) (fun c8 => ?_)
                · refine lv_aload_n hx hb dX12_mark_113 rfl (lv_at hl 1 rfl) ?_
                  refine mq_Vv (As := []) (rest := []) (ci := 12) (k0 := 0) ⟨hx, hb, hml, hown, hts⟩ (cM_keep l D ad cI cJ a kp bt sz sheets go ro car ke km fi gm bs bu n1 n2 n3 n4 n5 n6 n7 px py db  he hm) (cwV 0 hts gX12_mark_X12_keep rfl rfl rfl (by decide +kernel) ⟨Nat.le_of_ble_eq_true rfl, Nat.le_of_ble_eq_true rfl⟩) rfl rfl hP hK hD hS hA rfl hl.1 rfl (Nat.le_of_ble_eq_true rfl) dX12_mark_114 ⟨Nat.le_of_ble_eq_true rfl, Nat.le_of_ble_eq_true rfl⟩ (fun w1 H locs hq hP hD hS => ?_)
                  subst hq
                  refine lv_aload_n hx hb dX12_mark_117 rfl (lv_at hl 1 rfl) ?_
                  refine va_get (D := D) (ci := 12) (v := .ref (ad 1)) (C := RX12) (T := TX12) (N := 24) hx hb hts hinX12 hown hK hP 0 rfl rfl 0 (by decide) (hts (.fieldLink RX12 9 "CornDeskModel" "now" "[I") (by decide +kernel)) (fun _ h9 => h9) rfl dX12_mark_118 ?_
                  refine lv_sipush (v := (nI (202))) hx hb dX12_mark_121 (by decide) ?_
                  refine lv_bipush (v := (nI (6))) hx hb dX12_mark_124 (by decide) ?_
                  refine lv_iload hx hb dX12_mark_126 (lv_at hl 0 rfl) ?_
                  refine ln_imul hx hb dX12_mark_128 ?_
                  refine ln_iadd hx hb dX12_mark_129 ?_
                  refine lv_iload_n hx hb dX12_mark_130 rfl (lv_at hl 2 rfl) ?_
                  refine ln_iastN hx hb hK hP hD hS 1 0 rfl rfl (by decide) (by omega) dX12_mark_131 (fun H locs hP hD hS => ?_)
                  have hP : va_P D vwCl (mW ad cI cJ (upN a (202 + (6) * (a (1))) (i0)) (cpN kp a (598 * ke) 598) bt sz sheets go ro car ((ke + 1) % 20) (kmU km) fi gm bs bu n1 n2 n3 n4 n5 n6 n7 px py db) H := hP
                  have hD : va_D A (mW ad cI cJ (upN a (202 + (6) * (a (1))) (i0)) (cpN kp a (598 * ke) 598) bt sz sheets go ro car ((ke + 1) % 20) (kmU km) fi gm bs bu n1 n2 n3 n4 n5 n6 n7 px py db) := hD
                  refine lv_aload_n hx hb dX12_mark_132 rfl (lv_at hl 1 rfl) ?_
                  refine va_get (D := D) (ci := 12) (v := .ref (ad 1)) (C := RX12) (T := TX12) (N := 24) hx hb hts hinX12 hown hK hP 0 rfl rfl 0 (by decide) (hts (.fieldLink RX12 9 "CornDeskModel" "now" "[I") (by decide +kernel)) (fun _ h9 => h9) rfl dX12_mark_133 ?_
                  refine lv_sipush (v := (nI (202))) hx hb dX12_mark_136 (by decide) ?_
                  refine lv_bipush (v := (nI (6))) hx hb dX12_mark_139 (by decide) ?_
                  refine lv_iload hx hb dX12_mark_141 (lv_at hl 0 rfl) ?_
                  refine ln_imul hx hb dX12_mark_143 ?_
                  refine ln_iadd hx hb dX12_mark_144 ?_
                  refine lv_iconst (v := (nI (1))) hx hb dX12_mark_145 (by decide) ?_
                  refine ln_iadd hx hb dX12_mark_146 ?_
                  refine lv_iload_n hx hb dX12_mark_147 rfl (lv_at hl 3 rfl) ?_
                  refine ln_iastN hx hb hK hP hD hS 1 0 rfl rfl (by decide) (by omega) dX12_mark_148 (fun H locs hP hD hS => ?_)
                  have hP : va_P D vwCl (mW ad cI cJ (upN (upN a (202 + (6) * (a (1))) (i0)) (202 + (6) * (a (1)) + 1) (ki0)) (cpN kp a (598 * ke) 598) bt sz sheets go ro car ((ke + 1) % 20) (kmU km) fi gm bs bu n1 n2 n3 n4 n5 n6 n7 px py db) H := hP
                  have hD : va_D A (mW ad cI cJ (upN (upN a (202 + (6) * (a (1))) (i0)) (202 + (6) * (a (1)) + 1) (ki0)) (cpN kp a (598 * ke) 598) bt sz sheets go ro car ((ke + 1) % 20) (kmU km) fi gm bs bu n1 n2 n3 n4 n5 n6 n7 px py db) := hD
                  refine lv_aload_n hx hb dX12_mark_149 rfl (lv_at hl 1 rfl) ?_
                  refine va_get (D := D) (ci := 12) (v := .ref (ad 1)) (C := RX12) (T := TX12) (N := 24) hx hb hts hinX12 hown hK hP 0 rfl rfl 0 (by decide) (hts (.fieldLink RX12 9 "CornDeskModel" "now" "[I") (by decide +kernel)) (fun _ h9 => h9) rfl dX12_mark_150 ?_
                  refine lv_sipush (v := (nI (202))) hx hb dX12_mark_153 (by decide) ?_
                  refine lv_bipush (v := (nI (6))) hx hb dX12_mark_156 (by decide) ?_
                  refine lv_iload hx hb dX12_mark_158 (lv_at hl 0 rfl) ?_
                  refine ln_imul hx hb dX12_mark_160 ?_
                  refine ln_iadd hx hb dX12_mark_161 ?_
                  refine lv_iconst (v := (nI (2))) hx hb dX12_mark_162 (by decide) ?_
                  refine ln_iadd hx hb dX12_mark_163 ?_
                  refine lv_iload_n hx hb dX12_mark_164 rfl (lv_at hl 4 rfl) ?_
                  refine ln_iastN hx hb hK hP hD hS 1 0 rfl rfl (by decide) (by omega) dX12_mark_165 (fun H locs hP hD hS => ?_)
                  have hP : va_P D vwCl (mW ad cI cJ (upN (upN (upN a (202 + (6) * (a (1))) (i0)) (202 + (6) * (a (1)) + 1) (ki0)) (202 + (6) * (a (1)) + 2) (u0)) (cpN kp a (598 * ke) 598) bt sz sheets go ro car ((ke + 1) % 20) (kmU km) fi gm bs bu n1 n2 n3 n4 n5 n6 n7 px py db) H := hP
                  have hD : va_D A (mW ad cI cJ (upN (upN (upN a (202 + (6) * (a (1))) (i0)) (202 + (6) * (a (1)) + 1) (ki0)) (202 + (6) * (a (1)) + 2) (u0)) (cpN kp a (598 * ke) 598) bt sz sheets go ro car ((ke + 1) % 20) (kmU km) fi gm bs bu n1 n2 n3 n4 n5 n6 n7 px py db) := hD
                  refine lv_aload_n hx hb dX12_mark_166 rfl (lv_at hl 1 rfl) ?_
                  refine va_get (D := D) (ci := 12) (v := .ref (ad 1)) (C := RX12) (T := TX12) (N := 24) hx hb hts hinX12 hown hK hP 0 rfl rfl 0 (by decide) (hts (.fieldLink RX12 9 "CornDeskModel" "now" "[I") (by decide +kernel)) (fun _ h9 => h9) rfl dX12_mark_167 ?_
                  refine lv_sipush (v := (nI (202))) hx hb dX12_mark_170 (by decide) ?_
                  refine lv_bipush (v := (nI (6))) hx hb dX12_mark_173 (by decide) ?_
                  refine lv_iload hx hb dX12_mark_175 (lv_at hl 0 rfl) ?_
                  refine ln_imul hx hb dX12_mark_177 ?_
                  refine ln_iadd hx hb dX12_mark_178 ?_
                  refine lv_iconst (v := (nI (3))) hx hb dX12_mark_179 (by decide) ?_
                  refine ln_iadd hx hb dX12_mark_180 ?_
                  refine lv_iload hx hb dX12_mark_181 (lv_at hl 5 rfl) ?_
                  refine ln_iastN hx hb hK hP hD hS 1 0 rfl rfl (by decide) (by omega) dX12_mark_183 (fun H locs hP hD hS => ?_)
                  have hP : va_P D vwCl (mW ad cI cJ (upN (upN (upN (upN a (202 + (6) * (a (1))) (i0)) (202 + (6) * (a (1)) + 1) (ki0)) (202 + (6) * (a (1)) + 2) (u0)) (202 + (6) * (a (1)) + 3) (v0)) (cpN kp a (598 * ke) 598) bt sz sheets go ro car ((ke + 1) % 20) (kmU km) fi gm bs bu n1 n2 n3 n4 n5 n6 n7 px py db) H := hP
                  have hD : va_D A (mW ad cI cJ (upN (upN (upN (upN a (202 + (6) * (a (1))) (i0)) (202 + (6) * (a (1)) + 1) (ki0)) (202 + (6) * (a (1)) + 2) (u0)) (202 + (6) * (a (1)) + 3) (v0)) (cpN kp a (598 * ke) 598) bt sz sheets go ro car ((ke + 1) % 20) (kmU km) fi gm bs bu n1 n2 n3 n4 n5 n6 n7 px py db) := hD
                  refine lv_aload_n hx hb dX12_mark_184 rfl (lv_at hl 1 rfl) ?_
                  refine va_get (D := D) (ci := 12) (v := .ref (ad 1)) (C := RX12) (T := TX12) (N := 24) hx hb hts hinX12 hown hK hP 0 rfl rfl 0 (by decide) (hts (.fieldLink RX12 9 "CornDeskModel" "now" "[I") (by decide +kernel)) (fun _ h9 => h9) rfl dX12_mark_185 ?_
                  refine lv_sipush (v := (nI (202))) hx hb dX12_mark_188 (by decide) ?_
                  refine lv_bipush (v := (nI (6))) hx hb dX12_mark_191 (by decide) ?_
                  refine lv_iload hx hb dX12_mark_193 (lv_at hl 0 rfl) ?_
                  refine ln_imul hx hb dX12_mark_195 ?_
                  refine ln_iadd hx hb dX12_mark_196 ?_
                  refine lv_iconst (v := (nI (4))) hx hb dX12_mark_197 (by decide) ?_
                  refine ln_iadd hx hb dX12_mark_198 ?_
                  refine lv_iload hx hb dX12_mark_199 (lv_at hl 6 rfl) ?_
                  refine ln_iastN hx hb hK hP hD hS 1 0 rfl rfl (by decide) (by omega) dX12_mark_201 (fun H locs hP hD hS => ?_)
                  have hP : va_P D vwCl (mW ad cI cJ (upN (upN (upN (upN (upN a (202 + (6) * (a (1))) (i0)) (202 + (6) * (a (1)) + 1) (ki0)) (202 + (6) * (a (1)) + 2) (u0)) (202 + (6) * (a (1)) + 3) (v0)) (202 + (6) * (a (1)) + 4) (s0)) (cpN kp a (598 * ke) 598) bt sz sheets go ro car ((ke + 1) % 20) (kmU km) fi gm bs bu n1 n2 n3 n4 n5 n6 n7 px py db) H := hP
                  have hD : va_D A (mW ad cI cJ (upN (upN (upN (upN (upN a (202 + (6) * (a (1))) (i0)) (202 + (6) * (a (1)) + 1) (ki0)) (202 + (6) * (a (1)) + 2) (u0)) (202 + (6) * (a (1)) + 3) (v0)) (202 + (6) * (a (1)) + 4) (s0)) (cpN kp a (598 * ke) 598) bt sz sheets go ro car ((ke + 1) % 20) (kmU km) fi gm bs bu n1 n2 n3 n4 n5 n6 n7 px py db) := hD
                  refine lv_aload_n hx hb dX12_mark_202 rfl (lv_at hl 1 rfl) ?_
                  refine va_get (D := D) (ci := 12) (v := .ref (ad 1)) (C := RX12) (T := TX12) (N := 24) hx hb hts hinX12 hown hK hP 0 rfl rfl 0 (by decide) (hts (.fieldLink RX12 9 "CornDeskModel" "now" "[I") (by decide +kernel)) (fun _ h9 => h9) rfl dX12_mark_203 ?_
                  refine lv_sipush (v := (nI (202))) hx hb dX12_mark_206 (by decide) ?_
                  refine lv_bipush (v := (nI (6))) hx hb dX12_mark_209 (by decide) ?_
                  refine lv_iload hx hb dX12_mark_211 (lv_at hl 0 rfl) ?_
                  refine ln_imul hx hb dX12_mark_213 ?_
                  refine ln_iadd hx hb dX12_mark_214 ?_
                  refine lv_iconst (v := (nI (5))) hx hb dX12_mark_215 (by decide) ?_
                  refine ln_iadd hx hb dX12_mark_216 ?_
                  refine lv_iload hx hb dX12_mark_217 (lv_at hl 7 rfl) ?_
                  refine ln_iastN hx hb hK hP hD hS 1 0 rfl rfl (by decide) (by omega) dX12_mark_219 (fun H locs hP hD hS => ?_)
                  have hP : va_P D vwCl (mW ad cI cJ (upN (upN (upN (upN (upN (upN a (202 + (6) * (a (1))) (i0)) (202 + (6) * (a (1)) + 1) (ki0)) (202 + (6) * (a (1)) + 2) (u0)) (202 + (6) * (a (1)) + 3) (v0)) (202 + (6) * (a (1)) + 4) (s0)) (202 + (6) * (a (1)) + 5) (g0)) (cpN kp a (598 * ke) 598) bt sz sheets go ro car ((ke + 1) % 20) (kmU km) fi gm bs bu n1 n2 n3 n4 n5 n6 n7 px py db) H := hP
                  have hD : va_D A (mW ad cI cJ (upN (upN (upN (upN (upN (upN a (202 + (6) * (a (1))) (i0)) (202 + (6) * (a (1)) + 1) (ki0)) (202 + (6) * (a (1)) + 2) (u0)) (202 + (6) * (a (1)) + 3) (v0)) (202 + (6) * (a (1)) + 4) (s0)) (202 + (6) * (a (1)) + 5) (g0)) (cpN kp a (598 * ke) 598) bt sz sheets go ro car ((ke + 1) % 20) (kmU km) fi gm bs bu n1 n2 n3 n4 n5 n6 n7 px py db) := hD
                  refine lv_aload_n hx hb dX12_mark_220 rfl (lv_at hl 1 rfl) ?_
                  refine va_get (D := D) (ci := 12) (v := .ref (ad 1)) (C := RX12) (T := TX12) (N := 24) hx hb hts hinX12 hown hK hP 0 rfl rfl 0 (by decide) (hts (.fieldLink RX12 9 "CornDeskModel" "now" "[I") (by decide +kernel)) (fun _ h9 => h9) rfl dX12_mark_221 ?_
                  refine lv_iconst (v := (nI (1))) hx hb dX12_mark_224 (by decide) ?_
                  refine lv_dup2_11 hx hb dX12_mark_225 rfl rfl ?_
                  refine ln_iald hx hb hK hP 1 0 rfl rfl (by decide) (by omega) dX12_mark_226 ?_
                  refine ln_eqi (y := (nI (a (1)))) (congrArg nI (by simp only [upN, if_true]; (repeat first | rw [if_neg (by omega)] | rw [if_pos (by omega)]))) ?_
                  refine lv_iconst (v := (nI (1))) hx hb dX12_mark_227 (by decide) ?_
                  refine ln_iadd hx hb dX12_mark_228 ?_
                  refine ln_iastN hx hb hK hP hD hS 1 0 rfl rfl (by decide) (by omega) dX12_mark_229 (fun H locs hP hD hS => ?_)
                  have hP : va_P D vwCl (mW ad cI cJ (upN (upN (upN (upN (upN (upN (upN a (202 + (6) * (a (1))) (i0)) (202 + (6) * (a (1)) + 1) (ki0)) (202 + (6) * (a (1)) + 2) (u0)) (202 + (6) * (a (1)) + 3) (v0)) (202 + (6) * (a (1)) + 4) (s0)) (202 + (6) * (a (1)) + 5) (g0)) (1) (a (1) + 1)) (cpN kp a (598 * ke) 598) bt sz sheets go ro car ((ke + 1) % 20) (kmU km) fi gm bs bu n1 n2 n3 n4 n5 n6 n7 px py db) H := hP
                  have hD : va_D A (mW ad cI cJ (upN (upN (upN (upN (upN (upN (upN a (202 + (6) * (a (1))) (i0)) (202 + (6) * (a (1)) + 1) (ki0)) (202 + (6) * (a (1)) + 2) (u0)) (202 + (6) * (a (1)) + 3) (v0)) (202 + (6) * (a (1)) + 4) (s0)) (202 + (6) * (a (1)) + 5) (g0)) (1) (a (1) + 1)) (cpN kp a (598 * ke) 598) bt sz sheets go ro car ((ke + 1) % 20) (kmU km) fi gm bs bu n1 n2 n3 n4 n5 n6 n7 px py db) := hD
                  refine lv_iload hx hb dX12_mark_230 (lv_at hl 0 rfl) ?_
                  refine lv_i2l hx hb dX12_mark_232 rfl ?_
                  exact hret _ _ _ _ _ _ (Or.inr ⟨i0, ki0, u0, v0, s0, g0, ⟨rfl, rfl, rfl, rfl, rfl, rfl⟩, ⟨hi, hk, hu, hv, hs2, hg, fun _ => hs1, fun h => absurd c5 h⟩, Or.inr ⟨by omega, rfl, rfl⟩⟩) hP hD hS dX12_mark_233
                · refine lv_aload_n hx hb dX12_mark_105 rfl (lv_at hl 1 rfl) ?_
                  refine lv_ldc2 (v := (-1000000005)) hx hb hown (hts (.constantLong RX12 64 (-1000000005)) (by decide +kernel)) dX12_mark_106 ?_
                  refine mq_Vl (As := [.long ((-1000000005))]) (rest := []) (ci := 12) (k0 := 0) ⟨hx, hb, hml, hown, hts⟩ (cM_finds l D ad cI cJ a kp bt sz sheets go ro car ke km fi gm bs bu n1 n2 n3 n4 n5 n6 n7 px py db ((-1000000005)) ) (cwV 1 hts gX12_mark_X12_finds rfl rfl rfl (by decide +kernel) ⟨Nat.le_of_ble_eq_true rfl, Nat.le_of_ble_eq_true rfl⟩) rfl rfl hP hK hD hS hA rfl hl.1 rfl (Nat.le_of_ble_eq_true rfl) dX12_mark_109 ⟨Nat.le_of_ble_eq_true rfl, Nat.le_of_ble_eq_true rfl⟩ (fun r w1 H locs hq hP hD hS => ?_)
                  obtain ⟨rfl, rfl⟩ := hq
                  exact hret _ _ _ _ _ _ (Or.inr ⟨i0, ki0, u0, v0, s0, g0, ⟨rfl, rfl, rfl, rfl, rfl, rfl⟩, ⟨hi, hk, hu, hv, hs2, hg, fun _ => hs1, fun h => absurd c5 h⟩, Or.inl ⟨c8, rfl, rfl⟩⟩) hP hD hS dX12_mark_112
              · refine lv_goto (tgt := 82) hx hb dX12_mark_69 (by decide) ?_
                refine lv_aload_n hx hb dX12_mark_82 rfl (lv_at hl 0 rfl) ?_
                refine lv_ldc2 (v := (-1000000001)) hx hb hown (hts (.constantLong RX12 76 (-1000000001)) (by decide +kernel)) dX12_mark_83 ?_
                refine mq_Vl (As := [.long ((-1000000001))]) (rest := []) (ci := 12) (k0 := 0) ⟨hx, hb, hml, hown, hts⟩ (cM_finds l D ad cI cJ a kp bt sz sheets go ro car ke km fi gm bs bu n1 n2 n3 n4 n5 n6 n7 px py db ((-1000000001)) ) (cwV 1 hts gX12_mark_X12_finds rfl rfl rfl (by decide +kernel) ⟨Nat.le_of_ble_eq_true rfl, Nat.le_of_ble_eq_true rfl⟩) rfl rfl hP hK hD hS hA rfl hl.1 rfl (Nat.le_of_ble_eq_true rfl) dX12_mark_86 ⟨Nat.le_of_ble_eq_true rfl, Nat.le_of_ble_eq_true rfl⟩ (fun r w1 H locs hq hP hD hS => ?_)
                obtain ⟨rfl, rfl⟩ := hq
                exact hret _ _ _ _ _ _ (Or.inl ⟨(fun hh => by obtain ⟨i, k, u', v', s', g', ⟨e1, e2, e3, e4, e5, e6⟩, h⟩ := hh; subst e5; subst e6; have ek := (nI_eq (by omega) (by omega)).mp e2; exact c7 (rg_nI (Nat.zero_le _) h.2.2.2.2.2.1 (by decide))), rfl, rfl⟩) hP hD hS dX12_mark_89
        · refine lv_aload_n hx hb dX12_mark_32 rfl (lv_at hl 0 rfl) ?_
          refine lv_ldc2 (v := (-1000000001)) hx hb hown (hts (.constantLong RX12 76 (-1000000001)) (by decide +kernel)) dX12_mark_33 ?_
          refine mq_Vl (As := [.long ((-1000000001))]) (rest := []) (ci := 12) (k0 := 0) ⟨hx, hb, hml, hown, hts⟩ (cM_finds l D ad cI cJ a kp bt sz sheets go ro car ke km fi gm bs bu n1 n2 n3 n4 n5 n6 n7 px py db ((-1000000001)) ) (cwV 1 hts gX12_mark_X12_finds rfl rfl rfl (by decide +kernel) ⟨Nat.le_of_ble_eq_true rfl, Nat.le_of_ble_eq_true rfl⟩) rfl rfl hP hK hD hS hA rfl hl.1 rfl (Nat.le_of_ble_eq_true rfl) dX12_mark_36 ⟨Nat.le_of_ble_eq_true rfl, Nat.le_of_ble_eq_true rfl⟩ (fun r w1 H locs hq hP hD hS => ?_)
          obtain ⟨rfl, rfl⟩ := hq
          exact hret _ _ _ _ _ _ (Or.inl ⟨(fun hh => by obtain ⟨i, k, u', v', s', g', ⟨e1, e2, e3, e4, e5, e6⟩, h⟩ := hh; subst e1; subst e2; subst e3; subst e4; subst e5; subst e6; exact c4 (rg_nI (Nat.zero_le _) h.2.2.2.1 (by decide))), rfl, rfl⟩) hP hD hS dX12_mark_39
set_option maxHeartbeats 4000000 in
set_option maxRecDepth 100000 in
theorem cM_field (l : Launch) (D : va_G) (ad : Nat → Nat) (cI cJ : ClassId) (a kp bt sz : Nat → Nat) (sheets : Nat → Int32) (go ro : Nat → Nat) (car : Nat → Int32) (ke km fi gm bs bu : Nat) (n1 n2 n3 n4 n5 n6 n7 : Int64) (px py db : Nat → Int64) (x : Int32) (y : Int32) (z : Int32) (h3 : a 3 ≤ 8) (he : ke < 20) (hm : km ≤ 20) : mq_l l D (mT cI cJ) yX12_field wsX12_field 1 0 0 22 [.ref (ad 0), .int (x), .int (y), .int (z)] (mW ad cI cJ a kp bt sz sheets go ro car ke km fi gm bs bu n1 n2 n3 n4 n5 n6 n7 px py db) (fun r w1 => (¬ (rg 0 3 x ∧ rg 1 99 y ∧ rg 1 9 z) ∧ r = -1000000001 ∧ w1 = mW ad cI cJ a kp bt sz sheets go ro car ke km (fi + 1) gm bs bu n1 n2 n3 n4 n5 n6 n7 px py db) ∨ (∃ so ch ho : Nat, (x = nI so ∧ y = nI ch ∧ z = nI ho ∧ so ≤ 3 ∧ 1 ≤ ch ∧ ch ≤ 99 ∧ 1 ≤ ho ∧ ho ≤ 9) ∧ ((a 3 = 8 ∧ r = -1000000005 ∧ w1 = mW ad cI cJ a kp bt sz sheets go ro car ke km (fi + 1) gm bs bu n1 n2 n3 n4 n5 n6 n7 px py db) ∨ (a 3 < 8 ∧ r = (nI (a 3)).toInt64 ∧ w1 = mW ad cI cJ ((upN (upN (upN (upN (upN (upN a (334 + 5 * a 3) so) (334 + 5 * a 3 + 1) ch) (334 + 5 * a 3 + 2) ho) (334 + 5 * a 3 + 3) 0) (334 + 5 * a 3 + 4) 0) 3 (a 3 + 1))) (cpN kp a (598 * ke) 598) bt sz sheets go ro car ((ke + 1) % 20) (kmU km) fi gm bs bu n1 n2 n3 n4 n5 n6 n7 px py db)))) := by
  refine mq_l_of (cc := cX12_field) (maxL := 5) (by decide) rfl (Nat.le_of_ble_eq_true rfl) ?_
  intro p e s m args below meth c A Q ls hx hb hts hown hml hnm hA hP hK hD hS hl hret
  have hown : s.vm.findClass RX12 = some m.cls := hown
  have hinX12 : ∀ w ∈ u_ws RX12 TX12 24, w ∈ wsX12_field := by decide +kernel
  have hl : lv_has ls 5 [(0, .ref (ad 0)), (1, .int (x)), (2, .int (y)), (3, .int (z))] := hl
  refine lv_iload_n hx hb dX12_field_0 rfl (lv_at hl 1 rfl) ?_
  refine lv_iconst (v := (nI (0))) hx hb dX12_field_1 (by decide) ?_
  refine lv_iconst (v := (nI (3))) hx hb dX12_field_2 (by decide) ?_
  refine mq_Si (As := [.int (x), .int (nI (0)), .int (nI (3))]) (rest := []) ⟨hx, hb, hml, hown, hts⟩ (cM_in l D _ (x) (nI (0)) (nI (3)) ) (cwS 3 hts gX12_field_X12_in rfl rfl rfl (by decide +kernel) ⟨Nat.le_of_ble_eq_true rfl, Nat.le_of_ble_eq_true rfl⟩) hP hK hS hA rfl hl.1 rfl (Nat.le_of_ble_eq_true rfl) dX12_field_3 ⟨Nat.le_of_ble_eq_true rfl, Nat.le_of_ble_eq_true rfl⟩ (fun r w1 H locs hq hP hS => ?_)
  subst hq
  refine lb_if_eq (tgt := 29) hx hb dX12_field_6 (by decide) (fun c1 => ?_) (fun c1 => ?_)
  · refine lv_aload_n hx hb dX12_field_29 rfl (lv_at hl 0 rfl) ?_
    refine lv_ldc2 (v := (-1000000001)) hx hb hown (hts (.constantLong RX12 76 (-1000000001)) (by decide +kernel)) dX12_field_30 ?_
    refine mq_Vl (As := [.long ((-1000000001))]) (rest := []) (ci := 12) (k0 := 0) ⟨hx, hb, hml, hown, hts⟩ (cM_finds l D ad cI cJ a kp bt sz sheets go ro car ke km fi gm bs bu n1 n2 n3 n4 n5 n6 n7 px py db ((-1000000001)) ) (cwV 1 hts gX12_field_X12_finds rfl rfl rfl (by decide +kernel) ⟨Nat.le_of_ble_eq_true rfl, Nat.le_of_ble_eq_true rfl⟩) rfl rfl hP hK hD hS hA rfl hl.1 rfl (Nat.le_of_ble_eq_true rfl) dX12_field_33 ⟨Nat.le_of_ble_eq_true rfl, Nat.le_of_ble_eq_true rfl⟩ (fun r w1 H locs hq hP hD hS => ?_)
    obtain ⟨rfl, rfl⟩ := hq
    exact hret _ _ _ _ _ _ (Or.inl ⟨fun h => c1 h.1, rfl, rfl⟩) hP hD hS dX12_field_36
  · refine lv_iload_n hx hb dX12_field_9 rfl (lv_at hl 2 rfl) ?_
    refine lv_iconst (v := (nI (1))) hx hb dX12_field_10 (by decide) ?_
    refine lv_bipush (v := (nI (99))) hx hb dX12_field_11 (by decide) ?_
    refine mq_Si (As := [.int (y), .int (nI (1)), .int (nI (99))]) (rest := []) ⟨hx, hb, hml, hown, hts⟩ (cM_in l D _ (y) (nI (1)) (nI (99)) ) (cwS 3 hts gX12_field_X12_in rfl rfl rfl (by decide +kernel) ⟨Nat.le_of_ble_eq_true rfl, Nat.le_of_ble_eq_true rfl⟩) hP hK hS hA rfl hl.1 rfl (Nat.le_of_ble_eq_true rfl) dX12_field_13 ⟨Nat.le_of_ble_eq_true rfl, Nat.le_of_ble_eq_true rfl⟩ (fun r w1 H locs hq hP hS => ?_)
    subst hq
    refine lb_if_eq (tgt := 29) hx hb dX12_field_16 (by decide) (fun c2 => ?_) (fun c2 => ?_)
    · refine lv_aload_n hx hb dX12_field_29 rfl (lv_at hl 0 rfl) ?_
      refine lv_ldc2 (v := (-1000000001)) hx hb hown (hts (.constantLong RX12 76 (-1000000001)) (by decide +kernel)) dX12_field_30 ?_
      refine mq_Vl (As := [.long ((-1000000001))]) (rest := []) (ci := 12) (k0 := 0) ⟨hx, hb, hml, hown, hts⟩ (cM_finds l D ad cI cJ a kp bt sz sheets go ro car ke km fi gm bs bu n1 n2 n3 n4 n5 n6 n7 px py db ((-1000000001)) ) (cwV 1 hts gX12_field_X12_finds rfl rfl rfl (by decide +kernel) ⟨Nat.le_of_ble_eq_true rfl, Nat.le_of_ble_eq_true rfl⟩) rfl rfl hP hK hD hS hA rfl hl.1 rfl (Nat.le_of_ble_eq_true rfl) dX12_field_33 ⟨Nat.le_of_ble_eq_true rfl, Nat.le_of_ble_eq_true rfl⟩ (fun r w1 H locs hq hP hD hS => ?_)
      obtain ⟨rfl, rfl⟩ := hq
      exact hret _ _ _ _ _ _ (Or.inl ⟨fun h => c2 h.2.1, rfl, rfl⟩) hP hD hS dX12_field_36
    · refine lv_iload_n hx hb dX12_field_19 rfl (lv_at hl 3 rfl) ?_
      refine lv_iconst (v := (nI (1))) hx hb dX12_field_20 (by decide) ?_
      refine lv_bipush (v := (nI (9))) hx hb dX12_field_21 (by decide) ?_
      refine mq_Si (As := [.int (z), .int (nI (1)), .int (nI (9))]) (rest := []) ⟨hx, hb, hml, hown, hts⟩ (cM_in l D _ (z) (nI (1)) (nI (9)) ) (cwS 3 hts gX12_field_X12_in rfl rfl rfl (by decide +kernel) ⟨Nat.le_of_ble_eq_true rfl, Nat.le_of_ble_eq_true rfl⟩) hP hK hS hA rfl hl.1 rfl (Nat.le_of_ble_eq_true rfl) dX12_field_23 ⟨Nat.le_of_ble_eq_true rfl, Nat.le_of_ble_eq_true rfl⟩ (fun r w1 H locs hq hP hS => ?_)
      subst hq
      refine lb_if_ne (tgt := 37) hx hb dX12_field_26 (by decide) (fun c3 => ?_) (fun c3 => ?_)
      · obtain ⟨so, -, hso, rfl⟩ := rg_of c1 (by decide) (by decide)
        obtain ⟨ch, hc1, hc2, rfl⟩ := rg_of c2 (by decide) (by decide)
        obtain ⟨ho, hh1, hh2, rfl⟩ := rg_of c3 (by decide) (by decide)
        refine lv_aload_n hx hb dX12_field_37 rfl (lv_at hl 0 rfl) ?_
        refine va_get (D := D) (ci := 12) (v := .ref (ad 1)) (C := RX12) (T := TX12) (N := 24) hx hb hts hinX12 hown hK hP 0 rfl rfl 0 (by decide) (hts (.fieldLink RX12 9 "CornDeskModel" "now" "[I") (by decide +kernel)) (fun _ h9 => h9) rfl dX12_field_38 ?_
        refine lv_iconst (v := (nI (3))) hx hb dX12_field_41 (by decide) ?_
        refine ln_iald hx hb hK hP 1 0 rfl rfl (by decide) (by omega) dX12_field_42 ?_
        refine lv_istore (lv' := [(4, .int (nI (a (3)))), (0, .ref (ad 0)), (1, .int (nI (so))), (2, .int (nI (ch))), (3, .int (nI (ho)))]) hx hb dX12_field_43 hl (by decide) rfl (fun ls hl => ?_)
        refine lv_iload hx hb dX12_field_45 (lv_at hl 0 rfl) ?_
        refine lv_bipush (v := (nI (8))) hx hb dX12_field_47 (by decide) ?_
        refine ln_icmp_ne (tgt := 60) hx hb dX12_field_49 (by decide) (by omega) (by omega) (fun c4 => ?_) (fun c4 => ?_)
        · refine lv_aload_n hx hb dX12_field_60 rfl (lv_at hl 1 rfl) ?_
          refine mq_Vv (As := []) (rest := []) (ci := 12) (k0 := 0) ⟨hx, hb, hml, hown, hts⟩ (cM_keep l D ad cI cJ a kp bt sz sheets go ro car ke km fi gm bs bu n1 n2 n3 n4 n5 n6 n7 px py db  he hm) (cwV 0 hts gX12_field_X12_keep rfl rfl rfl (by decide +kernel) ⟨Nat.le_of_ble_eq_true rfl, Nat.le_of_ble_eq_true rfl⟩) rfl rfl hP hK hD hS hA rfl hl.1 rfl (Nat.le_of_ble_eq_true rfl) dX12_field_61 ⟨Nat.le_of_ble_eq_true rfl, Nat.le_of_ble_eq_true rfl⟩ (fun w1 H locs hq hP hD hS => ?_)
          subst hq
          refine lv_aload_n hx hb dX12_field_64 rfl (lv_at hl 1 rfl) ?_
          refine va_get (D := D) (ci := 12) (v := .ref (ad 1)) (C := RX12) (T := TX12) (N := 24) hx hb hts hinX12 hown hK hP 0 rfl rfl 0 (by decide) (hts (.fieldLink RX12 9 "CornDeskModel" "now" "[I") (by decide +kernel)) (fun _ h9 => h9) rfl dX12_field_65 ?_
          refine lv_sipush (v := (nI (334))) hx hb dX12_field_68 (by decide) ?_
          refine lv_iconst (v := (nI (5))) hx hb dX12_field_71 (by decide) ?_
          refine lv_iload hx hb dX12_field_72 (lv_at hl 0 rfl) ?_
          refine ln_imul hx hb dX12_field_74 ?_
          refine ln_iadd hx hb dX12_field_75 ?_
          refine lv_iload_n hx hb dX12_field_76 rfl (lv_at hl 2 rfl) ?_
          refine ln_iastN hx hb hK hP hD hS 1 0 rfl rfl (by decide) (by omega) dX12_field_77 (fun H locs hP hD hS => ?_)
          have hP : va_P D vwCl (mW ad cI cJ (upN a (334 + (5) * (a (3))) (so)) (cpN kp a (598 * ke) 598) bt sz sheets go ro car ((ke + 1) % 20) (kmU km) fi gm bs bu n1 n2 n3 n4 n5 n6 n7 px py db) H := hP
          have hD : va_D A (mW ad cI cJ (upN a (334 + (5) * (a (3))) (so)) (cpN kp a (598 * ke) 598) bt sz sheets go ro car ((ke + 1) % 20) (kmU km) fi gm bs bu n1 n2 n3 n4 n5 n6 n7 px py db) := hD
          refine lv_aload_n hx hb dX12_field_78 rfl (lv_at hl 1 rfl) ?_
          refine va_get (D := D) (ci := 12) (v := .ref (ad 1)) (C := RX12) (T := TX12) (N := 24) hx hb hts hinX12 hown hK hP 0 rfl rfl 0 (by decide) (hts (.fieldLink RX12 9 "CornDeskModel" "now" "[I") (by decide +kernel)) (fun _ h9 => h9) rfl dX12_field_79 ?_
          refine lv_sipush (v := (nI (334))) hx hb dX12_field_82 (by decide) ?_
          refine lv_iconst (v := (nI (5))) hx hb dX12_field_85 (by decide) ?_
          refine lv_iload hx hb dX12_field_86 (lv_at hl 0 rfl) ?_
          refine ln_imul hx hb dX12_field_88 ?_
          refine ln_iadd hx hb dX12_field_89 ?_
          refine lv_iconst (v := (nI (1))) hx hb dX12_field_90 (by decide) ?_
          refine ln_iadd hx hb dX12_field_91 ?_
          refine lv_iload_n hx hb dX12_field_92 rfl (lv_at hl 3 rfl) ?_
          refine ln_iastN hx hb hK hP hD hS 1 0 rfl rfl (by decide) (by omega) dX12_field_93 (fun H locs hP hD hS => ?_)
          have hP : va_P D vwCl (mW ad cI cJ (upN (upN a (334 + (5) * (a (3))) (so)) (334 + (5) * (a (3)) + 1) (ch)) (cpN kp a (598 * ke) 598) bt sz sheets go ro car ((ke + 1) % 20) (kmU km) fi gm bs bu n1 n2 n3 n4 n5 n6 n7 px py db) H := hP
          have hD : va_D A (mW ad cI cJ (upN (upN a (334 + (5) * (a (3))) (so)) (334 + (5) * (a (3)) + 1) (ch)) (cpN kp a (598 * ke) 598) bt sz sheets go ro car ((ke + 1) % 20) (kmU km) fi gm bs bu n1 n2 n3 n4 n5 n6 n7 px py db) := hD
          refine lv_aload_n hx hb dX12_field_94 rfl (lv_at hl 1 rfl) ?_
          refine va_get (D := D) (ci := 12) (v := .ref (ad 1)) (C := RX12) (T := TX12) (N := 24) hx hb hts hinX12 hown hK hP 0 rfl rfl 0 (by decide) (hts (.fieldLink RX12 9 "CornDeskModel" "now" "[I") (by decide +kernel)) (fun _ h9 => h9) rfl dX12_field_95 ?_
          refine lv_sipush (v := (nI (334))) hx hb dX12_field_98 (by decide) ?_
          refine lv_iconst (v := (nI (5))) hx hb dX12_field_101 (by decide) ?_
          refine lv_iload hx hb dX12_field_102 (lv_at hl 0 rfl) ?_
          refine ln_imul hx hb dX12_field_104 ?_
          refine ln_iadd hx hb dX12_field_105 ?_
          refine lv_iconst (v := (nI (2))) hx hb dX12_field_106 (by decide) ?_
          refine ln_iadd hx hb dX12_field_107 ?_
          refine lv_iload_n hx hb dX12_field_108 rfl (lv_at hl 4 rfl) ?_
          refine ln_iastN hx hb hK hP hD hS 1 0 rfl rfl (by decide) (by omega) dX12_field_109 (fun H locs hP hD hS => ?_)
          have hP : va_P D vwCl (mW ad cI cJ (upN (upN (upN a (334 + (5) * (a (3))) (so)) (334 + (5) * (a (3)) + 1) (ch)) (334 + (5) * (a (3)) + 2) (ho)) (cpN kp a (598 * ke) 598) bt sz sheets go ro car ((ke + 1) % 20) (kmU km) fi gm bs bu n1 n2 n3 n4 n5 n6 n7 px py db) H := hP
          have hD : va_D A (mW ad cI cJ (upN (upN (upN a (334 + (5) * (a (3))) (so)) (334 + (5) * (a (3)) + 1) (ch)) (334 + (5) * (a (3)) + 2) (ho)) (cpN kp a (598 * ke) 598) bt sz sheets go ro car ((ke + 1) % 20) (kmU km) fi gm bs bu n1 n2 n3 n4 n5 n6 n7 px py db) := hD
          refine lv_aload_n hx hb dX12_field_110 rfl (lv_at hl 1 rfl) ?_
          refine va_get (D := D) (ci := 12) (v := .ref (ad 1)) (C := RX12) (T := TX12) (N := 24) hx hb hts hinX12 hown hK hP 0 rfl rfl 0 (by decide) (hts (.fieldLink RX12 9 "CornDeskModel" "now" "[I") (by decide +kernel)) (fun _ h9 => h9) rfl dX12_field_111 ?_
          refine lv_sipush (v := (nI (334))) hx hb dX12_field_114 (by decide) ?_
          refine lv_iconst (v := (nI (5))) hx hb dX12_field_117 (by decide) ?_
          refine lv_iload hx hb dX12_field_118 (lv_at hl 0 rfl) ?_
          refine ln_imul hx hb dX12_field_120 ?_
          refine ln_iadd hx hb dX12_field_121 ?_
          refine lv_iconst (v := (nI (3))) hx hb dX12_field_122 (by decide) ?_
          refine ln_iadd hx hb dX12_field_123 ?_
          refine lv_iconst (v := (nI (0))) hx hb dX12_field_124 (by decide) ?_
          refine ln_iastN hx hb hK hP hD hS 1 0 rfl rfl (by decide) (by omega) dX12_field_125 (fun H locs hP hD hS => ?_)
          have hP : va_P D vwCl (mW ad cI cJ (upN (upN (upN (upN a (334 + (5) * (a (3))) (so)) (334 + (5) * (a (3)) + 1) (ch)) (334 + (5) * (a (3)) + 2) (ho)) (334 + (5) * (a (3)) + 3) (0)) (cpN kp a (598 * ke) 598) bt sz sheets go ro car ((ke + 1) % 20) (kmU km) fi gm bs bu n1 n2 n3 n4 n5 n6 n7 px py db) H := hP
          have hD : va_D A (mW ad cI cJ (upN (upN (upN (upN a (334 + (5) * (a (3))) (so)) (334 + (5) * (a (3)) + 1) (ch)) (334 + (5) * (a (3)) + 2) (ho)) (334 + (5) * (a (3)) + 3) (0)) (cpN kp a (598 * ke) 598) bt sz sheets go ro car ((ke + 1) % 20) (kmU km) fi gm bs bu n1 n2 n3 n4 n5 n6 n7 px py db) := hD
          refine lv_aload_n hx hb dX12_field_126 rfl (lv_at hl 1 rfl) ?_
          refine va_get (D := D) (ci := 12) (v := .ref (ad 1)) (C := RX12) (T := TX12) (N := 24) hx hb hts hinX12 hown hK hP 0 rfl rfl 0 (by decide) (hts (.fieldLink RX12 9 "CornDeskModel" "now" "[I") (by decide +kernel)) (fun _ h9 => h9) rfl dX12_field_127 ?_
          refine lv_sipush (v := (nI (334))) hx hb dX12_field_130 (by decide) ?_
          refine lv_iconst (v := (nI (5))) hx hb dX12_field_133 (by decide) ?_
          refine lv_iload hx hb dX12_field_134 (lv_at hl 0 rfl) ?_
          refine ln_imul hx hb dX12_field_136 ?_
          refine ln_iadd hx hb dX12_field_137 ?_
          refine lv_iconst (v := (nI (4))) hx hb dX12_field_138 (by decide) ?_
          refine ln_iadd hx hb dX12_field_139 ?_
          refine lv_iconst (v := (nI (0))) hx hb dX12_field_140 (by decide) ?_
          refine ln_iastN hx hb hK hP hD hS 1 0 rfl rfl (by decide) (by omega) dX12_field_141 (fun H locs hP hD hS => ?_)
          have hP : va_P D vwCl (mW ad cI cJ (upN (upN (upN (upN (upN a (334 + (5) * (a (3))) (so)) (334 + (5) * (a (3)) + 1) (ch)) (334 + (5) * (a (3)) + 2) (ho)) (334 + (5) * (a (3)) + 3) (0)) (334 + (5) * (a (3)) + 4) (0)) (cpN kp a (598 * ke) 598) bt sz sheets go ro car ((ke + 1) % 20) (kmU km) fi gm bs bu n1 n2 n3 n4 n5 n6 n7 px py db) H := hP
          have hD : va_D A (mW ad cI cJ (upN (upN (upN (upN (upN a (334 + (5) * (a (3))) (so)) (334 + (5) * (a (3)) + 1) (ch)) (334 + (5) * (a (3)) + 2) (ho)) (334 + (5) * (a (3)) + 3) (0)) (334 + (5) * (a (3)) + 4) (0)) (cpN kp a (598 * ke) 598) bt sz sheets go ro car ((ke + 1) % 20) (kmU km) fi gm bs bu n1 n2 n3 n4 n5 n6 n7 px py db) := hD
          refine lv_aload_n hx hb dX12_field_142 rfl (lv_at hl 1 rfl) ?_
          refine va_get (D := D) (ci := 12) (v := .ref (ad 1)) (C := RX12) (T := TX12) (N := 24) hx hb hts hinX12 hown hK hP 0 rfl rfl 0 (by decide) (hts (.fieldLink RX12 9 "CornDeskModel" "now" "[I") (by decide +kernel)) (fun _ h9 => h9) rfl dX12_field_143 ?_
          refine lv_iconst (v := (nI (3))) hx hb dX12_field_146 (by decide) ?_
          refine lv_dup2_11 hx hb dX12_field_147 rfl rfl ?_
          refine ln_iald hx hb hK hP 1 0 rfl rfl (by decide) (by omega) dX12_field_148 ?_
          refine ln_eqi (y := (nI (a (3)))) (congrArg nI (by simp only [upN, if_true]; (repeat first | rw [if_neg (by omega)] | rw [if_pos (by omega)]))) ?_
          refine lv_iconst (v := (nI (1))) hx hb dX12_field_149 (by decide) ?_
          refine ln_iadd hx hb dX12_field_150 ?_
          refine ln_iastN hx hb hK hP hD hS 1 0 rfl rfl (by decide) (by omega) dX12_field_151 (fun H locs hP hD hS => ?_)
          have hP : va_P D vwCl (mW ad cI cJ (upN (upN (upN (upN (upN (upN a (334 + (5) * (a (3))) (so)) (334 + (5) * (a (3)) + 1) (ch)) (334 + (5) * (a (3)) + 2) (ho)) (334 + (5) * (a (3)) + 3) (0)) (334 + (5) * (a (3)) + 4) (0)) (3) (a (3) + 1)) (cpN kp a (598 * ke) 598) bt sz sheets go ro car ((ke + 1) % 20) (kmU km) fi gm bs bu n1 n2 n3 n4 n5 n6 n7 px py db) H := hP
          have hD : va_D A (mW ad cI cJ (upN (upN (upN (upN (upN (upN a (334 + (5) * (a (3))) (so)) (334 + (5) * (a (3)) + 1) (ch)) (334 + (5) * (a (3)) + 2) (ho)) (334 + (5) * (a (3)) + 3) (0)) (334 + (5) * (a (3)) + 4) (0)) (3) (a (3) + 1)) (cpN kp a (598 * ke) 598) bt sz sheets go ro car ((ke + 1) % 20) (kmU km) fi gm bs bu n1 n2 n3 n4 n5 n6 n7 px py db) := hD
          refine lv_iload hx hb dX12_field_152 (lv_at hl 0 rfl) ?_
          refine lv_i2l hx hb dX12_field_154 rfl ?_
          exact hret _ _ _ _ _ _ (Or.inr ⟨so, ch, ho, ⟨rfl, rfl, rfl, hso, hc1, hc2, hh1, hh2⟩, Or.inr ⟨by omega, rfl, rfl⟩⟩) hP hD hS dX12_field_155
        · refine lv_aload_n hx hb dX12_field_52 rfl (lv_at hl 1 rfl) ?_
          refine lv_ldc2 (v := (-1000000005)) hx hb hown (hts (.constantLong RX12 64 (-1000000005)) (by decide +kernel)) dX12_field_53 ?_
          refine mq_Vl (As := [.long ((-1000000005))]) (rest := []) (ci := 12) (k0 := 0) ⟨hx, hb, hml, hown, hts⟩ (cM_finds l D ad cI cJ a kp bt sz sheets go ro car ke km fi gm bs bu n1 n2 n3 n4 n5 n6 n7 px py db ((-1000000005)) ) (cwV 1 hts gX12_field_X12_finds rfl rfl rfl (by decide +kernel) ⟨Nat.le_of_ble_eq_true rfl, Nat.le_of_ble_eq_true rfl⟩) rfl rfl hP hK hD hS hA rfl hl.1 rfl (Nat.le_of_ble_eq_true rfl) dX12_field_56 ⟨Nat.le_of_ble_eq_true rfl, Nat.le_of_ble_eq_true rfl⟩ (fun r w1 H locs hq hP hD hS => ?_)
          obtain ⟨rfl, rfl⟩ := hq
          exact hret _ _ _ _ _ _ (Or.inr ⟨so, ch, ho, ⟨rfl, rfl, rfl, hso, hc1, hc2, hh1, hh2⟩, Or.inl ⟨c4, rfl, rfl⟩⟩) hP hD hS dX12_field_59
      · refine lv_aload_n hx hb dX12_field_29 rfl (lv_at hl 0 rfl) ?_
        refine lv_ldc2 (v := (-1000000001)) hx hb hown (hts (.constantLong RX12 76 (-1000000001)) (by decide +kernel)) dX12_field_30 ?_
        refine mq_Vl (As := [.long ((-1000000001))]) (rest := []) (ci := 12) (k0 := 0) ⟨hx, hb, hml, hown, hts⟩ (cM_finds l D ad cI cJ a kp bt sz sheets go ro car ke km fi gm bs bu n1 n2 n3 n4 n5 n6 n7 px py db ((-1000000001)) ) (cwV 1 hts gX12_field_X12_finds rfl rfl rfl (by decide +kernel) ⟨Nat.le_of_ble_eq_true rfl, Nat.le_of_ble_eq_true rfl⟩) rfl rfl hP hK hD hS hA rfl hl.1 rfl (Nat.le_of_ble_eq_true rfl) dX12_field_33 ⟨Nat.le_of_ble_eq_true rfl, Nat.le_of_ble_eq_true rfl⟩ (fun r w1 H locs hq hP hD hS => ?_)
        obtain ⟨rfl, rfl⟩ := hq
        exact hret _ _ _ _ _ _ (Or.inl ⟨fun h => c3 h.2.2, rfl, rfl⟩) hP hD hS dX12_field_36
