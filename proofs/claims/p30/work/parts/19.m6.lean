abbrev sgI (v : Int32) : Prop := rg 1 4 v ∨ rg 10 24 v
def tn (v : Int32) : Nat := v.toNatClampNeg
theorem sg_tn {v : Int32} (h : sgI v) : v = nI (tn v) := by
  obtain ⟨j, hj, rfl⟩ := sg_of h
  rw [tn, nI_clamp (by omega)]
theorem sg_tn2 {v : Int32} (h : sgI v) : sg (tn v) := by
  obtain ⟨j, hj, rfl⟩ := sg_of h
  rw [tn, nI_clamp (by omega)]
  exact hj
set_option maxHeartbeats 4000000 in
set_option maxRecDepth 100000 in
theorem cM_text (l : Launch) (D : va_G) (ad : Nat → Nat) (cI cJ : ClassId) (a kp bt sz : Nat → Nat) (sheets : Nat → Int32) (go ro : Nat → Nat) (car : Nat → Int32) (ke km fi gm bs bu : Nat) (n1 n2 n3 n4 n5 n6 n7 : Int64) (px py db : Nat → Int64) (x : Int32) (hsz : ∀ j, j ≤ 3 → sz j ≤ 16) (hbt : ∀ j, j ≤ 3 → bt j = 0 ∨ bt j = 8 ∨ bt j = 16 ∨ bt j = 32) (he : ke < 20) (hm : km ≤ 20) : mq_l l D (mT cI cJ) yX12_text wsX12_text 2 0 0 42 [.ref (ad 0), .int (x)] (mW ad cI cJ a kp bt sz sheets go ro car ke km fi gm bs bu n1 n2 n3 n4 n5 n6 n7 px py db) (fun r w1 => (¬ rg 0 3 x ∧ r = -1000000001 ∧ w1 = mW ad cI cJ a kp bt sz sheets go ro car ke km (fi + 1) gm bs bu n1 n2 n3 n4 n5 n6 n7 px py db) ∨ (∃ s' : Nat, (x = nI s' ∧ s' ≤ 3) ∧ ((bt s' = 0 ∧ r = -1000000002 ∧ w1 = mW ad cI cJ a kp bt sz sheets go ro car ke km (fi + 1) gm bs bu n1 n2 n3 n4 n5 n6 n7 px py db) ∨ (0 < bt s' ∧ 12 < sz s' ∧ r = -1000000003 ∧ w1 = mW ad cI cJ a kp bt sz sheets go ro car ke km (fi + 1) gm bs bu n1 n2 n3 n4 n5 n6 n7 px py db) ∨ (0 < bt s' ∧ sz s' ≤ 12 ∧ (¬ ∀ j, j < sz s' → sgI (sheets (16 * s' + j))) ∧ r = -1000000001 ∧ w1 = mW ad cI cJ a kp bt sz sheets go ro car ke km (fi + 1) gm bs bu n1 n2 n3 n4 n5 n6 n7 px py db) ∨ (0 < bt s' ∧ sz s' ≤ 12 ∧ (∀ j, j < sz s' → sgI (sheets (16 * s' + j))) ∧ r = (nI (sz s')).toInt64 ∧ w1 = mW ad cI cJ (cpN (upN a 2 (sz s')) (fun j => tn (sheets (16 * s' + j))) 322 (sz s')) (cpN kp a (598 * ke) 598) bt sz sheets go ro car ((ke + 1) % 20) (kmU km) fi gm bs bu n1 n2 n3 n4 n5 n6 n7 px py db)))) := by
  refine mq_l_of (cc := cX12_text) (maxL := 3) (by decide) rfl (Nat.le_of_ble_eq_true rfl) ?_
  intro p e s m args below meth c A Q ls hx hb hts hown hml hnm hA hP hK hD hS hl hret
  have hown : s.vm.findClass RX12 = some m.cls := hown
  have hinX12 : ∀ w ∈ u_ws RX12 TX12 24, w ∈ wsX12_text := by decide +kernel
  have hl : lv_has ls 3 [(0, .ref (ad 0)), (1, .int (x))] := hl
  refine lv_iload_n hx hb dX12_text_0 rfl (lv_at hl 1 rfl) ?_
  refine mq_Si (As := [.int (x)]) (rest := []) ⟨hx, hb, hml, hown, hts⟩ (cM_isSheet l D _ (x) ) (cwS 1 hts gX12_text_X12_isSheet rfl rfl rfl (by decide +kernel) ⟨Nat.le_of_ble_eq_true rfl, Nat.le_of_ble_eq_true rfl⟩) hP hK hS hA rfl hl.1 rfl (Nat.le_of_ble_eq_true rfl) dX12_text_1 ⟨Nat.le_of_ble_eq_true rfl, Nat.le_of_ble_eq_true rfl⟩ (fun r w1 H locs hq hP hS => ?_)
  subst hq
  refine lb_if_ne (tgt := 15) hx hb dX12_text_4 (by decide) (fun c1 => ?_) (fun c1 => ?_)
  · obtain ⟨s', -, hs, rfl⟩ := rg_of c1 (by decide) (by decide)
    have hz := hsz s' hs
    have hb2 := hbt s' hs
    refine lv_aload_n hx hb dX12_text_15 rfl (lv_at hl 0 rfl) ?_
    refine va_get (D := D) (ci := 12) (v := .ref (ad 3)) (C := RX12) (T := TX12) (N := 24) hx hb hts hinX12 hown hK hP 0 rfl rfl 5 (by decide) (hts (.fieldLink RX12 16 "CornDeskModel" "sheetBits" "[I") (by decide +kernel)) (fun _ h9 => h9) rfl dX12_text_16 ?_
    refine lv_iload_n hx hb dX12_text_19 rfl (lv_at hl 1 rfl) ?_
    refine ln_iald hx hb hK hP 3 0 rfl rfl (by decide) (by omega) dX12_text_20 ?_
    refine ln_if_ne (tgt := 32) hx hb dX12_text_21 (by decide) (by omega) (fun c2 => ?_) (fun c2 => ?_)
    · refine lv_aload_n hx hb dX12_text_32 rfl (lv_at hl 0 rfl) ?_
      refine va_get (D := D) (ci := 12) (v := .ref (ad 4)) (C := RX12) (T := TX12) (N := 24) hx hb hts hinX12 hown hK hP 0 rfl rfl 6 (by decide) (hts (.fieldLink RX12 19 "CornDeskModel" "sheetSize" "[I") (by decide +kernel)) (fun _ h9 => h9) rfl dX12_text_33 ?_
      refine lv_iload_n hx hb dX12_text_36 rfl (lv_at hl 1 rfl) ?_
      refine ln_iald hx hb hK hP 4 0 rfl rfl (by decide) (by omega) dX12_text_37 ?_
      refine lv_bipush (v := (nI (12))) hx hb dX12_text_38 (by decide) ?_
      refine ln_icmp_le (tgt := 51) hx hb dX12_text_40 (by decide) (by omega) (by omega) (fun c3 => ?_) (fun c3 => ?_)
      · refine lv_iconst (v := (nI (0))) hx hb dX12_text_51 (by decide) ?_
        refine lv_istore_n (lv' := [(2, .int (nI (0))), (0, .ref (ad 0)), (1, .int (nI (s')))]) hx hb dX12_text_52 rfl hl (by decide) rfl (fun ls hl => ?_)
        have lp : ∀ (n : Nat) (k : Nat), (k + n = sz s') → (∀ j, j < k → sgI (sheets (16 * s' + j))) → ∀ (H : Heap) (locs : List Loc) (ls : Array Slot), va_P D vwCl (mW ad cI cJ a kp bt sz sheets go ro car ke km fi gm bs bu n1 n2 n3 n4 n5 n6 n7 px py db) H → va_D A (mW ad cI cJ a kp bt sz sheets go ro car ke km fi gm bs bu n1 n2 n3 n4 n5 n6 n7 px py db) → va_S A s.heap H locs → lv_has ls 3 [(2, .int (nI (k))), (0, .ref (ad 0)), (1, .int (nI (s')))] → W p l e (mq_R 2 0 0 42) s m args below meth c H locs 0 0 Q (F0 m 53 ls []) := by
          intro n
          induction n with
          | zero =>
            intro k hk hin H locs ls hP hD hS hl
            refine lv_iload_n hx hb dX12_text_53 rfl (lv_at hl 0 rfl) ?_
            refine lv_aload_n hx hb dX12_text_54 rfl (lv_at hl 1 rfl) ?_
            refine va_get (D := D) (ci := 12) (v := .ref (ad 4)) (C := RX12) (T := TX12) (N := 24) hx hb hts hinX12 hown hK hP 0 rfl rfl 6 (by decide) (hts (.fieldLink RX12 19 "CornDeskModel" "sheetSize" "[I") (by decide +kernel)) (fun _ h9 => h9) rfl dX12_text_55 ?_
            refine lv_iload_n hx hb dX12_text_58 rfl (lv_at hl 2 rfl) ?_
            refine ln_iald hx hb hK hP 4 0 rfl rfl (by decide) (by omega) dX12_text_59 ?_
            refine ln_icmp_ge (tgt := 94) hx hb dX12_text_60 (by decide) (by omega) (by omega) (fun c4 => ?_) (fun c4 => ?_)
            · have hk0 : k = sz s' := by omega
              subst hk0
              refine lv_aload_n hx hb dX12_text_94 rfl (lv_at hl 1 rfl) ?_
              refine mq_Vv (As := []) (rest := []) (ci := 12) (k0 := 0) ⟨hx, hb, hml, hown, hts⟩ (cM_keep l D ad cI cJ a kp bt sz sheets go ro car ke km fi gm bs bu n1 n2 n3 n4 n5 n6 n7 px py db  he hm) (cwV 0 hts gX12_text_X12_keep rfl rfl rfl (by decide +kernel) ⟨Nat.le_of_ble_eq_true rfl, Nat.le_of_ble_eq_true rfl⟩) rfl rfl hP hK hD hS hA rfl hl.1 rfl (Nat.le_of_ble_eq_true rfl) dX12_text_95 ⟨Nat.le_of_ble_eq_true rfl, Nat.le_of_ble_eq_true rfl⟩ (fun w1 H locs hq hP hD hS => ?_)
              subst hq
              refine lv_aload_n hx hb dX12_text_98 rfl (lv_at hl 1 rfl) ?_
              refine va_get (D := D) (ci := 12) (v := .ref (ad 1)) (C := RX12) (T := TX12) (N := 24) hx hb hts hinX12 hown hK hP 0 rfl rfl 0 (by decide) (hts (.fieldLink RX12 9 "CornDeskModel" "now" "[I") (by decide +kernel)) (fun _ h9 => h9) rfl dX12_text_99 ?_
              refine lv_iconst (v := (nI (2))) hx hb dX12_text_102 (by decide) ?_
              refine lv_aload_n hx hb dX12_text_103 rfl (lv_at hl 1 rfl) ?_
              refine va_get (D := D) (ci := 12) (v := .ref (ad 4)) (C := RX12) (T := TX12) (N := 24) hx hb hts hinX12 hown hK hP 0 rfl rfl 6 (by decide) (hts (.fieldLink RX12 19 "CornDeskModel" "sheetSize" "[I") (by decide +kernel)) (fun _ h9 => h9) rfl dX12_text_104 ?_
              refine lv_iload_n hx hb dX12_text_107 rfl (lv_at hl 2 rfl) ?_
              refine ln_iald hx hb hK hP 4 0 rfl rfl (by decide) (by omega) dX12_text_108 ?_
              refine ln_iastN hx hb hK hP hD hS 1 0 rfl rfl (by decide) (by omega) dX12_text_109 (fun H locs hP hD hS => ?_)
              have hP : va_P D vwCl (mW ad cI cJ (upN a (2) (sz (s'))) (cpN kp a (598 * ke) 598) bt sz sheets go ro car ((ke + 1) % 20) (kmU km) fi gm bs bu n1 n2 n3 n4 n5 n6 n7 px py db) H := hP
              have hD : va_D A (mW ad cI cJ (upN a (2) (sz (s'))) (cpN kp a (598 * ke) 598) bt sz sheets go ro car ((ke + 1) % 20) (kmU km) fi gm bs bu n1 n2 n3 n4 n5 n6 n7 px py db) := hD
              refine lv_iconst (v := (nI (0))) hx hb dX12_text_110 (by decide) ?_
              refine lv_istore_n (lv' := [(2, .int (nI (0))), (0, .ref (ad 0)), (1, .int (nI (s')))]) hx hb dX12_text_111 rfl hl (by decide) rfl (fun ls hl => ?_)
              have lp2 : ∀ (n : Nat) (q : Nat), (q + n = sz s') → ∀ (H : Heap) (locs : List Loc) (ls : Array Slot), va_P D vwCl (mW ad cI cJ (cpN (upN a 2 (sz s')) (fun j => tn (sheets (16 * s' + j))) 322 q) (cpN kp a (598 * ke) 598) bt sz sheets go ro car ((ke + 1) % 20) (kmU km) fi gm bs bu n1 n2 n3 n4 n5 n6 n7 px py db) H → va_D A (mW ad cI cJ (cpN (upN a 2 (sz s')) (fun j => tn (sheets (16 * s' + j))) 322 q) (cpN kp a (598 * ke) 598) bt sz sheets go ro car ((ke + 1) % 20) (kmU km) fi gm bs bu n1 n2 n3 n4 n5 n6 n7 px py db) → va_S A s.heap H locs → lv_has ls 3 [(2, .int (nI (q))), (0, .ref (ad 0)), (1, .int (nI (s')))] → W p l e (mq_R 2 0 0 42) s m args below meth c H locs 0 0 Q (F0 m 112 ls []) := by
                intro n
                induction n with
                | zero =>
                  intro q hq H locs ls hP hD hS hl
                  refine lv_iload_n hx hb dX12_text_112 rfl (lv_at hl 0 rfl) ?_
                  refine lv_aload_n hx hb dX12_text_113 rfl (lv_at hl 1 rfl) ?_
                  refine va_get (D := D) (ci := 12) (v := .ref (ad 4)) (C := RX12) (T := TX12) (N := 24) hx hb hts hinX12 hown hK hP 0 rfl rfl 6 (by decide) (hts (.fieldLink RX12 19 "CornDeskModel" "sheetSize" "[I") (by decide +kernel)) (fun _ h9 => h9) rfl dX12_text_114 ?_
                  refine lv_iload_n hx hb dX12_text_117 rfl (lv_at hl 2 rfl) ?_
                  refine ln_iald hx hb hK hP 4 0 rfl rfl (by decide) (by omega) dX12_text_118 ?_
                  refine ln_icmp_ge (tgt := 149) hx hb dX12_text_119 (by decide) (by omega) (by omega) (fun c6 => ?_) (fun c6 => ?_)
                  · have hq0 : q = sz s' := by omega
                    subst hq0
                    refine lv_aload_n hx hb dX12_text_149 rfl (lv_at hl 1 rfl) ?_
                    refine va_get (D := D) (ci := 12) (v := .ref (ad 4)) (C := RX12) (T := TX12) (N := 24) hx hb hts hinX12 hown hK hP 0 rfl rfl 6 (by decide) (hts (.fieldLink RX12 19 "CornDeskModel" "sheetSize" "[I") (by decide +kernel)) (fun _ h9 => h9) rfl dX12_text_150 ?_
                    refine lv_iload_n hx hb dX12_text_153 rfl (lv_at hl 2 rfl) ?_
                    refine ln_iald hx hb hK hP 4 0 rfl rfl (by decide) (by omega) dX12_text_154 ?_
                    refine lv_i2l hx hb dX12_text_155 rfl ?_
                    exact hret _ _ _ _ _ _ (Or.inr ⟨s', ⟨rfl, hs⟩, Or.inr (Or.inr (Or.inr ⟨c2, c3, hin, rfl, rfl⟩))⟩) hP hD hS dX12_text_156
                  · exact absurd hq (by omega)
                | succ n ih =>
                  intro q hq H locs ls hP hD hS hl
                  refine lv_iload_n hx hb dX12_text_112 rfl (lv_at hl 0 rfl) ?_
                  refine lv_aload_n hx hb dX12_text_113 rfl (lv_at hl 1 rfl) ?_
                  refine va_get (D := D) (ci := 12) (v := .ref (ad 4)) (C := RX12) (T := TX12) (N := 24) hx hb hts hinX12 hown hK hP 0 rfl rfl 6 (by decide) (hts (.fieldLink RX12 19 "CornDeskModel" "sheetSize" "[I") (by decide +kernel)) (fun _ h9 => h9) rfl dX12_text_114 ?_
                  refine lv_iload_n hx hb dX12_text_117 rfl (lv_at hl 2 rfl) ?_
                  refine ln_iald hx hb hK hP 4 0 rfl rfl (by decide) (by omega) dX12_text_118 ?_
                  refine ln_icmp_ge (tgt := 149) hx hb dX12_text_119 (by decide) (by omega) (by omega) (fun c6 => ?_) (fun c6 => ?_)
                  · exact absurd hq (by omega)
                  · refine lv_aload_n hx hb dX12_text_122 rfl (lv_at hl 1 rfl) ?_
                    refine va_get (D := D) (ci := 12) (v := .ref (ad 1)) (C := RX12) (T := TX12) (N := 24) hx hb hts hinX12 hown hK hP 0 rfl rfl 0 (by decide) (hts (.fieldLink RX12 9 "CornDeskModel" "now" "[I") (by decide +kernel)) (fun _ h9 => h9) rfl dX12_text_123 ?_
                    refine lv_sipush (v := (nI (322))) hx hb dX12_text_126 (by decide) ?_
                    refine lv_iload_n hx hb dX12_text_129 rfl (lv_at hl 0 rfl) ?_
                    refine ln_iadd hx hb dX12_text_130 ?_
                    refine lv_aload_n hx hb dX12_text_131 rfl (lv_at hl 1 rfl) ?_
                    refine va_get (D := D) (ci := 12) (v := .ref (ad 5)) (C := RX12) (T := TX12) (N := 24) hx hb hts hinX12 hown hK hP 0 rfl rfl 7 (by decide) (hts (.fieldLink RX12 22 "CornDeskModel" "sheets" "[I") (by decide +kernel)) (fun _ h9 => h9) rfl dX12_text_132 ?_
                    refine lv_bipush (v := (nI (16))) hx hb dX12_text_135 (by decide) ?_
                    refine lv_iload_n hx hb dX12_text_137 rfl (lv_at hl 2 rfl) ?_
                    refine ln_imul hx hb dX12_text_138 ?_
                    refine lv_iload_n hx hb dX12_text_139 rfl (lv_at hl 0 rfl) ?_
                    refine ln_iadd hx hb dX12_text_140 ?_
                    refine ln_iald hx hb hK hP 5 0 rfl rfl (by decide) (by omega) dX12_text_141 ?_
                    refine ln_eqi (y := (nI (tn (sheets (16 * s' + q))))) (sg_tn (hin q c6)) ?_
                    refine ln_iastN hx hb hK hP hD hS 1 0 rfl rfl (by decide) (by omega) dX12_text_142 (fun H locs hP hD hS => ?_)
                    have hP : va_P D vwCl (mW ad cI cJ (upN (cpN (upN a 2 (sz s')) (fun j => tn (sheets (16 * s' + j))) 322 q) (322 + q) (tn (sheets (16 * s' + q)))) (cpN kp a (598 * ke) 598) bt sz sheets go ro car ((ke + 1) % 20) (kmU km) fi gm bs bu n1 n2 n3 n4 n5 n6 n7 px py db) H := hP
                    have hD : va_D A (mW ad cI cJ (upN (cpN (upN a 2 (sz s')) (fun j => tn (sheets (16 * s' + j))) 322 q) (322 + q) (tn (sheets (16 * s' + q)))) (cpN kp a (598 * ke) 598) bt sz sheets go ro car ((ke + 1) % 20) (kmU km) fi gm bs bu n1 n2 n3 n4 n5 n6 n7 px py db) := hD
                    refine lv_iinc (v := (nI (q + 1))) (lv' := [(2, .int (nI (q + 1))), (0, .ref (ad 0)), (1, .int (nI (s')))]) hx hb dX12_text_143 hl (k := 0) rfl (by rw [show (Int32.ofInt 1) = nI 1 from rfl, nI_add]) (by decide) rfl (fun ls hl => ?_)
                    refine lv_goto (tgt := 112) hx hb dX12_text_146 (by decide) ?_
                    exact ih (q + 1) (by omega) _ _ _ (by rw [← cpN_s]; exact hP) (by rw [← cpN_s]; exact hD) hS hl
              exact lp2 (sz s') (0) (by omega) _ _ _ (by rw [cpN_0]; exact hP) (by rw [cpN_0]; exact hD) hS hl
            · exact absurd hk (by omega)
          | succ n ih =>
            intro k hk hin H locs ls hP hD hS hl
            refine lv_iload_n hx hb dX12_text_53 rfl (lv_at hl 0 rfl) ?_
            refine lv_aload_n hx hb dX12_text_54 rfl (lv_at hl 1 rfl) ?_
            refine va_get (D := D) (ci := 12) (v := .ref (ad 4)) (C := RX12) (T := TX12) (N := 24) hx hb hts hinX12 hown hK hP 0 rfl rfl 6 (by decide) (hts (.fieldLink RX12 19 "CornDeskModel" "sheetSize" "[I") (by decide +kernel)) (fun _ h9 => h9) rfl dX12_text_55 ?_
            refine lv_iload_n hx hb dX12_text_58 rfl (lv_at hl 2 rfl) ?_
            refine ln_iald hx hb hK hP 4 0 rfl rfl (by decide) (by omega) dX12_text_59 ?_
            refine ln_icmp_ge (tgt := 94) hx hb dX12_text_60 (by decide) (by omega) (by omega) (fun c4 => ?_) (fun c4 => ?_)
            · exact absurd hk (by omega)
            · refine lv_aload_n hx hb dX12_text_63 rfl (lv_at hl 1 rfl) ?_
              refine va_get (D := D) (ci := 12) (v := .ref (ad 5)) (C := RX12) (T := TX12) (N := 24) hx hb hts hinX12 hown hK hP 0 rfl rfl 7 (by decide) (hts (.fieldLink RX12 22 "CornDeskModel" "sheets" "[I") (by decide +kernel)) (fun _ h9 => h9) rfl dX12_text_64 ?_
              refine lv_bipush (v := (nI (16))) hx hb dX12_text_67 (by decide) ?_
              refine lv_iload_n hx hb dX12_text_69 rfl (lv_at hl 2 rfl) ?_
              refine ln_imul hx hb dX12_text_70 ?_
              refine lv_iload_n hx hb dX12_text_71 rfl (lv_at hl 0 rfl) ?_
              refine ln_iadd hx hb dX12_text_72 ?_
              refine ln_iald hx hb hK hP 5 0 rfl rfl (by decide) (by omega) dX12_text_73 ?_
              refine mq_Si (As := [.int (sheets ((16) * (s') + k))]) (rest := []) ⟨hx, hb, hml, hown, hts⟩ (cM_isSign l D _ (sheets ((16) * (s') + k)) ) (cwS 1 hts gX12_text_X12_isSign rfl rfl rfl (by decide +kernel) ⟨Nat.le_of_ble_eq_true rfl, Nat.le_of_ble_eq_true rfl⟩) hP hK hS hA rfl hl.1 rfl (Nat.le_of_ble_eq_true rfl) dX12_text_74 ⟨Nat.le_of_ble_eq_true rfl, Nat.le_of_ble_eq_true rfl⟩ (fun r w1 H locs hq hP hS => ?_)
              subst hq
              refine lb_if_ne (tgt := 88) hx hb dX12_text_77 (by decide) (fun c5 => ?_) (fun c5 => ?_)
              · refine lv_iinc (v := (nI (k + 1))) (lv' := [(2, .int (nI (k + 1))), (0, .ref (ad 0)), (1, .int (nI (s')))]) hx hb dX12_text_88 hl (k := 0) rfl (by rw [show (Int32.ofInt 1) = nI 1 from rfl, nI_add]) (by decide) rfl (fun ls hl => ?_)
                refine lv_goto (tgt := 53) hx hb dX12_text_91 (by decide) ?_
                exact ih (k + 1) (by omega) (fun j hj => by rcases Nat.lt_or_ge j k with q | q; exact hin j q; rw [show j = k by omega]; exact c5) _ _ _ hP hD hS hl
              · refine lv_aload_n hx hb dX12_text_80 rfl (lv_at hl 1 rfl) ?_
                refine lv_ldc2 (v := (-1000000001)) hx hb hown (hts (.constantLong RX12 76 (-1000000001)) (by decide +kernel)) dX12_text_81 ?_
                refine mq_Vl (As := [.long ((-1000000001))]) (rest := []) (ci := 12) (k0 := 0) ⟨hx, hb, hml, hown, hts⟩ (cM_finds l D ad cI cJ a kp bt sz sheets go ro car ke km fi gm bs bu n1 n2 n3 n4 n5 n6 n7 px py db ((-1000000001)) ) (cwV 1 hts gX12_text_X12_finds rfl rfl rfl (by decide +kernel) ⟨Nat.le_of_ble_eq_true rfl, Nat.le_of_ble_eq_true rfl⟩) rfl rfl hP hK hD hS hA rfl hl.1 rfl (Nat.le_of_ble_eq_true rfl) dX12_text_84 ⟨Nat.le_of_ble_eq_true rfl, Nat.le_of_ble_eq_true rfl⟩ (fun r w1 H locs hq hP hD hS => ?_)
                obtain ⟨rfl, rfl⟩ := hq
                exact hret _ _ _ _ _ _ (Or.inr ⟨s', ⟨rfl, hs⟩, Or.inr (Or.inr (Or.inl ⟨c2, c3, fun h => c5 (h k (by omega)), rfl, rfl⟩))⟩) hP hD hS dX12_text_87
        exact lp (sz s') (0) (by omega) (fun j hj => absurd hj (by omega)) _ _ _ hP hD hS hl
      · refine lv_aload_n hx hb dX12_text_43 rfl (lv_at hl 0 rfl) ?_
        refine lv_ldc2 (v := (-1000000003)) hx hb hown (hts (.constantLong RX12 197 (-1000000003)) (by decide +kernel)) dX12_text_44 ?_
        refine mq_Vl (As := [.long ((-1000000003))]) (rest := []) (ci := 12) (k0 := 0) ⟨hx, hb, hml, hown, hts⟩ (cM_finds l D ad cI cJ a kp bt sz sheets go ro car ke km fi gm bs bu n1 n2 n3 n4 n5 n6 n7 px py db ((-1000000003)) ) (cwV 1 hts gX12_text_X12_finds rfl rfl rfl (by decide +kernel) ⟨Nat.le_of_ble_eq_true rfl, Nat.le_of_ble_eq_true rfl⟩) rfl rfl hP hK hD hS hA rfl hl.1 rfl (Nat.le_of_ble_eq_true rfl) dX12_text_47 ⟨Nat.le_of_ble_eq_true rfl, Nat.le_of_ble_eq_true rfl⟩ (fun r w1 H locs hq hP hD hS => ?_)
        obtain ⟨rfl, rfl⟩ := hq
        exact hret _ _ _ _ _ _ (Or.inr ⟨s', ⟨rfl, hs⟩, Or.inr (Or.inl ⟨c2, c3, rfl, rfl⟩)⟩) hP hD hS dX12_text_50
    · refine lv_aload_n hx hb dX12_text_24 rfl (lv_at hl 0 rfl) ?_
      refine lv_ldc2 (v := (-1000000002)) hx hb hown (hts (.constantLong RX12 199 (-1000000002)) (by decide +kernel)) dX12_text_25 ?_
      refine mq_Vl (As := [.long ((-1000000002))]) (rest := []) (ci := 12) (k0 := 0) ⟨hx, hb, hml, hown, hts⟩ (cM_finds l D ad cI cJ a kp bt sz sheets go ro car ke km fi gm bs bu n1 n2 n3 n4 n5 n6 n7 px py db ((-1000000002)) ) (cwV 1 hts gX12_text_X12_finds rfl rfl rfl (by decide +kernel) ⟨Nat.le_of_ble_eq_true rfl, Nat.le_of_ble_eq_true rfl⟩) rfl rfl hP hK hD hS hA rfl hl.1 rfl (Nat.le_of_ble_eq_true rfl) dX12_text_28 ⟨Nat.le_of_ble_eq_true rfl, Nat.le_of_ble_eq_true rfl⟩ (fun r w1 H locs hq hP hD hS => ?_)
      obtain ⟨rfl, rfl⟩ := hq
      exact hret _ _ _ _ _ _ (Or.inr ⟨s', ⟨rfl, hs⟩, Or.inl ⟨c2, rfl, rfl⟩⟩) hP hD hS dX12_text_31
  · refine lv_aload_n hx hb dX12_text_7 rfl (lv_at hl 0 rfl) ?_
    refine lv_ldc2 (v := (-1000000001)) hx hb hown (hts (.constantLong RX12 76 (-1000000001)) (by decide +kernel)) dX12_text_8 ?_
    refine mq_Vl (As := [.long ((-1000000001))]) (rest := []) (ci := 12) (k0 := 0) ⟨hx, hb, hml, hown, hts⟩ (cM_finds l D ad cI cJ a kp bt sz sheets go ro car ke km fi gm bs bu n1 n2 n3 n4 n5 n6 n7 px py db ((-1000000001)) ) (cwV 1 hts gX12_text_X12_finds rfl rfl rfl (by decide +kernel) ⟨Nat.le_of_ble_eq_true rfl, Nat.le_of_ble_eq_true rfl⟩) rfl rfl hP hK hD hS hA rfl hl.1 rfl (Nat.le_of_ble_eq_true rfl) dX12_text_11 ⟨Nat.le_of_ble_eq_true rfl, Nat.le_of_ble_eq_true rfl⟩ (fun r w1 H locs hq hP hD hS => ?_)
    obtain ⟨rfl, rfl⟩ := hq
    exact hret _ _ _ _ _ _ (Or.inl ⟨c1, rfl, rfl⟩) hP hD hS dX12_text_14
