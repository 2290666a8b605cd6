set_option maxHeartbeats 4000000 in
set_option maxRecDepth 100000 in
theorem cM_wrongAt (l : Launch) (D : va_G) (ad : Nat → Nat) (cI cJ : ClassId) (a kp bt sz : Nat → Nat) (sheets : Nat → Int32) (go ro : Nat → Nat) (car : Nat → Int32) (ke km fi gm bs bu : Nat) (n1 n2 n3 n4 n5 n6 n7 : Int64) (px py db : Nat → Int64)  (h2 : a 2 ≤ 12) (hs : ∀ k, k < a 2 → a (322 + k) ≤ 24) : mq_i l D (mT cI cJ) yX12_wrongAt wsX12_wrongAt 0 0 0 0 [.ref (ad 0)] (mW ad cI cJ a kp bt sz sheets go ro car ke km fi gm bs bu n1 n2 n3 n4 n5 n6 n7 px py db) (fun r w1 => r = wrGo (fun j => a (322 + j)) (a 2) (a 2) 0 0 ∧ w1 = mW ad cI cJ a kp bt sz sheets go ro car ke km fi gm bs bu n1 n2 n3 n4 n5 n6 n7 px py db) := by
  refine mq_i_of (cc := cX12_wrongAt) (maxL := 5) (by decide) rfl (Nat.le_of_ble_eq_true rfl) ?_
  intro p e s m args below meth c A Q ls hx hb hts hown hml hnm hA hP hK hD hS hl hret
  have hown : s.vm.findClass RX12 = some m.cls := hown
  have hinX12 : ∀ w ∈ u_ws RX12 TX12 24, w ∈ wsX12_wrongAt := by decide +kernel
  have hl : lv_has ls 5 [(0, .ref (ad 0))] := hl
  refine lv_iconst (v := (nI (0))) hx hb dX12_wrongAt_0 (by decide) ?_
  refine lv_istore_n (lv' := [(1, .int (nI (0))), (0, .ref (ad 0))]) hx hb dX12_wrongAt_1 rfl hl (by decide) rfl (fun ls hl => ?_)
  refine lv_iconst (v := (nI (0))) hx hb dX12_wrongAt_2 (by decide) ?_
  refine lv_istore_n (lv' := [(2, .int (nI (0))), (1, .int (nI (0))), (0, .ref (ad 0))]) hx hb dX12_wrongAt_3 rfl hl (by decide) rfl (fun ls hl => ?_)
  have lp : ∀ (n : Nat) (k : Nat) (d : Nat), (k + n = a 2) → (d ≤ 6) → (wrGo (fun j => a (322 + j)) (a 2) (a 2) 0 0 = wrGo (fun j => a (322 + j)) (a 2) n k d) → ∀ (H : Heap) (locs : List Loc) (ls : Array Slot), va_P D vwCl (mW ad cI cJ a kp bt sz sheets go ro car ke km fi gm bs bu n1 n2 n3 n4 n5 n6 n7 px py db) H → va_D A (mW ad cI cJ a kp bt sz sheets go ro car ke km fi gm bs bu n1 n2 n3 n4 n5 n6 n7 px py db) → va_S A s.heap H locs → lv_has ls 5 [(2, .int (nI (k))), (1, .int (nI (d))), (0, .ref (ad 0))] → W p l e (mq_R 0 0 0 0) s m args below meth c H locs 0 0 Q (F0 m 4 ls []) := by
    intro n
    induction n with
    | zero =>
      intro k d hk hd hw H locs ls hP hD hS hl
      refine lv_iload_n hx hb dX12_wrongAt_4 rfl (lv_at hl 0 rfl) ?_
      refine lv_aload_n hx hb dX12_wrongAt_5 rfl (lv_at hl 2 rfl) ?_
      refine va_get (D := D) (ci := 12) (v := .ref (ad 1)) (C := RX12) (T := TX12) (N := 24) hx hb hts hinX12 hown hK hP 0 rfl rfl 0 (by decide) (hts (.fieldLink RX12 9 "CornDeskModel" "now" "[I") (by decide +kernel)) (fun _ h9 => h9) rfl dX12_wrongAt_6 ?_
      refine lv_iconst (v := (nI (2))) hx hb dX12_wrongAt_9 (by decide) ?_
      refine ln_iald hx hb hK hP 1 0 rfl rfl (by decide) (by omega) dX12_wrongAt_10 ?_
      refine ln_icmp_ge (tgt := 94) hx hb dX12_wrongAt_11 (by decide) (by omega) (by omega) (fun c1 => ?_) (fun c1 => ?_)
      · have hk0 : k = a 2 := by omega
        rw [wrGo_0] at hw
        refine lv_iload_n hx hb dX12_wrongAt_94 rfl (lv_at hl 1 rfl) ?_
        refine lv_iconst (v := (nI (1))) hx hb dX12_wrongAt_95 (by decide) ?_
        refine ln_icmp_ne (tgt := 103) hx hb dX12_wrongAt_96 (by decide) (by omega) (by omega) (fun c2 => ?_) (fun c2 => ?_)
        · refine lv_aload_n hx hb dX12_wrongAt_103 rfl (lv_at hl 2 rfl) ?_
          refine va_get (D := D) (ci := 12) (v := .ref (ad 1)) (C := RX12) (T := TX12) (N := 24) hx hb hts hinX12 hown hK hP 0 rfl rfl 0 (by decide) (hts (.fieldLink RX12 9 "CornDeskModel" "now" "[I") (by decide +kernel)) (fun _ h9 => h9) rfl dX12_wrongAt_104 ?_
          refine lv_iconst (v := (nI (2))) hx hb dX12_wrongAt_107 (by decide) ?_
          refine ln_iald hx hb hK hP 1 0 rfl rfl (by decide) (by omega) dX12_wrongAt_108 ?_
          exact hret _ _ _ _ _ _ ⟨by rw [hw, if_neg c2]; rfl, rfl⟩ hP hD hS dX12_wrongAt_109
        · refine lv_iconst (v := (-1)) hx hb dX12_wrongAt_99 (by decide) ?_
          refine lv_goto (tgt := 109) hx hb dX12_wrongAt_100 (by decide) ?_
          exact hret _ _ _ _ _ _ ⟨by rw [hw, if_pos c2], rfl⟩ hP hD hS dX12_wrongAt_109
      · exact absurd hk (by omega)
    | succ n ih =>
      intro k d hk hd hw H locs ls hP hD hS hl
      refine lv_iload_n hx hb dX12_wrongAt_4 rfl (lv_at hl 0 rfl) ?_
      refine lv_aload_n hx hb dX12_wrongAt_5 rfl (lv_at hl 2 rfl) ?_
      refine va_get (D := D) (ci := 12) (v := .ref (ad 1)) (C := RX12) (T := TX12) (N := 24) hx hb hts hinX12 hown hK hP 0 rfl rfl 0 (by decide) (hts (.fieldLink RX12 9 "CornDeskModel" "now" "[I") (by decide +kernel)) (fun _ h9 => h9) rfl dX12_wrongAt_6 ?_
      refine lv_iconst (v := (nI (2))) hx hb dX12_wrongAt_9 (by decide) ?_
      refine ln_iald hx hb hK hP 1 0 rfl rfl (by decide) (by omega) dX12_wrongAt_10 ?_
      have hsk : a (322 + k) ≤ 24 := hs k (by omega)
      refine ln_icmp_ge (tgt := 94) hx hb dX12_wrongAt_11 (by decide) (by omega) (by omega) (fun c1 => ?_) (fun c1 => ?_)
      · exact absurd hk (by omega)
      · refine lv_aload_n hx hb dX12_wrongAt_14 rfl (lv_at hl 2 rfl) ?_
        refine va_get (D := D) (ci := 12) (v := .ref (ad 1)) (C := RX12) (T := TX12) (N := 24) hx hb hts hinX12 hown hK hP 0 rfl rfl 0 (by decide) (hts (.fieldLink RX12 9 "CornDeskModel" "now" "[I") (by decide +kernel)) (fun _ h9 => h9) rfl dX12_wrongAt_15 ?_
        refine lv_sipush (v := (nI (322))) hx hb dX12_wrongAt_18 (by decide) ?_
        refine lv_iload_n hx hb dX12_wrongAt_21 rfl (lv_at hl 0 rfl) ?_
        refine ln_iadd hx hb dX12_wrongAt_22 ?_
        refine ln_iald hx hb hK hP 1 0 rfl rfl (by decide) (by omega) dX12_wrongAt_23 ?_
        refine lv_istore_n (lv' := [(3, .int (nI (a (322 + k)))), (2, .int (nI (k))), (1, .int (nI (d))), (0, .ref (ad 0))]) hx hb dX12_wrongAt_24 rfl hl (by decide) rfl (fun ls hl => ?_)
        refine lv_iload_n hx hb dX12_wrongAt_25 rfl (lv_at hl 0 rfl) ?_
        refine lv_bipush (v := (nI (20))) hx hb dX12_wrongAt_26 (by decide) ?_
        refine ln_icmp_ge (tgt := 35) hx hb dX12_wrongAt_28 (by decide) (by omega) (by omega) (fun c2 => ?_) (fun c2 => ?_)
        · refine lv_iload_n hx hb dX12_wrongAt_35 rfl (lv_at hl 0 rfl) ?_
          refine lv_bipush (v := (nI (22))) hx hb dX12_wrongAt_36 (by decide) ?_
          refine ln_icmp_ne (tgt := 45) hx hb dX12_wrongAt_38 (by decide) (by omega) (by omega) (fun c3 => ?_) (fun c3 => ?_)
          · have ht : tk ((fun j => a (322 + j)) k) = 2 := tk_2 c2 c3
            refine lv_iconst (v := (nI (2))) hx hb dX12_wrongAt_45 (by decide) ?_
            refine lv_istore (lv' := [(4, .int (nI (2))), (3, .int (nI (a (322 + k)))), (2, .int (nI (k))), (1, .int (nI (d))), (0, .ref (ad 0))]) hx hb dX12_wrongAt_46 hl (by decide) rfl (fun ls hl => ?_)
            refine lv_iload_n hx hb dX12_wrongAt_48 rfl (lv_at hl 3 rfl) ?_
            refine lv_iload hx hb dX12_wrongAt_49 (lv_at hl 0 rfl) ?_
            refine ln_icmp_ge (tgt := 56) hx hb dX12_wrongAt_51 (by decide) (by omega) (by omega) (fun c4 => ?_) (fun c4 => ?_)
            · refine lv_iload_n hx hb dX12_wrongAt_56 rfl (lv_at hl 3 rfl) ?_
              refine lv_iload_n hx hb dX12_wrongAt_57 rfl (lv_at hl 1 rfl) ?_
              refine lv_bipush (v := (nI (20))) hx hb dX12_wrongAt_58 (by decide) ?_
              refine ln_icmp_ge (tgt := 67) hx hb dX12_wrongAt_60 (by decide) (by omega) (by omega) (fun c5 => ?_) (fun c5 => ?_)
              · refine lv_iload_n hx hb dX12_wrongAt_67 rfl (lv_at hl 1 rfl) ?_
                refine lv_bipush (v := (nI (22))) hx hb dX12_wrongAt_68 (by decide) ?_
                refine ln_icmp_ne (tgt := 77) hx hb dX12_wrongAt_70 (by decide) (by omega) (by omega) (fun c6 => ?_) (fun c6 => ?_)
                · refine lv_iconst (v := (-1)) hx hb dX12_wrongAt_77 (by decide) ?_
                  refine lv_iadd hx hb dX12_wrongAt_78 ?_
                  refine ln_eqi (y := (nI (d - 1))) (sb_m1 (by omega)) ?_
                  refine lv_istore_n (lv' := [(1, .int (nI (d - 1))), (4, .int (nI (2))), (3, .int (nI (a (322 + k)))), (2, .int (nI (k))), (0, .ref (ad 0))]) hx hb dX12_wrongAt_79 rfl hl (by decide) rfl (fun ls hl => ?_)
                  refine lv_iload_n hx hb dX12_wrongAt_80 rfl (lv_at hl 0 rfl) ?_
                  refine lv_bipush (v := (nI (6))) hx hb dX12_wrongAt_81 (by decide) ?_
                  refine ln_icmp_le (tgt := 88) hx hb dX12_wrongAt_83 (by decide) (by omega) (by omega) (fun c7 => ?_) (fun c7 => ?_)
                  · refine lv_iinc (v := (nI (k + 1))) (lv' := [(2, .int (nI (k + 1))), (1, .int (nI (d - 1))), (4, .int (nI (2))), (3, .int (nI (a (322 + k)))), (0, .ref (ad 0))]) hx hb dX12_wrongAt_88 hl (k := 3) rfl (by rw [show (Int32.ofInt 1) = nI 1 from rfl, nI_add]) (by decide) rfl (fun ls hl => ?_)
                    refine lv_goto (tgt := 4) hx hb dX12_wrongAt_91 (by decide) ?_
                    exact ih (k + 1) (d - 1) (by omega) (by omega) (by rw [hw, wrGo_y (by rw [ht]; omega), ht]; rw [show d - 2 + 1 = d - 1 by omega]) _ _ _ hP hD hS (lv_sub hl [0, 1, 4] rfl)
                  · refine lv_iload_n hx hb dX12_wrongAt_86 rfl (lv_at hl 3 rfl) ?_
                    exact hret _ _ _ _ _ _ ⟨by rw [hw, wrGo_n (by rw [ht]; omega)], rfl⟩ hP hD hS dX12_wrongAt_87
                · exact absurd c3 (by omega)
              · exact absurd c2 (by omega)
            · refine lv_iload_n hx hb dX12_wrongAt_54 rfl (lv_at hl 2 rfl) ?_
              exact hret _ _ _ _ _ _ ⟨by rw [hw, wrGo_n (by rw [ht]; omega)], rfl⟩ hP hD hS dX12_wrongAt_55
          · have ht : tk ((fun j => a (322 + j)) k) = 1 := tk_1 c3
            refine lv_iconst (v := (nI (1))) hx hb dX12_wrongAt_41 (by decide) ?_
            refine lv_goto (tgt := 46) hx hb dX12_wrongAt_42 (by decide) ?_
            refine lv_istore (lv' := [(4, .int (nI (1))), (3, .int (nI (a (322 + k)))), (2, .int (nI (k))), (1, .int (nI (d))), (0, .ref (ad 0))]) hx hb dX12_wrongAt_46 hl (by decide) rfl (fun ls hl => ?_)
            refine lv_iload_n hx hb dX12_wrongAt_48 rfl (lv_at hl 3 rfl) ?_
            refine lv_iload hx hb dX12_wrongAt_49 (lv_at hl 0 rfl) ?_
            refine ln_icmp_ge (tgt := 56) hx hb dX12_wrongAt_51 (by decide) (by omega) (by omega) (fun c4 => ?_) (fun c4 => ?_)
            · refine lv_iload_n hx hb dX12_wrongAt_56 rfl (lv_at hl 3 rfl) ?_
              refine lv_iload_n hx hb dX12_wrongAt_57 rfl (lv_at hl 1 rfl) ?_
              refine lv_bipush (v := (nI (20))) hx hb dX12_wrongAt_58 (by decide) ?_
              refine ln_icmp_ge (tgt := 67) hx hb dX12_wrongAt_60 (by decide) (by omega) (by omega) (fun c5 => ?_) (fun c5 => ?_)
              · refine lv_iload_n hx hb dX12_wrongAt_67 rfl (lv_at hl 1 rfl) ?_
                refine lv_bipush (v := (nI (22))) hx hb dX12_wrongAt_68 (by decide) ?_
                refine ln_icmp_ne (tgt := 77) hx hb dX12_wrongAt_70 (by decide) (by omega) (by omega) (fun c6 => ?_) (fun c6 => ?_)
                · exact absurd c3 (by omega)
                · refine lv_iconst (v := (nI (0))) hx hb dX12_wrongAt_73 (by decide) ?_
                  refine lv_goto (tgt := 78) hx hb dX12_wrongAt_74 (by decide) ?_
                  refine ln_iadd hx hb dX12_wrongAt_78 ?_
                  refine lv_istore_n (lv' := [(1, .int (nI (d + 0))), (4, .int (nI (1))), (3, .int (nI (a (322 + k)))), (2, .int (nI (k))), (0, .ref (ad 0))]) hx hb dX12_wrongAt_79 rfl hl (by decide) rfl (fun ls hl => ?_)
                  refine lv_iload_n hx hb dX12_wrongAt_80 rfl (lv_at hl 0 rfl) ?_
                  refine lv_bipush (v := (nI (6))) hx hb dX12_wrongAt_81 (by decide) ?_
                  refine ln_icmp_le (tgt := 88) hx hb dX12_wrongAt_83 (by decide) (by omega) (by omega) (fun c7 => ?_) (fun c7 => ?_)
                  · refine lv_iinc (v := (nI (k + 1))) (lv' := [(2, .int (nI (k + 1))), (1, .int (nI (d + 0))), (4, .int (nI (1))), (3, .int (nI (a (322 + k)))), (0, .ref (ad 0))]) hx hb dX12_wrongAt_88 hl (k := 3) rfl (by rw [show (Int32.ofInt 1) = nI 1 from rfl, nI_add]) (by decide) rfl (fun ls hl => ?_)
                    refine lv_goto (tgt := 4) hx hb dX12_wrongAt_91 (by decide) ?_
                    exact ih (k + 1) (d + 0) (by omega) (by omega) (by rw [hw, wrGo_y (by rw [ht]; omega), ht]; rw [show d - 1 + 1 = d + 0 by omega]) _ _ _ hP hD hS (lv_sub hl [0, 1, 4] rfl)
                  · refine lv_iload_n hx hb dX12_wrongAt_86 rfl (lv_at hl 3 rfl) ?_
                    exact hret _ _ _ _ _ _ ⟨by rw [hw, wrGo_n (by rw [ht]; omega)], rfl⟩ hP hD hS dX12_wrongAt_87
              · exact absurd c2 (by omega)
            · refine lv_iload_n hx hb dX12_wrongAt_54 rfl (lv_at hl 2 rfl) ?_
              exact hret _ _ _ _ _ _ ⟨by rw [hw, wrGo_n (by rw [ht]; omega)], rfl⟩ hP hD hS dX12_wrongAt_55
        · have ht : tk ((fun j => a (322 + j)) k) = 0 := tk_0 c2
          refine lv_iconst (v := (nI (0))) hx hb dX12_wrongAt_31 (by decide) ?_
          refine lv_goto (tgt := 46) hx hb dX12_wrongAt_32 (by decide) ?_
          refine lv_istore (lv' := [(4, .int (nI (0))), (3, .int (nI (a (322 + k)))), (2, .int (nI (k))), (1, .int (nI (d))), (0, .ref (ad 0))]) hx hb dX12_wrongAt_46 hl (by decide) rfl (fun ls hl => ?_)
          refine lv_iload_n hx hb dX12_wrongAt_48 rfl (lv_at hl 3 rfl) ?_
          refine lv_iload hx hb dX12_wrongAt_49 (lv_at hl 0 rfl) ?_
          refine ln_icmp_ge (tgt := 56) hx hb dX12_wrongAt_51 (by decide) (by omega) (by omega) (fun c4 => ?_) (fun c4 => ?_)
          · refine lv_iload_n hx hb dX12_wrongAt_56 rfl (lv_at hl 3 rfl) ?_
            refine lv_iload_n hx hb dX12_wrongAt_57 rfl (lv_at hl 1 rfl) ?_
            refine lv_bipush (v := (nI (20))) hx hb dX12_wrongAt_58 (by decide) ?_
            refine ln_icmp_ge (tgt := 67) hx hb dX12_wrongAt_60 (by decide) (by omega) (by omega) (fun c5 => ?_) (fun c5 => ?_)
            · exact absurd c2 (by omega)
            · refine lv_iconst (v := (nI (1))) hx hb dX12_wrongAt_63 (by decide) ?_
              refine lv_goto (tgt := 78) hx hb dX12_wrongAt_64 (by decide) ?_
              refine ln_iadd hx hb dX12_wrongAt_78 ?_
              refine lv_istore_n (lv' := [(1, .int (nI (d + 1))), (4, .int (nI (0))), (3, .int (nI (a (322 + k)))), (2, .int (nI (k))), (0, .ref (ad 0))]) hx hb dX12_wrongAt_79 rfl hl (by decide) rfl (fun ls hl => ?_)
              refine lv_iload_n hx hb dX12_wrongAt_80 rfl (lv_at hl 0 rfl) ?_
              refine lv_bipush (v := (nI (6))) hx hb dX12_wrongAt_81 (by decide) ?_
              refine ln_icmp_le (tgt := 88) hx hb dX12_wrongAt_83 (by decide) (by omega) (by omega) (fun c7 => ?_) (fun c7 => ?_)
              · refine lv_iinc (v := (nI (k + 1))) (lv' := [(2, .int (nI (k + 1))), (1, .int (nI (d + 1))), (4, .int (nI (0))), (3, .int (nI (a (322 + k)))), (0, .ref (ad 0))]) hx hb dX12_wrongAt_88 hl (k := 3) rfl (by rw [show (Int32.ofInt 1) = nI 1 from rfl, nI_add]) (by decide) rfl (fun ls hl => ?_)
                refine lv_goto (tgt := 4) hx hb dX12_wrongAt_91 (by decide) ?_
                exact ih (k + 1) (d + 1) (by omega) (by omega) (by rw [hw, wrGo_y (by rw [ht]; omega), ht]; rfl) _ _ _ hP hD hS (lv_sub hl [0, 1, 4] rfl)
              · refine lv_iload_n hx hb dX12_wrongAt_86 rfl (lv_at hl 3 rfl) ?_
                exact hret _ _ _ _ _ _ ⟨by rw [hw, wrGo_n (by rw [ht]; omega)], rfl⟩ hP hD hS dX12_wrongAt_87
          · exact absurd c4 (by omega)
  exact lp (a 2) (0) (0) (by omega) (by omega) (rfl) _ _ _ hP hD hS hl
set_option maxHeartbeats 4000000 in
set_option maxRecDepth 100000 in
theorem cM_wrong (l : Launch) (D : va_G) (ad : Nat → Nat) (cI cJ : ClassId) (a kp bt sz : Nat → Nat) (sheets : Nat → Int32) (go ro : Nat → Nat) (car : Nat → Int32) (ke km fi gm bs bu : Nat) (n1 n2 n3 n4 n5 n6 n7 : Int64) (px py db : Nat → Int64)  (h2 : a 2 ≤ 12) (hs : ∀ k, k < a 2 → a (322 + k) ≤ 24) : mq_l l D (mT cI cJ) yX12_wrong wsX12_wrong 1 0 0 24 [.ref (ad 0)] (mW ad cI cJ a kp bt sz sheets go ro car ke km fi gm bs bu n1 n2 n3 n4 n5 n6 n7 px py db) (fun r w1 => r = (wrGo (fun j => a (322 + j)) (a 2) (a 2) 0 0).toInt64 ∧ w1 = mW ad cI cJ a kp bt sz sheets go ro car ke km fi gm bs bu n1 n2 n3 n4 n5 n6 n7 px py db) := by
  refine mq_l_of (cc := cX12_wrong) (maxL := 1) (by decide) rfl (Nat.le_of_ble_eq_true rfl) ?_
  intro p e s m args below meth c A Q ls hx hb hts hown hml hnm hA hP hK hD hS hl hret
  have hown : s.vm.findClass RX12 = some m.cls := hown
  have hinX12 : ∀ w ∈ u_ws RX12 TX12 24, w ∈ wsX12_wrong := by decide +kernel
  have hl : lv_has ls 1 [(0, .ref (ad 0))] := hl
  refine lv_aload_n hx hb dX12_wrong_0 rfl (lv_at hl 0 rfl) ?_
  refine mq_Vi (As := []) (rest := []) (ci := 12) (k0 := 0) ⟨hx, hb, hml, hown, hts⟩ (cM_wrongAt l D ad cI cJ a kp bt sz sheets go ro car ke km fi gm bs bu n1 n2 n3 n4 n5 n6 n7 px py db  h2 hs) (cwV 0 hts gX12_wrong_X12_wrongAt rfl rfl rfl (by decide +kernel) ⟨Nat.le_of_ble_eq_true rfl, Nat.le_of_ble_eq_true rfl⟩) rfl rfl hP hK hD hS hA rfl hl.1 rfl (Nat.le_of_ble_eq_true rfl) dX12_wrong_1 ⟨Nat.le_of_ble_eq_true rfl, Nat.le_of_ble_eq_true rfl⟩ (fun r w1 H locs hq hP hD hS => ?_)
  obtain ⟨rfl, rfl⟩ := hq
  refine lv_i2l hx hb dX12_wrong_4 rfl ?_
  exact hret _ _ _ _ _ _ ⟨rfl, rfl⟩ hP hD hS dX12_wrong_5
set_option maxHeartbeats 4000000 in
set_option maxRecDepth 100000 in
theorem cM_leads (l : Launch) (D : va_G) (ad : Nat → Nat) (cI cJ : ClassId) (a kp bt sz : Nat → Nat) (sheets : Nat → Int32) (go ro : Nat → Nat) (car : Nat → Int32) (ke km fi gm bs bu : Nat) (n1 n2 n3 n4 n5 n6 n7 : Int64) (px py db : Nat → Int64) (pi : Nat) (w : Nat) (hp : pi < 6) (hw : w < 2) (hn : a (4 + pi) ≤ 8) : mq_i l D (mT cI cJ) yX12_leads wsX12_leads 0 0 0 0 [.ref (ad 0), .int (nI (pi)), .int (nI (w))] (mW ad cI cJ a kp bt sz sheets go ro car ke km fi gm bs bu n1 n2 n3 n4 n5 n6 n7 px py db) (fun r w1 => r = bI (0 < lSp a pi w (a (4 + pi))) ∧ w1 = mW ad cI cJ a kp bt sz sheets go ro car ke km fi gm bs bu ((nI (a (4 + pi))).toInt64) (lSU a pi w (a (4 + pi))) (lSX a pi w (a (4 + pi))) (lUU a pi w (a (4 + pi))) (lUX a pi w (a (4 + pi))) (lXX a pi w (a (4 + pi))) (lSp a pi w (a (4 + pi))) px py db) := by
  refine mq_z_of (cc := cX12_leads) (maxL := 8) (by decide) rfl (Nat.le_of_ble_eq_true rfl) ?_
  intro p e s m args below meth c A Q ls hx hb hts hown hml hnm hA hP hK hD hS hl hret
  have hown : s.vm.findClass RX12 = some m.cls := hown
  have hinX12 : ∀ w ∈ u_ws RX12 TX12 24, w ∈ wsX12_leads := by decide +kernel
  have hl : lv_has ls 8 [(0, .ref (ad 0)), (1, .int (nI (pi))), (2, .int (nI (w)))] := hl
  refine lv_aload_n hx hb dX12_leads_0 rfl (lv_at hl 0 rfl) ?_
  refine lv_aload_n hx hb dX12_leads_1 rfl (lv_at hl 0 rfl) ?_
  refine va_get (D := D) (ci := 12) (v := .ref (ad 1)) (C := RX12) (T := TX12) (N := 24) hx hb hts hinX12 hown hK hP 0 rfl rfl 0 (by decide) (hts (.fieldLink RX12 9 "CornDeskModel" "now" "[I") (by decide +kernel)) (fun _ h9 => h9) rfl dX12_leads_2 ?_
  refine lv_iconst (v := (nI (4))) hx hb dX12_leads_5 (by decide) ?_
  refine lv_iload_n hx hb dX12_leads_6 rfl (lv_at hl 1 rfl) ?_
  refine ln_iadd hx hb dX12_leads_7 ?_
  refine ln_iald hx hb hK hP 1 0 rfl rfl (by decide) (by omega) dX12_leads_8 ?_
  refine lv_i2l hx hb dX12_leads_9 rfl ?_
  refine va_put (D := D) (ci := 12) (v := .long ((nI (a (4 + pi))).toInt64)) (ty := .long) (C := RX12) (T := TX12) (N := 24) hx hb hts hinX12 tyX12 tyX12_ok nmX12 hown hK hP hD hS 0 rfl rfl 8 (by decide) (hts (.fieldLink RX12 78 "CornDeskModel" "n" "J") (by decide +kernel)) (fun _ h9 => h9) rfl (by decide +kernel) rfl rfl (Nat.le_of_ble_eq_true rfl) dX12_leads_10 (fun H locs hP hD hS => ?_)
  have hP : va_P D vwCl (mW ad cI cJ a kp bt sz sheets go ro car ke km fi gm bs bu ((nI (a (4 + pi))).toInt64) n2 n3 n4 n5 n6 n7 px py db) H := hP
  have hD : va_D A (mW ad cI cJ a kp bt sz sheets go ro car ke km fi gm bs bu ((nI (a (4 + pi))).toInt64) n2 n3 n4 n5 n6 n7 px py db) := hD
  refine lv_aload_n hx hb dX12_leads_13 rfl (lv_at hl 0 rfl) ?_
  refine lv_lconst (v := 0) hx hb dX12_leads_14 (by decide) ?_
  refine va_put (D := D) (ci := 12) (v := .long (0)) (ty := .long) (C := RX12) (T := TX12) (N := 24) hx hb hts hinX12 tyX12 tyX12_ok nmX12 hown hK hP hD hS 0 rfl rfl 9 (by decide) (hts (.fieldLink RX12 82 "CornDeskModel" "sumU" "J") (by decide +kernel)) (fun _ h9 => h9) rfl (by decide +kernel) rfl rfl (Nat.le_of_ble_eq_true rfl) dX12_leads_15 (fun H locs hP hD hS => ?_)
  have hP : va_P D vwCl (mW ad cI cJ a kp bt sz sheets go ro car ke km fi gm bs bu ((nI (a (4 + pi))).toInt64) 0 n3 n4 n5 n6 n7 px py db) H := hP
  have hD : va_D A (mW ad cI cJ a kp bt sz sheets go ro car ke km fi gm bs bu ((nI (a (4 + pi))).toInt64) 0 n3 n4 n5 n6 n7 px py db) := hD
  refine lv_aload_n hx hb dX12_leads_18 rfl (lv_at hl 0 rfl) ?_
  refine lv_lconst (v := 0) hx hb dX12_leads_19 (by decide) ?_
  refine va_put (D := D) (ci := 12) (v := .long (0)) (ty := .long) (C := RX12) (T := TX12) (N := 24) hx hb hts hinX12 tyX12 tyX12_ok nmX12 hown hK hP hD hS 0 rfl rfl 10 (by decide) (hts (.fieldLink RX12 85 "CornDeskModel" "sumX" "J") (by decide +kernel)) (fun _ h9 => h9) rfl (by decide +kernel) rfl rfl (Nat.le_of_ble_eq_true rfl) dX12_leads_20 (fun H locs hP hD hS => ?_)
  have hP : va_P D vwCl (mW ad cI cJ a kp bt sz sheets go ro car ke km fi gm bs bu ((nI (a (4 + pi))).toInt64) 0 0 n4 n5 n6 n7 px py db) H := hP
  have hD : va_D A (mW ad cI cJ a kp bt sz sheets go ro car ke km fi gm bs bu ((nI (a (4 + pi))).toInt64) 0 0 n4 n5 n6 n7 px py db) := hD
  refine lv_aload_n hx hb dX12_leads_23 rfl (lv_at hl 0 rfl) ?_
  refine lv_lconst (v := 0) hx hb dX12_leads_24 (by decide) ?_
  refine va_put (D := D) (ci := 12) (v := .long (0)) (ty := .long) (C := RX12) (T := TX12) (N := 24) hx hb hts hinX12 tyX12 tyX12_ok nmX12 hown hK hP hD hS 0 rfl rfl 11 (by decide) (hts (.fieldLink RX12 88 "CornDeskModel" "sumUU" "J") (by decide +kernel)) (fun _ h9 => h9) rfl (by decide +kernel) rfl rfl (Nat.le_of_ble_eq_true rfl) dX12_leads_25 (fun H locs hP hD hS => ?_)
  have hP : va_P D vwCl (mW ad cI cJ a kp bt sz sheets go ro car ke km fi gm bs bu ((nI (a (4 + pi))).toInt64) 0 0 0 n5 n6 n7 px py db) H := hP
  have hD : va_D A (mW ad cI cJ a kp bt sz sheets go ro car ke km fi gm bs bu ((nI (a (4 + pi))).toInt64) 0 0 0 n5 n6 n7 px py db) := hD
  refine lv_aload_n hx hb dX12_leads_28 rfl (lv_at hl 0 rfl) ?_
  refine lv_lconst (v := 0) hx hb dX12_leads_29 (by decide) ?_
  refine va_put (D := D) (ci := 12) (v := .long (0)) (ty := .long) (C := RX12) (T := TX12) (N := 24) hx hb hts hinX12 tyX12 tyX12_ok nmX12 hown hK hP hD hS 0 rfl rfl 12 (by decide) (hts (.fieldLink RX12 91 "CornDeskModel" "sumUX" "J") (by decide +kernel)) (fun _ h9 => h9) rfl (by decide +kernel) rfl rfl (Nat.le_of_ble_eq_true rfl) dX12_leads_30 (fun H locs hP hD hS => ?_)
  have hP : va_P D vwCl (mW ad cI cJ a kp bt sz sheets go ro car ke km fi gm bs bu ((nI (a (4 + pi))).toInt64) 0 0 0 0 n6 n7 px py db) H := hP
  have hD : va_D A (mW ad cI cJ a kp bt sz sheets go ro car ke km fi gm bs bu ((nI (a (4 + pi))).toInt64) 0 0 0 0 n6 n7 px py db) := hD
  refine lv_aload_n hx hb dX12_leads_33 rfl (lv_at hl 0 rfl) ?_
  refine lv_lconst (v := 0) hx hb dX12_leads_34 (by decide) ?_
  refine va_put (D := D) (ci := 12) (v := .long (0)) (ty := .long) (C := RX12) (T := TX12) (N := 24) hx hb hts hinX12 tyX12 tyX12_ok nmX12 hown hK hP hD hS 0 rfl rfl 13 (by decide) (hts (.fieldLink RX12 94 "CornDeskModel" "sumXX" "J") (by decide +kernel)) (fun _ h9 => h9) rfl (by decide +kernel) rfl rfl (Nat.le_of_ble_eq_true rfl) dX12_leads_35 (fun H locs hP hD hS => ?_)
  have hP : va_P D vwCl (mW ad cI cJ a kp bt sz sheets go ro car ke km fi gm bs bu ((nI (a (4 + pi))).toInt64) 0 0 0 0 0 n7 px py db) H := hP
  have hD : va_D A (mW ad cI cJ a kp bt sz sheets go ro car ke km fi gm bs bu ((nI (a (4 + pi))).toInt64) 0 0 0 0 0 n7 px py db) := hD
  refine lv_iconst (v := (nI (0))) hx hb dX12_leads_38 (by decide) ?_
  refine lv_istore_n (lv' := [(3, .int (nI (0))), (0, .ref (ad 0)), (1, .int (nI (pi))), (2, .int (nI (w)))]) hx hb dX12_leads_39 rfl hl (by decide) rfl (fun ls hl => ?_)
  have lp : ∀ (n : Nat) (k : Nat), (k + n = a (4 + pi)) → ∀ (H : Heap) (locs : List Loc) (ls : Array Slot), va_P D vwCl (mW ad cI cJ a kp bt sz sheets go ro car ke km fi gm bs bu ((nI (a (4 + pi))).toInt64) (lSU a pi w k) (lSX a pi w k) (lUU a pi w k) (lUX a pi w k) (lXX a pi w k) n7 px py db) H → va_D A (mW ad cI cJ a kp bt sz sheets go ro car ke km fi gm bs bu ((nI (a (4 + pi))).toInt64) (lSU a pi w k) (lSX a pi w k) (lUU a pi w k) (lUX a pi w k) (lXX a pi w k) n7 px py db) → va_S A s.heap H locs → lv_has ls 8 [(3, .int (nI (k))), (0, .ref (ad 0)), (1, .int (nI (pi))), (2, .int (nI (w)))] → W p l e (mq_R 0 0 0 0) s m args below meth c H locs 0 0 Q (F0 m 40 ls []) := by
    intro n
    induction n with
    | zero =>
      intro k hk H locs ls hP hD hS hl
      refine lv_iload_n hx hb dX12_leads_40 rfl (lv_at hl 0 rfl) ?_
      refine lv_i2l hx hb dX12_leads_41 rfl ?_
      refine lv_aload_n hx hb dX12_leads_42 rfl (lv_at hl 1 rfl) ?_
      refine va_get (D := D) (ci := 12) (v := .long ((nI (a (4 + pi))).toInt64)) (C := RX12) (T := TX12) (N := 24) hx hb hts hinX12 hown hK hP 0 rfl rfl 8 (by decide) (hts (.fieldLink RX12 78 "CornDeskModel" "n" "J") (by decide +kernel)) (fun _ h9 => h9) rfl dX12_leads_43 ?_
      refine W.lcmp hx hb dX12_leads_46 ?_
      refine lv_if_ge (tgt := 164) hx hb dX12_leads_47 (by decide) (fun c1 => ?_) (fun c1 => ?_)
      · have hk0 : k = a (4 + pi) := by omega
        subst hk0
        refine lv_aload_n hx hb dX12_leads_164 rfl (lv_at hl 1 rfl) ?_
        refine lv_aload_n hx hb dX12_leads_165 rfl (lv_at hl 1 rfl) ?_
        refine va_get (D := D) (ci := 12) (v := .long ((nI (a (4 + pi))).toInt64)) (C := RX12) (T := TX12) (N := 24) hx hb hts hinX12 hown hK hP 0 rfl rfl 8 (by decide) (hts (.fieldLink RX12 78 "CornDeskModel" "n" "J") (by decide +kernel)) (fun _ h9 => h9) rfl dX12_leads_166 ?_
        refine lv_aload_n hx hb dX12_leads_169 rfl (lv_at hl 1 rfl) ?_
        refine va_get (D := D) (ci := 12) (v := .long (lUU a pi w (a (4 + pi)))) (C := RX12) (T := TX12) (N := 24) hx hb hts hinX12 hown hK hP 0 rfl rfl 11 (by decide) (hts (.fieldLink RX12 88 "CornDeskModel" "sumUU" "J") (by decide +kernel)) (fun _ h9 => h9) rfl dX12_leads_170 ?_
        refine lv_lmul hx hb dX12_leads_173 ?_
        refine lv_aload_n hx hb dX12_leads_174 rfl (lv_at hl 1 rfl) ?_
        refine va_get (D := D) (ci := 12) (v := .long (lSU a pi w (a (4 + pi)))) (C := RX12) (T := TX12) (N := 24) hx hb hts hinX12 hown hK hP 0 rfl rfl 9 (by decide) (hts (.fieldLink RX12 82 "CornDeskModel" "sumU" "J") (by decide +kernel)) (fun _ h9 => h9) rfl dX12_leads_175 ?_
        refine lv_aload_n hx hb dX12_leads_178 rfl (lv_at hl 1 rfl) ?_
        refine va_get (D := D) (ci := 12) (v := .long (lSU a pi w (a (4 + pi)))) (C := RX12) (T := TX12) (N := 24) hx hb hts hinX12 hown hK hP 0 rfl rfl 9 (by decide) (hts (.fieldLink RX12 82 "CornDeskModel" "sumU" "J") (by decide +kernel)) (fun _ h9 => h9) rfl dX12_leads_179 ?_
        refine lv_lmul hx hb dX12_leads_182 ?_
        refine lv_lsub hx hb dX12_leads_183 ?_
        refine va_put (D := D) (ci := 12) (v := .long ((((nI (a (4 + pi))).toInt64) * (lUU a pi w (a (4 + pi)))) - ((lSU a pi w (a (4 + pi))) * (lSU a pi w (a (4 + pi)))))) (ty := .long) (C := RX12) (T := TX12) (N := 24) hx hb hts hinX12 tyX12 tyX12_ok nmX12 hown hK hP hD hS 0 rfl rfl 14 (by decide) (hts (.fieldLink RX12 97 "CornDeskModel" "spread" "J") (by decide +kernel)) (fun _ h9 => h9) rfl (by decide +kernel) rfl rfl (Nat.le_of_ble_eq_true rfl) dX12_leads_184 (fun H locs hP hD hS => ?_)
        have hP : va_P D vwCl (mW ad cI cJ a kp bt sz sheets go ro car ke km fi gm bs bu ((nI (a (4 + pi))).toInt64) (lSU a pi w (a (4 + pi))) (lSX a pi w (a (4 + pi))) (lUU a pi w (a (4 + pi))) (lUX a pi w (a (4 + pi))) (lXX a pi w (a (4 + pi))) ((((nI (a (4 + pi))).toInt64) * (lUU a pi w (a (4 + pi)))) - ((lSU a pi w (a (4 + pi))) * (lSU a pi w (a (4 + pi))))) px py db) H := hP
        have hD : va_D A (mW ad cI cJ a kp bt sz sheets go ro car ke km fi gm bs bu ((nI (a (4 + pi))).toInt64) (lSU a pi w (a (4 + pi))) (lSX a pi w (a (4 + pi))) (lUU a pi w (a (4 + pi))) (lUX a pi w (a (4 + pi))) (lXX a pi w (a (4 + pi))) ((((nI (a (4 + pi))).toInt64) * (lUU a pi w (a (4 + pi)))) - ((lSU a pi w (a (4 + pi))) * (lSU a pi w (a (4 + pi))))) px py db) := hD
        refine lv_aload_n hx hb dX12_leads_187 rfl (lv_at hl 1 rfl) ?_
        refine va_get (D := D) (ci := 12) (v := .long ((((nI (a (4 + pi))).toInt64) * (lUU a pi w (a (4 + pi)))) - ((lSU a pi w (a (4 + pi))) * (lSU a pi w (a (4 + pi)))))) (C := RX12) (T := TX12) (N := 24) hx hb hts hinX12 hown hK hP 0 rfl rfl 14 (by decide) (hts (.fieldLink RX12 97 "CornDeskModel" "spread" "J") (by decide +kernel)) (fun _ h9 => h9) rfl dX12_leads_188 ?_
        refine lv_lconst (v := 0) hx hb dX12_leads_191 (by decide) ?_
        refine W.lcmp hx hb dX12_leads_192 ?_
        refine lv_if_le (tgt := 200) hx hb dX12_leads_193 (by decide) (fun c2 => ?_) (fun c2 => ?_)
        · refine lv_iconst (v := (nI (0))) hx hb dX12_leads_200 (by decide) ?_
          exact hret _ _ _ _ _ _ rfl ⟨bI_f' (fun h => absurd h (Int64.not_lt.mpr ((lg_cmp_le _ _).mp c2))), rfl⟩ hP hD hS dX12_leads_201
        · refine lv_iconst (v := (nI (1))) hx hb dX12_leads_196 (by decide) ?_
          refine lv_goto (tgt := 201) hx hb dX12_leads_197 (by decide) ?_
          exact hret _ _ _ _ _ _ rfl ⟨bI_t' (Int64.not_le.mp (fun h => c2 ((lg_cmp_le _ _).mpr h))), rfl⟩ hP hD hS dX12_leads_201
      · exact absurd (show 0 ≤ lg_cmp (nI k).toInt64 (nI (a (4 + pi))).toInt64 by rw [show k = a (4 + pi) by omega, lg_cmp_ge]; exact Int64.le_refl _) c1
    | succ n ih =>
      intro k hk H locs ls hP hD hS hl
      refine lv_iload_n hx hb dX12_leads_40 rfl (lv_at hl 0 rfl) ?_
      refine lv_i2l hx hb dX12_leads_41 rfl ?_
      refine lv_aload_n hx hb dX12_leads_42 rfl (lv_at hl 1 rfl) ?_
      refine va_get (D := D) (ci := 12) (v := .long ((nI (a (4 + pi))).toInt64)) (C := RX12) (T := TX12) (N := 24) hx hb hts hinX12 hown hK hP 0 rfl rfl 8 (by decide) (hts (.fieldLink RX12 78 "CornDeskModel" "n" "J") (by decide +kernel)) (fun _ h9 => h9) rfl dX12_leads_43 ?_
      refine W.lcmp hx hb dX12_leads_46 ?_
      refine lv_if_ge (tgt := 164) hx hb dX12_leads_47 (by decide) (fun c1 => ?_) (fun c1 => ?_)
      · have c1 : 0 ≤ lg_cmp (nI k).toInt64 (nI (a (4 + pi))).toInt64 := c1
        rw [nI_l (show k < 2 ^ 31 by omega), nI_l (show a (4 + pi) < 2 ^ 31 by omega), lg_cmp_ge, pk_lLE (by omega) (by omega)] at c1
        exact absurd c1 (by omega)
      · refine lv_aload_n hx hb dX12_leads_50 rfl (lv_at hl 1 rfl) ?_
        refine va_get (D := D) (ci := 12) (v := .ref (ad 1)) (C := RX12) (T := TX12) (N := 24) hx hb hts hinX12 hown hK hP 0 rfl rfl 0 (by decide) (hts (.fieldLink RX12 9 "CornDeskModel" "now" "[I") (by decide +kernel)) (fun _ h9 => h9) rfl dX12_leads_51 ?_
        refine lv_bipush (v := (nI (10))) hx hb dX12_leads_54 (by decide) ?_
        refine lv_bipush (v := (nI (32))) hx hb dX12_leads_56 (by decide) ?_
        refine lv_iload_n hx hb dX12_leads_58 rfl (lv_at hl 2 rfl) ?_
        refine ln_imul hx hb dX12_leads_59 ?_
        refine ln_iadd hx hb dX12_leads_60 ?_
        refine lv_iconst (v := (nI (4))) hx hb dX12_leads_61 (by decide) ?_
        refine lv_iload_n hx hb dX12_leads_62 rfl (lv_at hl 0 rfl) ?_
        refine ln_imul hx hb dX12_leads_63 ?_
        refine ln_iadd hx hb dX12_leads_64 ?_
        refine lv_iload_n hx hb dX12_leads_65 rfl (lv_at hl 3 rfl) ?_
        refine ln_iadd hx hb dX12_leads_66 ?_
        refine ln_iald hx hb hK hP 1 0 rfl rfl (by decide) (by omega) dX12_leads_67 ?_
        refine lv_i2l hx hb dX12_leads_68 rfl ?_
        refine ln_eql (y := (lU a pi w k)) rfl ?_
        refine lv_lstore (lv' := [(4, .long (lU a pi w k)), (3, .int (nI (k))), (0, .ref (ad 0)), (1, .int (nI (pi))), (2, .int (nI (w)))]) hx hb dX12_leads_69 hl (by decide) rfl (fun ls hl => ?_)
        refine lv_aload_n hx hb dX12_leads_71 rfl (lv_at hl 2 rfl) ?_
        refine va_get (D := D) (ci := 12) (v := .ref (ad 1)) (C := RX12) (T := TX12) (N := 24) hx hb hts hinX12 hown hK hP 0 rfl rfl 0 (by decide) (hts (.fieldLink RX12 9 "CornDeskModel" "now" "[I") (by decide +kernel)) (fun _ h9 => h9) rfl dX12_leads_72 ?_
        refine lv_bipush (v := (nI (10))) hx hb dX12_leads_75 (by decide) ?_
        refine lv_bipush (v := (nI (32))) hx hb dX12_leads_77 (by decide) ?_
        refine lv_iload_n hx hb dX12_leads_79 rfl (lv_at hl 3 rfl) ?_
        refine ln_imul hx hb dX12_leads_80 ?_
        refine ln_iadd hx hb dX12_leads_81 ?_
        refine lv_iconst (v := (nI (4))) hx hb dX12_leads_82 (by decide) ?_
        refine lv_iload_n hx hb dX12_leads_83 rfl (lv_at hl 1 rfl) ?_
        refine ln_imul hx hb dX12_leads_84 ?_
        refine ln_iadd hx hb dX12_leads_85 ?_
        refine lv_iconst (v := (nI (2))) hx hb dX12_leads_86 (by decide) ?_
        refine ln_iadd hx hb dX12_leads_87 ?_
        refine lv_iload_n hx hb dX12_leads_88 rfl (lv_at hl 4 rfl) ?_
        refine ln_iadd hx hb dX12_leads_89 ?_
        refine ln_iald hx hb hK hP 1 0 rfl rfl (by decide) (by omega) dX12_leads_90 ?_
        refine lv_i2l hx hb dX12_leads_91 rfl ?_
        refine ln_eql (y := (lX a pi w k)) rfl ?_
        refine lv_lstore (lv' := [(6, .long (lX a pi w k)), (4, .long (lU a pi w k)), (3, .int (nI (k))), (0, .ref (ad 0)), (1, .int (nI (pi))), (2, .int (nI (w)))]) hx hb dX12_leads_92 hl (by decide) rfl (fun ls hl => ?_)
        refine lv_aload_n hx hb dX12_leads_94 rfl (lv_at hl 3 rfl) ?_
        refine lv_dup hx hb dX12_leads_95 rfl ?_
        refine va_get (D := D) (ci := 12) (v := .long (lSU a pi w k)) (C := RX12) (T := TX12) (N := 24) hx hb hts hinX12 hown hK hP 0 rfl rfl 9 (by decide) (hts (.fieldLink RX12 82 "CornDeskModel" "sumU" "J") (by decide +kernel)) (fun _ h9 => h9) rfl dX12_leads_96 ?_
        refine lv_lload hx hb dX12_leads_99 (lv_at hl 1 rfl) ?_
        refine lv_ladd hx hb dX12_leads_101 ?_
        refine va_put (D := D) (ci := 12) (v := .long ((lSU a pi w k) + (lU a pi w k))) (ty := .long) (C := RX12) (T := TX12) (N := 24) hx hb hts hinX12 tyX12 tyX12_ok nmX12 hown hK hP hD hS 0 rfl rfl 9 (by decide) (hts (.fieldLink RX12 82 "CornDeskModel" "sumU" "J") (by decide +kernel)) (fun _ h9 => h9) rfl (by decide +kernel) rfl rfl (Nat.le_of_ble_eq_true rfl) dX12_leads_102 (fun H locs hP hD hS => ?_)
        have hP : va_P D vwCl (mW ad cI cJ a kp bt sz sheets go ro car ke km fi gm bs bu ((nI (a (4 + pi))).toInt64) ((lSU a pi w k) + (lU a pi w k)) (lSX a pi w k) (lUU a pi w k) (lUX a pi w k) (lXX a pi w k) n7 px py db) H := hP
        have hD : va_D A (mW ad cI cJ a kp bt sz sheets go ro car ke km fi gm bs bu ((nI (a (4 + pi))).toInt64) ((lSU a pi w k) + (lU a pi w k)) (lSX a pi w k) (lUU a pi w k) (lUX a pi w k) (lXX a pi w k) n7 px py db) := hD
        refine lv_aload_n hx hb dX12_leads_105 rfl (lv_at hl 3 rfl) ?_
        refine lv_dup hx hb dX12_leads_106 rfl ?_
        refine va_get (D := D) (ci := 12) (v := .long (lSX a pi w k)) (C := RX12) (T := TX12) (N := 24) hx hb hts hinX12 hown hK hP 0 rfl rfl 10 (by decide) (hts (.fieldLink RX12 85 "CornDeskModel" "sumX" "J") (by decide +kernel)) (fun _ h9 => h9) rfl dX12_leads_107 ?_
        refine lv_lload hx hb dX12_leads_110 (lv_at hl 0 rfl) ?_
        refine lv_ladd hx hb dX12_leads_112 ?_
        refine va_put (D := D) (ci := 12) (v := .long ((lSX a pi w k) + (lX a pi w k))) (ty := .long) (C := RX12) (T := TX12) (N := 24) hx hb hts hinX12 tyX12 tyX12_ok nmX12 hown hK hP hD hS 0 rfl rfl 10 (by decide) (hts (.fieldLink RX12 85 "CornDeskModel" "sumX" "J") (by decide +kernel)) (fun _ h9 => h9) rfl (by decide +kernel) rfl rfl (Nat.le_of_ble_eq_true rfl) dX12_leads_113 (fun H locs hP hD hS => ?_)
        have hP : va_P D vwCl (mW ad cI cJ a kp bt sz sheets go ro car ke km fi gm bs bu ((nI (a (4 + pi))).toInt64) ((lSU a pi w k) + (lU a pi w k)) ((lSX a pi w k) + (lX a pi w k)) (lUU a pi w k) (lUX a pi w k) (lXX a pi w k) n7 px py db) H := hP
        have hD : va_D A (mW ad cI cJ a kp bt sz sheets go ro car ke km fi gm bs bu ((nI (a (4 + pi))).toInt64) ((lSU a pi w k) + (lU a pi w k)) ((lSX a pi w k) + (lX a pi w k)) (lUU a pi w k) (lUX a pi w k) (lXX a pi w k) n7 px py db) := hD
        refine lv_aload_n hx hb dX12_leads_116 rfl (lv_at hl 3 rfl) ?_
        refine lv_dup hx hb dX12_leads_117 rfl ?_
        refine va_get (D := D) (ci := 12) (v := .long (lUU a pi w k)) (C := RX12) (T := TX12) (N := 24) hx hb hts hinX12 hown hK hP 0 rfl rfl 11 (by decide) (hts (.fieldLink RX12 88 "CornDeskModel" "sumUU" "J") (by decide +kernel)) (fun _ h9 => h9) rfl dX12_leads_118 ?_
        refine lv_lload hx hb dX12_leads_121 (lv_at hl 1 rfl) ?_
        refine lv_lload hx hb dX12_leads_123 (lv_at hl 1 rfl) ?_
        refine lv_lmul hx hb dX12_leads_125 ?_
        refine lv_ladd hx hb dX12_leads_126 ?_
        refine va_put (D := D) (ci := 12) (v := .long ((lUU a pi w k) + ((lU a pi w k) * (lU a pi w k)))) (ty := .long) (C := RX12) (T := TX12) (N := 24) hx hb hts hinX12 tyX12 tyX12_ok nmX12 hown hK hP hD hS 0 rfl rfl 11 (by decide) (hts (.fieldLink RX12 88 "CornDeskModel" "sumUU" "J") (by decide +kernel)) (fun _ h9 => h9) rfl (by decide +kernel) rfl rfl (Nat.le_of_ble_eq_true rfl) dX12_leads_127 (fun H locs hP hD hS => ?_)
        have hP : va_P D vwCl (mW ad cI cJ a kp bt sz sheets go ro car ke km fi gm bs bu ((nI (a (4 + pi))).toInt64) ((lSU a pi w k) + (lU a pi w k)) ((lSX a pi w k) + (lX a pi w k)) ((lUU a pi w k) + ((lU a pi w k) * (lU a pi w k))) (lUX a pi w k) (lXX a pi w k) n7 px py db) H := hP
        have hD : va_D A (mW ad cI cJ a kp bt sz sheets go ro car ke km fi gm bs bu ((nI (a (4 + pi))).toInt64) ((lSU a pi w k) + (lU a pi w k)) ((lSX a pi w k) + (lX a pi w k)) ((lUU a pi w k) + ((lU a pi w k) * (lU a pi w k))) (lUX a pi w k) (lXX a pi w k) n7 px py db) := hD
        refine lv_aload_n hx hb dX12_leads_130 rfl (lv_at hl 3 rfl) ?_
        refine lv_dup hx hb dX12_leads_131 rfl ?_
        refine va_get (D := D) (ci := 12) (v := .long (lUX a pi w k)) (C := RX12) (T := TX12) (N := 24) hx hb hts hinX12 hown hK hP 0 rfl rfl 12 (by decide) (hts (.fieldLink RX12 91 "CornDeskModel" "sumUX" "J") (by decide +kernel)) (fun _ h9 => h9) rfl dX12_leads_132 ?_
        refine lv_lload hx hb dX12_leads_135 (lv_at hl 1 rfl) ?_
        refine lv_lload hx hb dX12_leads_137 (lv_at hl 0 rfl) ?_
        refine lv_lmul hx hb dX12_leads_139 ?_
        refine lv_ladd hx hb dX12_leads_140 ?_
        refine va_put (D := D) (ci := 12) (v := .long ((lUX a pi w k) + ((lU a pi w k) * (lX a pi w k)))) (ty := .long) (C := RX12) (T := TX12) (N := 24) hx hb hts hinX12 tyX12 tyX12_ok nmX12 hown hK hP hD hS 0 rfl rfl 12 (by decide) (hts (.fieldLink RX12 91 "CornDeskModel" "sumUX" "J") (by decide +kernel)) (fun _ h9 => h9) rfl (by decide +kernel) rfl rfl (Nat.le_of_ble_eq_true rfl) dX12_leads_141 (fun H locs hP hD hS => ?_)
        have hP : va_P D vwCl (mW ad cI cJ a kp bt sz sheets go ro car ke km fi gm bs bu ((nI (a (4 + pi))).toInt64) ((lSU a pi w k) + (lU a pi w k)) ((lSX a pi w k) + (lX a pi w k)) ((lUU a pi w k) + ((lU a pi w k) * (lU a pi w k))) ((lUX a pi w k) + ((lU a pi w k) * (lX a pi w k))) (lXX a pi w k) n7 px py db) H := hP
        have hD : va_D A (mW ad cI cJ a kp bt sz sheets go ro car ke km fi gm bs bu ((nI (a (4 + pi))).toInt64) ((lSU a pi w k) + (lU a pi w k)) ((lSX a pi w k) + (lX a pi w k)) ((lUU a pi w k) + ((lU a pi w k) * (lU a pi w k))) ((lUX a pi w k) + ((lU a pi w k) * (lX a pi w k))) (lXX a pi w k) n7 px py db) := hD
        refine lv_aload_n hx hb dX12_leads_144 rfl (lv_at hl 3 rfl) ?_
        refine lv_dup hx hb dX12_leads_145 rfl ?_
        refine va_get (D := D) (ci := 12) (v := .long (lXX a pi w k)) (C := RX12) (T := TX12) (N := 24) hx hb hts hinX12 hown hK hP 0 rfl rfl 13 (by decide) (hts (.fieldLink RX12 94 "CornDeskModel" "sumXX" "J") (by decide +kernel)) (fun _ h9 => h9) rfl dX12_leads_146 ?_
        refine lv_lload hx hb dX12_leads_149 (lv_at hl 0 rfl) ?_
        refine lv_lload hx hb dX12_leads_151 (lv_at hl 0 rfl) ?_
        refine lv_lmul hx hb dX12_leads_153 ?_
        refine lv_ladd hx hb dX12_leads_154 ?_
        refine va_put (D := D) (ci := 12) (v := .long ((lXX a pi w k) + ((lX a pi w k) * (lX a pi w k)))) (ty := .long) (C := RX12) (T := TX12) (N := 24) hx hb hts hinX12 tyX12 tyX12_ok nmX12 hown hK hP hD hS 0 rfl rfl 13 (by decide) (hts (.fieldLink RX12 94 "CornDeskModel" "sumXX" "J") (by decide +kernel)) (fun _ h9 => h9) rfl (by decide +kernel) rfl rfl (Nat.le_of_ble_eq_true rfl) dX12_leads_155 (fun H locs hP hD hS => ?_)
        have hP : va_P D vwCl (mW ad cI cJ a kp bt sz sheets go ro car ke km fi gm bs bu ((nI (a (4 + pi))).toInt64) ((lSU a pi w k) + (lU a pi w k)) ((lSX a pi w k) + (lX a pi w k)) ((lUU a pi w k) + ((lU a pi w k) * (lU a pi w k))) ((lUX a pi w k) + ((lU a pi w k) * (lX a pi w k))) ((lXX a pi w k) + ((lX a pi w k) * (lX a pi w k))) n7 px py db) H := hP
        have hD : va_D A (mW ad cI cJ a kp bt sz sheets go ro car ke km fi gm bs bu ((nI (a (4 + pi))).toInt64) ((lSU a pi w k) + (lU a pi w k)) ((lSX a pi w k) + (lX a pi w k)) ((lUU a pi w k) + ((lU a pi w k) * (lU a pi w k))) ((lUX a pi w k) + ((lU a pi w k) * (lX a pi w k))) ((lXX a pi w k) + ((lX a pi w k) * (lX a pi w k))) n7 px py db) := hD
        refine lv_iinc (v := (nI (k + 1))) (lv' := [(3, .int (nI (k + 1))), (6, .long (lX a pi w k)), (4, .long (lU a pi w k)), (0, .ref (ad 0)), (1, .int (nI (pi))), (2, .int (nI (w)))]) hx hb dX12_leads_158 hl (k := 2) rfl (by rw [show (Int32.ofInt 1) = nI 1 from rfl, nI_add]) (by decide) rfl (fun ls hl => ?_)
        refine lv_goto (tgt := 40) hx hb dX12_leads_161 (by decide) ?_
        exact ih (k + 1) (by omega) _ _ _ (by rw [lSU_s, lSX_s, lUU_s, lUX_s, lXX_s]; exact hP) (by rw [lSU_s, lSX_s, lUU_s, lUX_s, lXX_s]; exact hD) hS (lv_sub hl [0, 3, 4, 5] rfl)
  exact lp (a (4 + pi)) (0) (by omega) _ _ _ hP hD hS hl
set_option maxHeartbeats 4000000 in
set_option maxRecDepth 100000 in
theorem cM_aboveAt (l : Launch) (D : va_G) (ad : Nat → Nat) (cI cJ : ClassId) (a kp bt sz : Nat → Nat) (sheets : Nat → Int32) (go ro : Nat → Nat) (car : Nat → Int32) (ke km fi gm bs bu : Nat) (n1 n2 n3 n4 n5 n6 n7 : Int64) (px py db : Nat → Int64) (u : Int64)  : mq_l l D (mT cI cJ) yX12_aboveAt wsX12_aboveAt 0 0 0 0 [.ref (ad 0), .long (u)] (mW ad cI cJ a kp bt sz sheets go ro car ke km fi gm bs bu n1 n2 n3 n4 n5 n6 n7 px py db) (fun r w1 => r = n3 * n7 + (n1 * n5 - n2 * n3) * (n1 * u - n2) ∧ w1 = mW ad cI cJ a kp bt sz sheets go ro car ke km fi gm bs bu n1 n2 n3 n4 n5 n6 n7 px py db) := by
  refine mq_l_of (cc := cX12_aboveAt) (maxL := 3) (by decide) rfl (Nat.le_of_ble_eq_true rfl) ?_
  intro p e s m args below meth c A Q ls hx hb hts hown hml hnm hA hP hK hD hS hl hret
  have hown : s.vm.findClass RX12 = some m.cls := hown
  have hinX12 : ∀ w ∈ u_ws RX12 TX12 24, w ∈ wsX12_aboveAt := by decide +kernel
  have hl : lv_has ls 3 [(0, .ref (ad 0)), (1, .long (u))] := hl
  refine lv_aload_n hx hb dX12_aboveAt_0 rfl (lv_at hl 0 rfl) ?_
  refine va_get (D := D) (ci := 12) (v := .long (n3)) (C := RX12) (T := TX12) (N := 24) hx hb hts hinX12 hown hK hP 0 rfl rfl 10 (by decide) (hts (.fieldLink RX12 85 "CornDeskModel" "sumX" "J") (by decide +kernel)) (fun _ h9 => h9) rfl dX12_aboveAt_1 ?_
  refine lv_aload_n hx hb dX12_aboveAt_4 rfl (lv_at hl 0 rfl) ?_
  refine va_get (D := D) (ci := 12) (v := .long (n7)) (C := RX12) (T := TX12) (N := 24) hx hb hts hinX12 hown hK hP 0 rfl rfl 14 (by decide) (hts (.fieldLink RX12 97 "CornDeskModel" "spread" "J") (by decide +kernel)) (fun _ h9 => h9) rfl dX12_aboveAt_5 ?_
  refine lv_lmul hx hb dX12_aboveAt_8 ?_
  refine lv_aload_n hx hb dX12_aboveAt_9 rfl (lv_at hl 0 rfl) ?_
  refine va_get (D := D) (ci := 12) (v := .long (n1)) (C := RX12) (T := TX12) (N := 24) hx hb hts hinX12 hown hK hP 0 rfl rfl 8 (by decide) (hts (.fieldLink RX12 78 "CornDeskModel" "n" "J") (by decide +kernel)) (fun _ h9 => h9) rfl dX12_aboveAt_10 ?_
  refine lv_aload_n hx hb dX12_aboveAt_13 rfl (lv_at hl 0 rfl) ?_
  refine va_get (D := D) (ci := 12) (v := .long (n5)) (C := RX12) (T := TX12) (N := 24) hx hb hts hinX12 hown hK hP 0 rfl rfl 12 (by decide) (hts (.fieldLink RX12 91 "CornDeskModel" "sumUX" "J") (by decide +kernel)) (fun _ h9 => h9) rfl dX12_aboveAt_14 ?_
  refine lv_lmul hx hb dX12_aboveAt_17 ?_
  refine lv_aload_n hx hb dX12_aboveAt_18 rfl (lv_at hl 0 rfl) ?_
  refine va_get (D := D) (ci := 12) (v := .long (n2)) (C := RX12) (T := TX12) (N := 24) hx hb hts hinX12 hown hK hP 0 rfl rfl 9 (by decide) (hts (.fieldLink RX12 82 "CornDeskModel" "sumU" "J") (by decide +kernel)) (fun _ h9 => h9) rfl dX12_aboveAt_19 ?_
  refine lv_aload_n hx hb dX12_aboveAt_22 rfl (lv_at hl 0 rfl) ?_
  refine va_get (D := D) (ci := 12) (v := .long (n3)) (C := RX12) (T := TX12) (N := 24) hx hb hts hinX12 hown hK hP 0 rfl rfl 10 (by decide) (hts (.fieldLink RX12 85 "CornDeskModel" "sumX" "J") (by decide +kernel)) (fun _ h9 => h9) rfl dX12_aboveAt_23 ?_
  refine lv_lmul hx hb dX12_aboveAt_26 ?_
  refine lv_lsub hx hb dX12_aboveAt_27 ?_
  refine lv_aload_n hx hb dX12_aboveAt_28 rfl (lv_at hl 0 rfl) ?_
  refine va_get (D := D) (ci := 12) (v := .long (n1)) (C := RX12) (T := TX12) (N := 24) hx hb hts hinX12 hown hK hP 0 rfl rfl 8 (by decide) (hts (.fieldLink RX12 78 "CornDeskModel" "n" "J") (by decide +kernel)) (fun _ h9 => h9) rfl dX12_aboveAt_29 ?_
  refine lv_lload_n hx hb dX12_aboveAt_32 rfl (lv_at hl 1 rfl) ?_
  refine lv_lmul hx hb dX12_aboveAt_33 ?_
  refine lv_aload_n hx hb dX12_aboveAt_34 rfl (lv_at hl 0 rfl) ?_
  refine va_get (D := D) (ci := 12) (v := .long (n2)) (C := RX12) (T := TX12) (N := 24) hx hb hts hinX12 hown hK hP 0 rfl rfl 9 (by decide) (hts (.fieldLink RX12 82 "CornDeskModel" "sumU" "J") (by decide +kernel)) (fun _ h9 => h9) rfl dX12_aboveAt_35 ?_
  refine lv_lsub hx hb dX12_aboveAt_38 ?_
  refine lv_lmul hx hb dX12_aboveAt_39 ?_
  refine lv_ladd hx hb dX12_aboveAt_40 ?_
  exact hret _ _ _ _ _ _ ⟨rfl, rfl⟩ hP hD hS dX12_aboveAt_41
