set_option maxHeartbeats 4000000 in
set_option maxRecDepth 100000 in
theorem qX1_weighSet (l : Launch) (D : va_G) (cy : Nat → ClassId) (g0 : Nat) (ga : Nat) (ho : Nat) (bs : Nat) (bg : Int64) (bh : Nat) (GA : Nat → Int64) (HO : Nat → Nat) (st : Nat) (hr : Nat) (V : Nat → Nat) (y : Nat) (hG : ∀ j, j < 8 → GA j = lN (V j)) (hV : ∀ j, j < 8 → V j ≤ 49500000) (hH : ∀ j, j < 8 → HO j ≤ 9) (hst : st < 256) (hhr : hr ≤ 99) (hbg : bg = lN y) (hy : y ≤ 400000000) (hbh : bh ≤ 100) : nq_v l D (cT cy) yX1_weighSet wsX1_weighSet 0 0 0 0 [.ref (g0), .int (nI (st)), .int (nI (hr))] ([(g0, .inr (1, [.ref (ga), .ref (ho), .int (nI (bs)), .long (bg), .int (nI (bh))])), (ga, .inl (cy 1, 8, .inr (.inl GA))), (ho, .inl (cy 0, 8, .inl (nA HO)))]) (fun w1 => (sumS HO st 8 ≤ hr ∧ (y < sumS V st 8 ∨ (sumS V st 8 = y ∧ sumS HO st 8 < bh))) ∧ w1 = [(g0, .inr (1, [.ref (ga), .ref (ho), .int (nI (st)), .long (lN (sumS V st 8)), .int (nI (sumS HO st 8))])), (ga, .inl (cy 1, 8, .inr (.inl GA))), (ho, .inl (cy 0, 8, .inl (nA HO)))] ∨ ¬ (sumS HO st 8 ≤ hr ∧ (y < sumS V st 8 ∨ (sumS V st 8 = y ∧ sumS HO st 8 < bh))) ∧ w1 = [(g0, .inr (1, [.ref (ga), .ref (ho), .int (nI (bs)), .long (bg), .int (nI (bh))])), (ga, .inl (cy 1, 8, .inr (.inl GA))), (ho, .inl (cy 0, 8, .inl (nA HO)))]) := by
  refine nq_v_of (cc := cX1_weighSet) (maxL := 7) (by decide) rfl (Nat.le_of_ble_eq_true rfl) ?_
  intro p e s m args below meth c A Q ls hx hb hts hown hml hnm hN hA hP hK hD hS hl hret
  have hown : s.vm.findClass RX1 = some m.cls := hown
  have hinX1 : ∀ w ∈ u_ws RX1 TX1 5, w ∈ wsX1_weighSet := by decide +kernel
  have hl : lv_has ls 7 [(0, .ref (g0)), (1, .int (nI (st))), (2, .int (nI (hr)))] := hl
  have hP : va_P D vwCl ([(g0, .inr (1, [.ref (ga), .ref (ho), .int (nI (bs)), .long (bg), .int (nI (bh))])), (ga, .inl (cy 1, 8, .inr (.inl GA))), (ho, .inl (cy 0, 8, .inl (nA HO)))]) s.heap := hP
  refine lv_lconst (v := 0) hx hb dX1_weighSet_0 (by decide) ?_
  refine lv_lstore_n (lv' := [(3, .long (0)), (0, .ref (g0)), (1, .int (nI (st))), (2, .int (nI (hr)))]) hx hb dX1_weighSet_1 rfl hl (by decide) rfl (fun ls hl => ?_)
  refine lv_iconst (v := (nI (0))) hx hb dX1_weighSet_2 (by decide) ?_
  refine lv_istore (lv' := [(5, .int (nI (0))), (3, .long (0)), (0, .ref (g0)), (1, .int (nI (st))), (2, .int (nI (hr)))]) hx hb dX1_weighSet_3 hl (by decide) rfl (fun ls hl => ?_)
  refine lv_iconst (v := (nI (0))) hx hb dX1_weighSet_5 (by decide) ?_
  refine lv_istore (lv' := [(6, .int (nI (0))), (5, .int (nI (0))), (3, .long (0)), (0, .ref (g0)), (1, .int (nI (st))), (2, .int (nI (hr)))]) hx hb dX1_weighSet_6 hl (by decide) rfl (fun ls hl => ?_)
  have lp : ∀ (i : Nat) (f : Nat), (f + i = 8) → ∀ (H : Heap) (locs : List Loc) (ls : Array Slot), va_P D vwCl ([(g0, .inr (1, [.ref (ga), .ref (ho), .int (nI (bs)), .long (bg), .int (nI (bh))])), (ga, .inl (cy 1, 8, .inr (.inl GA))), (ho, .inl (cy 0, 8, .inl (nA HO)))]) H → va_D A ([(g0, .inr (1, [.ref (ga), .ref (ho), .int (nI (bs)), .long (bg), .int (nI (bh))])), (ga, .inl (cy 1, 8, .inr (.inl GA))), (ho, .inl (cy 0, 8, .inl (nA HO)))]) → va_S A s.heap H locs → lv_has ls 7 [(6, .int (nI (f))), (3, .long (lN (sumS V st f))), (5, .int (nI (sumS HO st f))), (0, .ref (g0)), (1, .int (nI (st))), (2, .int (nI (hr)))] → W p l e (mq_R 0 0 0 0) s m args below meth c H locs 0 0 Q (F0 m 8 ls []) := by
    intro i
    induction i with
    | zero =>
      intro f hk H locs ls hP hD hS hl
      refine lv_iload hx hb dX1_weighSet_8 (lv_at hl 0 rfl) ?_
      refine lv_bipush (v := (nI (8))) hx hb dX1_weighSet_10 (by decide) ?_
      refine ln_icmp_ge (tgt := 53) hx hb dX1_weighSet_12 (by decide) (by omega) (by omega) (fun c0 => ?_) (fun c0 => ?_)
      · have hf0 : f = 8 := by omega
        subst hf0
        have hB1 : sumS V st 8 ≤ 8 * 49500000 := sumS_b hV
        have hB2 : sumS HO st 8 ≤ 8 * 9 := sumS_b hH
        refine lv_iload hx hb dX1_weighSet_53 (lv_at hl 2 rfl) ?_
        refine lv_iload_n hx hb dX1_weighSet_55 rfl (lv_at hl 5 rfl) ?_
        refine ln_icmp_gt (tgt := 102) hx hb dX1_weighSet_56 (by decide) (by omega) (by omega) (fun c1 => ?_) (fun c1 => ?_)
        · exact hret _ _ _ _ _ (.inr ⟨fun h => by omega, rfl⟩) hP hD hS dX1_weighSet_102
        · refine lv_lload_n hx hb dX1_weighSet_59 rfl (lv_at hl 1 rfl) ?_
          refine lv_aload_n hx hb dX1_weighSet_60 rfl (lv_at hl 3 rfl) ?_
          refine va_get (D := D) (ci := 1) (v := .long (bg)) (C := RX1) (T := TX1) (N := 5) hx hb hts hinX1 hown hK hP 0 rfl rfl 3 (by decide) (hts (.fieldLink RX1 23 "CornDesk$Flight" "bestGain" "J") (by decide +kernel)) (fun _ h9 => h9) rfl dX1_weighSet_61 ?_
          refine W.lcmp hx hb dX1_weighSet_64 ?_
          refine lv_if_gt (tgt := 86) hx hb dX1_weighSet_65 (by decide) (fun c2 => ?_) (fun c2 => ?_)
          · have c2' : y < sumS V st 8 := (lg_gtN (by omega) (by omega)).mp (hbg ▸ c2)
            refine lv_aload_n hx hb dX1_weighSet_86 rfl (lv_at hl 3 rfl) ?_
            refine lv_iload_n hx hb dX1_weighSet_87 rfl (lv_at hl 4 rfl) ?_
            refine va_put (D := D) (ci := 1) (v := .int (nI (st))) (ty := .int) (C := RX1) (T := TX1) (N := 5) hx hb hts hinX1 tyX1 tyX1_ok nmX1 hown hK hP hD hS 0 rfl rfl 2 (by decide) (hts (.fieldLink RX1 19 "CornDesk$Flight" "bestSet" "I") (by decide +kernel)) (fun _ h9 => h9) rfl (by decide +kernel) rfl rfl (Nat.le_of_ble_eq_true rfl) dX1_weighSet_88 (fun H locs hP hD hS => ?_)
            have hP : va_P D vwCl ([(g0, .inr (1, [.ref (ga), .ref (ho), .int (nI (st)), .long (bg), .int (nI (bh))])), (ga, .inl (cy 1, 8, .inr (.inl GA))), (ho, .inl (cy 0, 8, .inl (nA HO)))]) H := hP
            have hD : va_D A ([(g0, .inr (1, [.ref (ga), .ref (ho), .int (nI (st)), .long (bg), .int (nI (bh))])), (ga, .inl (cy 1, 8, .inr (.inl GA))), (ho, .inl (cy 0, 8, .inl (nA HO)))]) := hD
            refine lv_aload_n hx hb dX1_weighSet_91 rfl (lv_at hl 3 rfl) ?_
            refine lv_lload_n hx hb dX1_weighSet_92 rfl (lv_at hl 1 rfl) ?_
            refine lv_topl (fun f_1 ef_1 => ?_)
            refine va_put (D := D) (ci := 1) (v := .long (f_1)) (ty := .long) (C := RX1) (T := TX1) (N := 5) hx hb hts hinX1 tyX1 tyX1_ok nmX1 hown hK hP hD hS 0 rfl rfl 3 (by decide) (hts (.fieldLink RX1 23 "CornDesk$Flight" "bestGain" "J") (by decide +kernel)) (fun _ h9 => h9) rfl (by decide +kernel) rfl rfl (Nat.le_of_ble_eq_true rfl) dX1_weighSet_93 (fun H locs hP hD hS => ?_)
            have hP : va_P D vwCl ([(g0, .inr (1, [.ref (ga), .ref (ho), .int (nI (st)), .long (f_1), .int (nI (bh))])), (ga, .inl (cy 1, 8, .inr (.inl GA))), (ho, .inl (cy 0, 8, .inl (nA HO)))]) H := hP
            have hD : va_D A ([(g0, .inr (1, [.ref (ga), .ref (ho), .int (nI (st)), .long (f_1), .int (nI (bh))])), (ga, .inl (cy 1, 8, .inr (.inl GA))), (ho, .inl (cy 0, 8, .inl (nA HO)))]) := hD
            refine lv_aload_n hx hb dX1_weighSet_96 rfl (lv_at hl 3 rfl) ?_
            refine lv_iload hx hb dX1_weighSet_97 (lv_at hl 2 rfl) ?_
            refine va_put (D := D) (ci := 1) (v := .int (nI (sumS HO st 8))) (ty := .int) (C := RX1) (T := TX1) (N := 5) hx hb hts hinX1 tyX1 tyX1_ok nmX1 hown hK hP hD hS 0 rfl rfl 4 (by decide) (hts (.fieldLink RX1 35 "CornDesk$Flight" "bestHours" "I") (by decide +kernel)) (fun _ h9 => h9) rfl (by decide +kernel) rfl rfl (Nat.le_of_ble_eq_true rfl) dX1_weighSet_99 (fun H locs hP hD hS => ?_)
            have hP : va_P D vwCl ([(g0, .inr (1, [.ref (ga), .ref (ho), .int (nI (st)), .long (f_1), .int (nI (sumS HO st 8))])), (ga, .inl (cy 1, 8, .inr (.inl GA))), (ho, .inl (cy 0, 8, .inl (nA HO)))]) H := hP
            have hD : va_D A ([(g0, .inr (1, [.ref (ga), .ref (ho), .int (nI (st)), .long (f_1), .int (nI (sumS HO st 8))])), (ga, .inl (cy 1, 8, .inr (.inl GA))), (ho, .inl (cy 0, 8, .inl (nA HO)))]) := hD
            subst ef_1
            exact hret _ _ _ _ _ (.inl ⟨by omega, rfl⟩) hP hD hS dX1_weighSet_102
          · have c2' : ¬ y < sumS V st 8 := fun h => c2 (by rw [hbg]; exact (lg_gtN (by omega) (by omega)).mpr h)
            refine lv_lload_n hx hb dX1_weighSet_68 rfl (lv_at hl 1 rfl) ?_
            refine lv_aload_n hx hb dX1_weighSet_69 rfl (lv_at hl 3 rfl) ?_
            refine va_get (D := D) (ci := 1) (v := .long (bg)) (C := RX1) (T := TX1) (N := 5) hx hb hts hinX1 hown hK hP 0 rfl rfl 3 (by decide) (hts (.fieldLink RX1 23 "CornDesk$Flight" "bestGain" "J") (by decide +kernel)) (fun _ h9 => h9) rfl dX1_weighSet_70 ?_
            refine W.lcmp hx hb dX1_weighSet_73 ?_
            refine lv_if_ne (tgt := 102) hx hb dX1_weighSet_74 (by decide) (fun c3 => ?_) (fun c3 => ?_)
            · exact hret _ _ _ _ _ (.inr ⟨fun h => by exact c3 ((lg_cmp_eq _ _).mpr (by rw [hbg, (show sumS V st 8 = y by omega)])), rfl⟩) hP hD hS dX1_weighSet_102
            · have c3' : sumS V st 8 = y := (pk_lEQ (by omega) (by omega)).mp (hbg ▸ (lg_cmp_eq _ _).mp c3)
              refine lv_iload hx hb dX1_weighSet_77 (lv_at hl 2 rfl) ?_
              refine lv_aload_n hx hb dX1_weighSet_79 rfl (lv_at hl 3 rfl) ?_
              refine va_get (D := D) (ci := 1) (v := .int (nI (bh))) (C := RX1) (T := TX1) (N := 5) hx hb hts hinX1 hown hK hP 0 rfl rfl 4 (by decide) (hts (.fieldLink RX1 35 "CornDesk$Flight" "bestHours" "I") (by decide +kernel)) (fun _ h9 => h9) rfl dX1_weighSet_80 ?_
              refine ln_icmp_ge (tgt := 102) hx hb dX1_weighSet_83 (by decide) (by omega) (by omega) (fun c4 => ?_) (fun c4 => ?_)
              · exact hret _ _ _ _ _ (.inr ⟨fun h => by omega, rfl⟩) hP hD hS dX1_weighSet_102
              · refine lv_aload_n hx hb dX1_weighSet_86 rfl (lv_at hl 3 rfl) ?_
                refine lv_iload_n hx hb dX1_weighSet_87 rfl (lv_at hl 4 rfl) ?_
                refine va_put (D := D) (ci := 1) (v := .int (nI (st))) (ty := .int) (C := RX1) (T := TX1) (N := 5) hx hb hts hinX1 tyX1 tyX1_ok nmX1 hown hK hP hD hS 0 rfl rfl 2 (by decide) (hts (.fieldLink RX1 19 "CornDesk$Flight" "bestSet" "I") (by decide +kernel)) (fun _ h9 => h9) rfl (by decide +kernel) rfl rfl (Nat.le_of_ble_eq_true rfl) dX1_weighSet_88 (fun H locs hP hD hS => ?_)
                have hP : va_P D vwCl ([(g0, .inr (1, [.ref (ga), .ref (ho), .int (nI (st)), .long (bg), .int (nI (bh))])), (ga, .inl (cy 1, 8, .inr (.inl GA))), (ho, .inl (cy 0, 8, .inl (nA HO)))]) H := hP
                have hD : va_D A ([(g0, .inr (1, [.ref (ga), .ref (ho), .int (nI (st)), .long (bg), .int (nI (bh))])), (ga, .inl (cy 1, 8, .inr (.inl GA))), (ho, .inl (cy 0, 8, .inl (nA HO)))]) := hD
                refine lv_aload_n hx hb dX1_weighSet_91 rfl (lv_at hl 3 rfl) ?_
                refine lv_lload_n hx hb dX1_weighSet_92 rfl (lv_at hl 1 rfl) ?_
                refine lv_topl (fun f_2 ef_2 => ?_)
                refine va_put (D := D) (ci := 1) (v := .long (f_2)) (ty := .long) (C := RX1) (T := TX1) (N := 5) hx hb hts hinX1 tyX1 tyX1_ok nmX1 hown hK hP hD hS 0 rfl rfl 3 (by decide) (hts (.fieldLink RX1 23 "CornDesk$Flight" "bestGain" "J") (by decide +kernel)) (fun _ h9 => h9) rfl (by decide +kernel) rfl rfl (Nat.le_of_ble_eq_true rfl) dX1_weighSet_93 (fun H locs hP hD hS => ?_)
                have hP : va_P D vwCl ([(g0, .inr (1, [.ref (ga), .ref (ho), .int (nI (st)), .long (f_2), .int (nI (bh))])), (ga, .inl (cy 1, 8, .inr (.inl GA))), (ho, .inl (cy 0, 8, .inl (nA HO)))]) H := hP
                have hD : va_D A ([(g0, .inr (1, [.ref (ga), .ref (ho), .int (nI (st)), .long (f_2), .int (nI (bh))])), (ga, .inl (cy 1, 8, .inr (.inl GA))), (ho, .inl (cy 0, 8, .inl (nA HO)))]) := hD
                refine lv_aload_n hx hb dX1_weighSet_96 rfl (lv_at hl 3 rfl) ?_
                refine lv_iload hx hb dX1_weighSet_97 (lv_at hl 2 rfl) ?_
                refine va_put (D := D) (ci := 1) (v := .int (nI (sumS HO st 8))) (ty := .int) (C := RX1) (T := TX1) (N := 5) hx hb hts hinX1 tyX1 tyX1_ok nmX1 hown hK hP hD hS 0 rfl rfl 4 (by decide) (hts (.fieldLink RX1 35 "CornDesk$Flight" "bestHours" "I") (by decide +kernel)) (fun _ h9 => h9) rfl (by decide +kernel) rfl rfl (Nat.le_of_ble_eq_true rfl) dX1_weighSet_99 (fun H locs hP hD hS => ?_)
                have hP : va_P D vwCl ([(g0, .inr (1, [.ref (ga), .ref (ho), .int (nI (st)), .long (f_2), .int (nI (sumS HO st 8))])), (ga, .inl (cy 1, 8, .inr (.inl GA))), (ho, .inl (cy 0, 8, .inl (nA HO)))]) H := hP
                have hD : va_D A ([(g0, .inr (1, [.ref (ga), .ref (ho), .int (nI (st)), .long (f_2), .int (nI (sumS HO st 8))])), (ga, .inl (cy 1, 8, .inr (.inl GA))), (ho, .inl (cy 0, 8, .inl (nA HO)))]) := hD
                subst ef_2
                exact hret _ _ _ _ _ (.inl ⟨by omega, rfl⟩) hP hD hS dX1_weighSet_102
      · exact absurd hk (by omega)
    | succ i ih =>
      intro f hk H locs ls hP hD hS hl
      refine lv_iload hx hb dX1_weighSet_8 (lv_at hl 0 rfl) ?_
      refine lv_bipush (v := (nI (8))) hx hb dX1_weighSet_10 (by decide) ?_
      refine ln_icmp_ge (tgt := 53) hx hb dX1_weighSet_12 (by decide) (by omega) (by omega) (fun c1 => ?_) (fun c1 => ?_)
      · exact absurd hk (by omega)
      · have hB2 : sumS HO st f ≤ f * 9 := sumS_b (fun q hq => hH q (by omega))
        have hH9 := hH f (by omega)
        refine lv_iload_n hx hb dX1_weighSet_15 rfl (lv_at hl 4 rfl) ?_
        refine lv_iload hx hb dX1_weighSet_16 (lv_at hl 0 rfl) ?_
        refine lv_ishr hx hb dX1_weighSet_18 ?_
        refine ln_eqi (y := (nI (st / 2 ^ f))) (pk_shrN (by omega) _ f (sl31 _ (by omega))) ?_
        refine lv_iconst (v := (nI (1))) hx hb dX1_weighSet_19 (by decide) ?_
        refine lv_iand hx hb dX1_weighSet_20 ?_
        refine ln_eqi (y := (nI (st / 2 ^ f % 2 ^ 1))) (pk_andN (Nat.lt_of_le_of_lt (Nat.div_le_self _ _) (by omega)) 1 (by decide)) ?_
        have hm2 : st / 2 ^ f % 2 ^ 1 < 2 := Nat.mod_lt _ (by decide)
        refine lv_iconst (v := (nI (1))) hx hb dX1_weighSet_21 (by decide) ?_
        refine ln_icmp_ne (tgt := 47) hx hb dX1_weighSet_22 (by decide) (by omega) (by omega) (fun c6 => ?_) (fun c6 => ?_)
        · have c7 : st / 2 ^ f % 2 ^ 1 = 0 := by omega
          refine lv_iinc (v := (nI (f + 1))) (lv' := [(6, .int (nI (f + 1))), (3, .long (lN (sumS V st f))), (5, .int (nI (sumS HO st f))), (0, .ref (g0)), (1, .int (nI (st))), (2, .int (nI (hr)))]) hx hb dX1_weighSet_47 hl (k := 0) rfl (by rw [show (Int32.ofInt 1) = nI 1 from rfl, nI_add]) (by decide) rfl (fun ls hl => ?_)
          refine lv_goto (tgt := 8) hx hb dX1_weighSet_50 (by decide) ?_
          rw [← sumS_n (v := V) c7, ← sumS_n (v := HO) c7] at hl
          exact ih (f + 1) (by omega) _ _ _ hP hD hS hl
        · refine lv_lload_n hx hb dX1_weighSet_25 rfl (lv_at hl 1 rfl) ?_
          refine lv_aload_n hx hb dX1_weighSet_26 rfl (lv_at hl 3 rfl) ?_
          refine va_get (D := D) (ci := 1) (v := .ref (ga)) (C := RX1) (T := TX1) (N := 5) hx hb hts hinX1 hown hK hP 0 rfl rfl 0 (by decide) (hts (.fieldLink RX1 9 "CornDesk$Flight" "gains" "[J") (by decide +kernel)) (fun _ h9 => h9) rfl dX1_weighSet_27 ?_
          refine lv_iload hx hb dX1_weighSet_30 (lv_at hl 0 rfl) ?_
          refine ln_lald hx hb hK hP 1 1 rfl rfl (by decide) (by omega) dX1_weighSet_32 ?_
          refine lv_ladd hx hb dX1_weighSet_33 ?_
          refine ln_eql (y := (lN (sumS V st (f + 1)))) (by rw [hG f (by omega), lN_add, sumS_y (by omega)]) ?_
          refine lv_topl (fun x_3 ex_3 => ?_)
          refine lv_lstore_n (lv' := [(3, .long (x_3)), (6, .int (nI (f))), (5, .int (nI (sumS HO st f))), (0, .ref (g0)), (1, .int (nI (st))), (2, .int (nI (hr)))]) hx hb dX1_weighSet_34 rfl hl (by decide) rfl (fun ls hl => ?_)
          refine lv_iload hx hb dX1_weighSet_35 (lv_at hl 2 rfl) ?_
          refine lv_aload_n hx hb dX1_weighSet_37 rfl (lv_at hl 3 rfl) ?_
          refine va_get (D := D) (ci := 1) (v := .ref (ho)) (C := RX1) (T := TX1) (N := 5) hx hb hts hinX1 hown hK hP 0 rfl rfl 1 (by decide) (hts (.fieldLink RX1 15 "CornDesk$Flight" "hours" "[I") (by decide +kernel)) (fun _ h9 => h9) rfl dX1_weighSet_38 ?_
          refine lv_iload hx hb dX1_weighSet_41 (lv_at hl 1 rfl) ?_
          refine ln_iald hx hb hK hP 2 0 rfl rfl (by decide) (by omega) dX1_weighSet_43 ?_
          refine ln_iadd hx hb dX1_weighSet_44 ?_
          refine ln_eqi (y := (nI (sumS HO st (f + 1)))) (by rw [sumS_y (by omega)]) ?_
          refine lv_istore (lv' := [(5, .int (nI (sumS HO st (f + 1)))), (3, .long (x_3)), (6, .int (nI (f))), (0, .ref (g0)), (1, .int (nI (st))), (2, .int (nI (hr)))]) hx hb dX1_weighSet_45 hl (by decide) rfl (fun ls hl => ?_)
          refine lv_iinc (v := (nI (f + 1))) (lv' := [(6, .int (nI (f + 1))), (5, .int (nI (sumS HO st (f + 1)))), (3, .long (x_3)), (0, .ref (g0)), (1, .int (nI (st))), (2, .int (nI (hr)))]) hx hb dX1_weighSet_47 hl (k := 2) rfl (by rw [show (Int32.ofInt 1) = nI 1 from rfl, nI_add]) (by decide) rfl (fun ls hl => ?_)
          refine lv_goto (tgt := 8) hx hb dX1_weighSet_50 (by decide) ?_
          subst ex_3
          exact ih (f + 1) (by omega) _ _ _ hP hD hS (lv_sub hl [0, 2, 1, 3, 4, 5] rfl)
  exact lp (8) (0) (by omega) _ _ _ hP hD hS (lv_sub hl [0, 2, 1, 3, 4, 5] rfl)
