set_option maxHeartbeats 4000000 in
set_option maxRecDepth 100000 in
theorem cM_common (l : Launch) (D : va_G) (tys : List (ClassId × FieldType)) (z : Int) (b : Nat) (hz : z.natAbs < 2 ^ 62) (hb2 : b < 2 ^ 62) : mq_l l D tys yX12_common wsX12_common 0 0 0 0 [.long (lZ z), .long (lN b)] [] (fun r _ => r = lN (Nat.gcd z.natAbs b)) := by
  refine mq_l_of (cc := cX12_common) (maxL := 10) (by decide) rfl (Nat.le_of_ble_eq_true rfl) ?_
  intro p e s m args below meth c A Q ls hx hb hts hown hml hnm hA hP hK hD hS hl hret
  have hown : s.vm.findClass RX12 = some m.cls := hown
  have hl : lv_has ls 10 [(0, .long (lZ z)), (2, .long (lN b))] := hl
  refine lv_lload_n hx hb dX12_common_0 rfl (lv_at hl 0 rfl) ?_
  refine lv_lconst (v := 0) hx hb dX12_common_1 (by decide) ?_
  refine W.lcmp hx hb dX12_common_2 ?_
  have tl : ∀ (H : Heap) (locs : List Loc) (ls : Array Slot), va_P D vwCl ([]) H → va_D A ([]) → va_S A s.heap H locs → lv_has ls 10 [(0, .long (lZ z)), (2, .long (lN b))] → W p l e (mq_R 0 0 0 0) s m args below meth c H locs 0 0 Q (F0 m 12 ls [.long (lN (z.natAbs))]) := by
    intro   H locs ls hP hD hS hl
    refine lv_lstore (lv' := [(4, .long (lN (z.natAbs))), (0, .long (lZ z)), (2, .long (lN b))]) hx hb dX12_common_12 hl (by decide) rfl (fun ls hl => ?_)
    refine lv_lload_n hx hb dX12_common_14 rfl (lv_at hl 2 rfl) ?_
    refine lv_lstore (lv' := [(6, .long (lN b)), (4, .long (lN (z.natAbs))), (0, .long (lZ z)), (2, .long (lN b))]) hx hb dX12_common_15 hl (by decide) rfl (fun ls hl => ?_)
    have lp : ∀ (n : Nat) (u : Nat) (v : Nat), (v ≤ n) → (u < 2 ^ 62) → (v < 2 ^ 62) → (Nat.gcd u v = Nat.gcd z.natAbs b) → ∀ (H : Heap) (locs : List Loc) (ls : Array Slot), va_P D vwCl ([]) H → va_D A ([]) → va_S A s.heap H locs → lv_has ls 10 [(6, .long (lN v)), (4, .long (lN u))] → W p l e (mq_R 0 0 0 0) s m args below meth c H locs 0 0 Q (F0 m 17 ls []) := by
      intro n
      induction n with
      | zero =>
        intro u v hv hu2 hv2 hg H locs ls hP hD hS hl
        refine lv_lload hx hb dX12_common_17 (lv_at hl 0 rfl) ?_
        refine lv_lconst (v := 0) hx hb dX12_common_19 (by decide) ?_
        refine W.lcmp hx hb dX12_common_20 ?_
        refine lv_if_eq (tgt := 42) hx hb dX12_common_21 (by decide) (fun c2 => ?_) (fun c2 => ?_)
        · refine lv_lload hx hb dX12_common_42 (lv_at hl 1 rfl) ?_
          exact hret _ _ _ _ _ _ (by rw [← hg, show v = 0 by omega, Nat.gcd_zero_right]) hP hD hS dX12_common_44
        · exact absurd ((lg_cmp_eq _ _).mpr ((lN0 (by omega)).mpr (by omega))) c2
      | succ n ih =>
        intro u v hv hu2 hv2 hg H locs ls hP hD hS hl
        refine lv_lload hx hb dX12_common_17 (lv_at hl 0 rfl) ?_
        refine lv_lconst (v := 0) hx hb dX12_common_19 (by decide) ?_
        refine W.lcmp hx hb dX12_common_20 ?_
        refine lv_if_eq (tgt := 42) hx hb dX12_common_21 (by decide) (fun c2 => ?_) (fun c2 => ?_)
        · have hv0 := (lN0 (by omega)).mp ((lg_cmp_eq _ _).mp c2)
          refine lv_lload hx hb dX12_common_42 (lv_at hl 1 rfl) ?_
          exact hret _ _ _ _ _ _ (by rw [← hg, hv0, Nat.gcd_zero_right]) hP hD hS dX12_common_44
        · have hv0 : ¬ lN v = 0 := fun q => c2 ((lg_cmp_eq _ _).mpr q)
          have hv1 : 0 < v := Nat.pos_of_ne_zero (fun q => hv0 ((lN0 (by omega)).mpr q))
          refine lv_lload hx hb dX12_common_24 (lv_at hl 1 rfl) ?_
          refine lv_lload hx hb dX12_common_26 (lv_at hl 0 rfl) ?_
          refine lv_lrem hx hb dX12_common_28 hv0 ?_
          refine ln_eql (y := (lN (u % v))) (pk_lRem (by omega) hv1 (by omega)) ?_
          refine lv_lstore (lv' := [(8, .long (lN (u % v))), (6, .long (lN v)), (4, .long (lN u))]) hx hb dX12_common_29 hl (by decide) rfl (fun ls hl => ?_)
          refine lv_lload hx hb dX12_common_31 (lv_at hl 1 rfl) ?_
          refine lv_lstore (lv' := [(4, .long (lN v)), (8, .long (lN (u % v))), (6, .long (lN v))]) hx hb dX12_common_33 hl (by decide) rfl (fun ls hl => ?_)
          refine lv_lload hx hb dX12_common_35 (lv_at hl 1 rfl) ?_
          refine lv_lstore (lv' := [(6, .long (lN (u % v))), (4, .long (lN v)), (8, .long (lN (u % v)))]) hx hb dX12_common_37 hl (by decide) rfl (fun ls hl => ?_)
          refine lv_goto (tgt := 17) hx hb dX12_common_39 (by decide) ?_
          have hm : u % v < v := Nat.mod_lt u hv1
          exact ih (v) (u % v) (by omega) (by omega) (by omega) (by rw [← hg, Nat.gcd_comm v, ← Nat.gcd_rec, Nat.gcd_comm]) _ _ _ hP hD hS (lv_sub hl [0, 1] rfl)
    exact lp (b) (z.natAbs) (b) (Nat.le_refl _) (by omega) (by omega) (rfl) _ _ _ hP hD hS (lv_sub hl [0, 1] rfl)
  refine lv_if_ge (tgt := 11) hx hb dX12_common_3 (by decide) (fun c1 => ?_) (fun c1 => ?_)
  · refine lv_lload_n hx hb dX12_common_11 rfl (lv_at hl 0 rfl) ?_
    refine ln_eql (y := (lN (z.natAbs))) (by rw [lZ_N]; exact congrArg lZ (by have := (lZ_le (x := 0) (y := z) (by omega) (by omega)).mp ((lg_cmp_ge _ _).mp c1); omega)) ?_
    exact tl   _ _ _ hP hD hS hl
  · refine lv_lload_n hx hb dX12_common_6 rfl (lv_at hl 0 rfl) ?_
    refine lv_lneg hx hb dX12_common_7 ?_
    refine lv_goto (tgt := 12) hx hb dX12_common_8 (by decide) ?_
    refine ln_eql (y := (lN (z.natAbs))) (by rw [lZ_neg, lZ_N]; exact congrArg lZ (by have : ¬ 0 ≤ z := fun q => c1 ((lg_cmp_ge _ _).mpr ((lZ_le (x := 0) (y := z) (by omega) (by omega)).mpr q)); omega)) ?_
    exact tl   _ _ _ hP hD hS hl
set_option maxHeartbeats 4000000 in
set_option maxRecDepth 100000 in
theorem cM_part (l : Launch) (D : va_G) (tys : List (ClassId × FieldType)) (z : Int) (b : Nat) (zf : Int32) (hz : z.natAbs < 2 ^ 62) (hb2 : b < 2 ^ 62) (hb0 : 0 < b) : mq_l l D tys yX12_part wsX12_part 1 0 0 29 [.long (lZ z), .long (lN b), .int (zf)] [] (fun r _ => r = pcI z b zf) := by
  refine mq_l_of (cc := cX12_part) (maxL := 7) (by decide) rfl (Nat.le_of_ble_eq_true rfl) ?_
  intro p e s m args below meth c A Q ls hx hb hts hown hml hnm hA hP hK hD hS hl hret
  have hown : s.vm.findClass RX12 = some m.cls := hown
  have hl : lv_has ls 7 [(0, .long (lZ z)), (2, .long (lN b)), (4, .int (zf))] := hl
  refine lv_lload_n hx hb dX12_part_0 rfl (lv_at hl 0 rfl) ?_
  refine lv_lload_n hx hb dX12_part_1 rfl (lv_at hl 1 rfl) ?_
  refine mq_Sl (As := [.long (lZ z), .long (lN b)]) (rest := []) ⟨hx, hb, hml, hown, hts⟩ (cM_common l D _ z b hz hb2) (cwS 2 hts gX12_part_X12_common rfl rfl rfl (by decide +kernel) ⟨Nat.le_of_ble_eq_true rfl, Nat.le_of_ble_eq_true rfl⟩) hP hK hS hA rfl hl.1 rfl (Nat.le_of_ble_eq_true rfl) dX12_part_2 ⟨Nat.le_of_ble_eq_true rfl, Nat.le_of_ble_eq_true rfl⟩ (fun r w1 H locs hq hP hS => ?_)
  subst hq
  refine lv_lstore (lv' := [(5, .long (lN (Nat.gcd (z).natAbs b))), (0, .long (lZ z)), (2, .long (lN b)), (4, .int (zf))]) hx hb dX12_part_5 hl (by decide) rfl (fun ls hl => ?_)
  have hg0 : 0 < Nat.gcd z.natAbs b := Nat.gcd_pos_of_pos_right _ hb0
  have hg1 : Nat.gcd z.natAbs b ≤ b := Nat.gcd_le_right _ hb0
  have hne : ¬ lN (Nat.gcd z.natAbs b) = 0 := fun q => by have := (lN0 (by omega)).mp q; omega
  refine lv_iload hx hb dX12_part_7 (lv_at hl 3 rfl) ?_
  refine lv_if_eq (tgt := 16) hx hb dX12_part_9 (by decide) (fun c1 => ?_) (fun c1 => ?_)
  · refine lv_lload_n hx hb dX12_part_16 rfl (lv_at hl 1 rfl) ?_
    refine lv_lload hx hb dX12_part_17 (lv_at hl 0 rfl) ?_
    refine lv_ldiv hx hb dX12_part_19 hne ?_
    exact hret _ _ _ _ _ _ (by rw [pcI_0 c1, lZ_N]; exact lZ_div (by omega) (by omega)) hP hD hS dX12_part_20
  · refine lv_lload_n hx hb dX12_part_12 rfl (lv_at hl 2 rfl) ?_
    refine lv_goto (tgt := 17) hx hb dX12_part_13 (by decide) ?_
    refine lv_lload hx hb dX12_part_17 (lv_at hl 0 rfl) ?_
    refine lv_ldiv hx hb dX12_part_19 hne ?_
    exact hret _ _ _ _ _ _ (by rw [pcI_1 c1, pk_lDiv (by omega) hg0 (by omega)]; exact lZ_N _) hP hD hS dX12_part_20
set_option maxHeartbeats 4000000 in
set_option maxRecDepth 100000 in
theorem cM_cut (l : Launch) (D : va_G) (tys : List (ClassId × FieldType)) (z : Int) (b : Nat) (hz : z.natAbs < 2 ^ 62) (hb2 : b < 2 ^ 62) (hb0 : 0 < b) : mq_l l D tys yX12_cut wsX12_cut 0 0 0 0 [.long (lZ z), .long (lN b)] [] (fun r _ => r = lZ (z / (b : Int))) := by
  refine mq_l_of (cc := cX12_cut) (maxL := 6) (by decide) rfl (Nat.le_of_ble_eq_true rfl) ?_
  intro p e s m args below meth c A Q ls hx hb hts hown hml hnm hA hP hK hD hS hl hret
  have hown : s.vm.findClass RX12 = some m.cls := hown
  have hl : lv_has ls 6 [(0, .long (lZ z)), (2, .long (lN b))] := hl
  have hne : ¬ lN b = 0 := fun q => by have := (lN0 (by omega)).mp q; omega
  refine lv_lload_n hx hb dX12_cut_0 rfl (lv_at hl 0 rfl) ?_
  refine lv_lload_n hx hb dX12_cut_1 rfl (lv_at hl 1 rfl) ?_
  refine lv_ldiv hx hb dX12_cut_2 hne ?_
  refine ln_eql (y := (lZ (z.tdiv b))) (lZ_div (x := z) (y := (b : Int)) (by omega) (by omega)) ?_
  refine lv_lstore (lv' := [(4, .long (lZ (z.tdiv b))), (0, .long (lZ z)), (2, .long (lN b))]) hx hb dX12_cut_3 hl (by decide) rfl (fun ls hl => ?_)
  refine lv_lload_n hx hb dX12_cut_5 rfl (lv_at hl 1 rfl) ?_
  refine lv_lload_n hx hb dX12_cut_6 rfl (lv_at hl 2 rfl) ?_
  refine lv_lrem hx hb dX12_cut_7 hne ?_
  refine ln_eql (y := (lZ (z.tmod b))) (lZ_rem (x := z) (y := (b : Int)) (by omega) (by omega)) ?_
  have hm1 := Int.tmod_lt_of_pos z (show (0 : Int) < b by omega)
  have hm2 := Int.lt_tmod_of_pos z (show (0 : Int) < b by omega)
  refine lv_lconst (v := 0) hx hb dX12_cut_8 (by decide) ?_
  refine W.lcmp hx hb dX12_cut_9 ?_
  refine lv_if_eq (tgt := 26) hx hb dX12_cut_10 (by decide) (fun c1 => ?_) (fun c1 => ?_)
  · have h0 : z.tmod b = 0 := (lZ_eq (y := 0) (by omega) (by omega)).mp ((lg_cmp_eq _ _).mp c1)
    refine lv_lload hx hb dX12_cut_26 (lv_at hl 0 rfl) ?_
    exact hret _ _ _ _ _ _ (by rw [cutI hb0, if_neg (fun q => q.1 h0)]) hP hD hS dX12_cut_28
  · have h0 : z.tmod b ≠ 0 := fun q => c1 ((lg_cmp_eq _ _).mpr (by rw [q]; rfl))
    refine lv_lload_n hx hb dX12_cut_13 rfl (lv_at hl 1 rfl) ?_
    refine lv_lconst (v := 0) hx hb dX12_cut_14 (by decide) ?_
    refine W.lcmp hx hb dX12_cut_15 ?_
    refine lv_if_ge (tgt := 26) hx hb dX12_cut_16 (by decide) (fun c2 => ?_) (fun c2 => ?_)
    · have h1 : 0 ≤ z := (lZ_le (x := 0) (y := z) (by omega) (by omega)).mp ((lg_cmp_ge _ _).mp c2)
      refine lv_lload hx hb dX12_cut_26 (lv_at hl 0 rfl) ?_
      exact hret _ _ _ _ _ _ (by rw [cutI hb0, if_neg (fun q => by omega)]) hP hD hS dX12_cut_28
    · have h1 : ¬ 0 ≤ z := fun q => c2 ((lg_cmp_ge _ _).mpr ((lZ_le (x := 0) (y := z) (by omega) (by omega)).mpr q))
      refine lv_lload hx hb dX12_cut_19 (lv_at hl 0 rfl) ?_
      refine lv_lconst (v := 1) hx hb dX12_cut_21 (by decide) ?_
      refine lv_lsub hx hb dX12_cut_22 ?_
      refine lv_goto (tgt := 28) hx hb dX12_cut_23 (by decide) ?_
      exact hret _ _ _ _ _ _ (by rw [cutI hb0, if_pos ⟨h0, by omega⟩, lZ_1, lZ_sub]) hP hD hS dX12_cut_28
set_option maxHeartbeats 4000000 in
set_option maxRecDepth 100000 in
theorem cM_led (l : Launch) (D : va_G) (ad : Nat → Nat) (cI cJ : ClassId) (a kp bt sz : Nat → Nat) (sheets : Nat → Int32) (go ro : Nat → Nat) (car : Nat → Int32) (ke km fi gm bs bu : Nat) (n1 n2 n3 n4 n5 n6 n7 : Int64) (px py db : Nat → Int64) (x : Int32) (v : Int32) (y : Int32) (zf : Int32) (h0 : a 0 ≤ 6) (hpl : ∀ i, i < a 0 → plOk a i) : mq_l l D (mT cI cJ) yX12_led wsX12_led 2 0 0 55 [.ref (ad 0), .int (x), .int (v), .int (y), .int (zf)] (mW ad cI cJ a kp bt sz sheets go ro car ke km fi gm bs bu n1 n2 n3 n4 n5 n6 n7 px py db) (fun r w1 => (¬ (ix (a 0) x ∧ rg 0 999 y) ∧ r = -1000000001 ∧ w1 = mW ad cI cJ a kp bt sz sheets go ro car ke km (fi + 1) gm bs bu n1 n2 n3 n4 n5 n6 n7 px py db) ∨ (∃ i u : Nat, (x = nI i ∧ y = nI u ∧ i < a 0 ∧ u ≤ 999) ∧ ((¬ 0 < zSp a i (zN v) (a (4 + i)) ∧ r = -1000000006 ∧ ∃ m1 m2 m3 m4 m5 m6 m7 : Int64, w1 = mW ad cI cJ a kp bt sz sheets go ro car ke km (fi + 1) gm bs bu m1 m2 m3 m4 m5 m6 m7 px py db) ∨ (0 < zSp a i (zN v) (a (4 + i)) ∧ r = pcI (zAb a i (zN v) (a (4 + i)) (u : Nat)) (zUn a i (zN v) (a (4 + i))) zf ∧ ∃ m1 m2 m3 m4 m5 m6 m7 : Int64, w1 = mW ad cI cJ a kp bt sz sheets go ro car ke km fi gm bs bu m1 m2 m3 m4 m5 m6 m7 px py db)))) := by
  refine mq_l_of (cc := cX12_led) (maxL := 5) (by decide) rfl (Nat.le_of_ble_eq_true rfl) ?_
  intro p e s m args below meth c A Q ls hx hb hts hown hml hnm hA hP hK hD hS hl hret
  have hown : s.vm.findClass RX12 = some m.cls := hown
  have hinX12 : ∀ w ∈ u_ws RX12 TX12 24, w ∈ wsX12_led := by decide +kernel
  have hl : lv_has ls 5 [(0, .ref (ad 0)), (1, .int (x)), (2, .int (v)), (3, .int (y)), (4, .int (zf))] := hl
  refine lv_aload_n hx hb dX12_led_0 rfl (lv_at hl 0 rfl) ?_
  refine lv_iload_n hx hb dX12_led_1 rfl (lv_at hl 1 rfl) ?_
  refine mq_Vi (As := [.int (x)]) (rest := []) (ci := 12) (k0 := 0) ⟨hx, hb, hml, hown, hts⟩ (cM_isPicture l D ad cI cJ a kp bt sz sheets go ro car ke km fi gm bs bu n1 n2 n3 n4 n5 n6 n7 px py db (x) (by omega)) (cwV 1 hts gX12_led_X12_isPicture rfl rfl rfl (by decide +kernel) ⟨Nat.le_of_ble_eq_true rfl, Nat.le_of_ble_eq_true rfl⟩) rfl rfl hP hK hD hS hA rfl hl.1 rfl (Nat.le_of_ble_eq_true rfl) dX12_led_2 ⟨Nat.le_of_ble_eq_true rfl, Nat.le_of_ble_eq_true rfl⟩ (fun r w1 H locs hq hP hD hS => ?_)
  obtain ⟨rfl, rfl⟩ := hq
  refine lb_if_eq (tgt := 15) hx hb dX12_led_5 (by decide) (fun c1 => ?_) (fun c1 => ?_)
  · refine lv_aload_n hx hb dX12_led_15 rfl (lv_at hl 0 rfl) ?_
    refine lv_ldc2 (v := (-1000000001)) hx hb hown (hts (.constantLong RX12 76 (-1000000001)) (by decide +kernel)) dX12_led_16 ?_
    refine mq_Vl (As := [.long ((-1000000001))]) (rest := []) (ci := 12) (k0 := 0) ⟨hx, hb, hml, hown, hts⟩ (cM_finds l D ad cI cJ a kp bt sz sheets go ro car ke km fi gm bs bu n1 n2 n3 n4 n5 n6 n7 px py db ((-1000000001)) ) (cwV 1 hts gX12_led_X12_finds rfl rfl rfl (by decide +kernel) ⟨Nat.le_of_ble_eq_true rfl, Nat.le_of_ble_eq_true rfl⟩) rfl rfl hP hK hD hS hA rfl hl.1 rfl (Nat.le_of_ble_eq_true rfl) dX12_led_19 ⟨Nat.le_of_ble_eq_true rfl, Nat.le_of_ble_eq_true rfl⟩ (fun r w1 H locs hq hP hD hS => ?_)
    obtain ⟨rfl, rfl⟩ := hq
    exact hret _ _ _ _ _ _ (Or.inl ⟨fun h => c1 h.1, rfl, rfl⟩) hP hD hS dX12_led_22
  · refine lv_iload_n hx hb dX12_led_8 rfl (lv_at hl 3 rfl) ?_
    refine mq_Si (As := [.int (y)]) (rest := []) ⟨hx, hb, hml, hown, hts⟩ (cM_isNumber l D _ (y) ) (cwS 1 hts gX12_led_X12_isNumber rfl rfl rfl (by decide +kernel) ⟨Nat.le_of_ble_eq_true rfl, Nat.le_of_ble_eq_true rfl⟩) hP hK hS hA rfl hl.1 rfl (Nat.le_of_ble_eq_true rfl) dX12_led_9 ⟨Nat.le_of_ble_eq_true rfl, Nat.le_of_ble_eq_true rfl⟩ (fun r w1 H locs hq hP hS => ?_)
    subst hq
    refine lb_if_ne (tgt := 23) hx hb dX12_led_12 (by decide) (fun c2 => ?_) (fun c2 => ?_)
    · obtain ⟨i, hi, rfl⟩ := ix_of c1 (by omega)
      obtain ⟨u, -, hu, rfl⟩ := rg_of c2 (by decide) (by decide)
      have hp := hpl i hi
      have hp1 := hp.1
      refine lv_aload_n hx hb dX12_led_23 rfl (lv_at hl 0 rfl) ?_
      refine lv_iload_n hx hb dX12_led_24 rfl (lv_at hl 1 rfl) ?_
      refine lv_iload_n hx hb dX12_led_25 rfl (lv_at hl 2 rfl) ?_
      refine lv_if_eq (tgt := 33) hx hb dX12_led_26 (by decide) (fun c3 => ?_) (fun c3 => ?_)
      · have ew : zN v = 0 := zN_0 c3
        refine lv_iconst (v := (nI (0))) hx hb dX12_led_33 (by decide) ?_
        refine mq_Vi (As := [.int (nI (i)), .int (nI (0))]) (rest := []) (ci := 12) (k0 := 0) ⟨hx, hb, hml, hown, hts⟩ (cM_leads l D ad cI cJ a kp bt sz sheets go ro car ke km fi gm bs bu n1 n2 n3 n4 n5 n6 n7 px py db (i) (0) (by omega) (by decide) hp1) (cwV 2 hts gX12_led_X12_leads rfl rfl rfl (by decide +kernel) ⟨Nat.le_of_ble_eq_true rfl, Nat.le_of_ble_eq_true rfl⟩) rfl rfl hP hK hD hS hA rfl hl.1 rfl (Nat.le_of_ble_eq_true rfl) dX12_led_34 ⟨Nat.le_of_ble_eq_true rfl, Nat.le_of_ble_eq_true rfl⟩ (fun r w1 H locs hq hP hD hS => ?_)
        obtain ⟨rfl, rfl⟩ := hq
        refine lb_if_ne (tgt := 48) hx hb dX12_led_37 (by decide) (fun c4 => ?_) (fun c4 => ?_)
        · have hs : 0 < zSp a i 0 (a (4 + i)) := (lSp_pos hp (by decide)).mp c4
          refine lv_aload_n hx hb dX12_led_48 rfl (lv_at hl 0 rfl) ?_
          refine lv_iload_n hx hb dX12_led_49 rfl (lv_at hl 3 rfl) ?_
          refine lv_i2l hx hb dX12_led_50 rfl ?_
          refine ln_eql (y := (lZ ((u : Nat) : Int))) (nI_lZ (by omega)) ?_
          refine mq_Vl (As := [.long (lZ ((u : Nat) : Int))]) (rest := []) (ci := 12) (k0 := 0) ⟨hx, hb, hml, hown, hts⟩ (cM_aboveAt l D ad cI cJ a kp bt sz sheets go ro car ke km fi gm bs bu ((nI (a (4 + (i)))).toInt64) (lSU a (i) (0) (a (4 + (i)))) (lSX a (i) (0) (a (4 + (i)))) (lUU a (i) (0) (a (4 + (i)))) (lUX a (i) (0) (a (4 + (i)))) (lXX a (i) (0) (a (4 + (i)))) (lSp a (i) (0) (a (4 + (i)))) px py db (lZ ((u : Nat) : Int)) ) (cwV 1 hts gX12_led_X12_aboveAt rfl rfl rfl (by decide +kernel) ⟨Nat.le_of_ble_eq_true rfl, Nat.le_of_ble_eq_true rfl⟩) rfl rfl hP hK hD hS hA rfl hl.1 rfl (Nat.le_of_ble_eq_true rfl) dX12_led_51 ⟨Nat.le_of_ble_eq_true rfl, Nat.le_of_ble_eq_true rfl⟩ (fun r w1 H locs hq hP hD hS => ?_)
          obtain ⟨rfl, rfl⟩ := hq
          refine ln_eql (y := (lZ (zAb a i 0 (a (4 + i)) (u : Nat)))) (lAb_z hp (by decide) _) ?_
          refine lv_aload_n hx hb dX12_led_54 rfl (lv_at hl 0 rfl) ?_
          refine va_get (D := D) (ci := 12) (v := .long ((nI (a (4 + (i)))).toInt64)) (C := RX12) (T := TX12) (N := 24) hx hb hts hinX12 hown hK hP 0 rfl rfl 8 (by decide) (hts (.fieldLink RX12 78 "CornDeskModel" "n" "J") (by decide +kernel)) (fun _ h9 => h9) rfl dX12_led_55 ?_
          refine lv_aload_n hx hb dX12_led_58 rfl (lv_at hl 0 rfl) ?_
          refine va_get (D := D) (ci := 12) (v := .long (lSp a (i) (0) (a (4 + (i))))) (C := RX12) (T := TX12) (N := 24) hx hb hts hinX12 hown hK hP 0 rfl rfl 14 (by decide) (hts (.fieldLink RX12 97 "CornDeskModel" "spread" "J") (by decide +kernel)) (fun _ h9 => h9) rfl dX12_led_59 ?_
          refine lv_lmul hx hb dX12_led_62 ?_
          refine ln_eql (y := (lN (zUn a i 0 (a (4 + i))))) (lUn_z hp (by decide) hs) ?_
          refine lv_iload hx hb dX12_led_63 (lv_at hl 4 rfl) ?_
          have hb1 := zAb_b hp (show 0 < 2 by decide) (u := (u : Int)) (by omega)
          have hb2 := zUn_le hp (show 0 < 2 by decide)
          refine mq_Sl (As := [.long (lZ (zAb a i 0 (a (4 + i)) (u : Nat))), .long (lN (zUn a i 0 (a (4 + i)))), .int (zf)]) (rest := []) ⟨hx, hb, hml, hown, hts⟩ (cM_part l D _ (zAb a i 0 (a (4 + i)) (u : Nat)) (zUn a i 0 (a (4 + i))) (zf) (by omega) (by omega) (zUn_pos hp (by decide) hs)) (cwS 3 hts gX12_led_X12_part rfl rfl rfl (by decide +kernel) ⟨Nat.le_of_ble_eq_true rfl, Nat.le_of_ble_eq_true rfl⟩) hP hK hS hA rfl hl.1 rfl (Nat.le_of_ble_eq_true rfl) dX12_led_65 ⟨Nat.le_of_ble_eq_true rfl, Nat.le_of_ble_eq_true rfl⟩ (fun r w1 H locs hq hP hS => ?_)
          subst hq
          exact hret _ _ _ _ _ _ (Or.inr ⟨i, u, ⟨rfl, rfl, hi, hu⟩, Or.inr ⟨by rw [ew]; exact hs, by rw [ew], ⟨_, _, _, _, _, _, _, rfl⟩⟩⟩) hP hD hS dX12_led_68
        · refine lv_aload_n hx hb dX12_led_40 rfl (lv_at hl 0 rfl) ?_
          refine lv_ldc2 (v := (-1000000006)) hx hb hown (hts (.constantLong RX12 54 (-1000000006)) (by decide +kernel)) dX12_led_41 ?_
          refine mq_Vl (As := [.long ((-1000000006))]) (rest := []) (ci := 12) (k0 := 0) ⟨hx, hb, hml, hown, hts⟩ (cM_finds l D ad cI cJ a kp bt sz sheets go ro car ke km fi gm bs bu ((nI (a (4 + (i)))).toInt64) (lSU a (i) (0) (a (4 + (i)))) (lSX a (i) (0) (a (4 + (i)))) (lUU a (i) (0) (a (4 + (i)))) (lUX a (i) (0) (a (4 + (i)))) (lXX a (i) (0) (a (4 + (i)))) (lSp a (i) (0) (a (4 + (i)))) px py db ((-1000000006)) ) (cwV 1 hts gX12_led_X12_finds rfl rfl rfl (by decide +kernel) ⟨Nat.le_of_ble_eq_true rfl, Nat.le_of_ble_eq_true rfl⟩) rfl rfl hP hK hD hS hA rfl hl.1 rfl (Nat.le_of_ble_eq_true rfl) dX12_led_44 ⟨Nat.le_of_ble_eq_true rfl, Nat.le_of_ble_eq_true rfl⟩ (fun r w1 H locs hq hP hD hS => ?_)
          obtain ⟨rfl, rfl⟩ := hq
          exact hret _ _ _ _ _ _ (Or.inr ⟨i, u, ⟨rfl, rfl, hi, hu⟩, Or.inl ⟨by rw [ew]; exact fun q => c4 ((lSp_pos hp (by decide)).mpr q), rfl, ⟨_, _, _, _, _, _, _, rfl⟩⟩⟩) hP hD hS dX12_led_47
      · have ew : zN v = 1 := zN_1 c3
        refine lv_iconst (v := (nI (1))) hx hb dX12_led_29 (by decide) ?_
        refine lv_goto (tgt := 34) hx hb dX12_led_30 (by decide) ?_
        refine mq_Vi (As := [.int (nI (i)), .int (nI (1))]) (rest := []) (ci := 12) (k0 := 0) ⟨hx, hb, hml, hown, hts⟩ (cM_leads l D ad cI cJ a kp bt sz sheets go ro car ke km fi gm bs bu n1 n2 n3 n4 n5 n6 n7 px py db (i) (1) (by omega) (by decide) hp1) (cwV 2 hts gX12_led_X12_leads rfl rfl rfl (by decide +kernel) ⟨Nat.le_of_ble_eq_true rfl, Nat.le_of_ble_eq_true rfl⟩) rfl rfl hP hK hD hS hA rfl hl.1 rfl (Nat.le_of_ble_eq_true rfl) dX12_led_34 ⟨Nat.le_of_ble_eq_true rfl, Nat.le_of_ble_eq_true rfl⟩ (fun r w1 H locs hq hP hD hS => ?_)
        obtain ⟨rfl, rfl⟩ := hq
        refine lb_if_ne (tgt := 48) hx hb dX12_led_37 (by decide) (fun c4 => ?_) (fun c4 => ?_)
        · have hs : 0 < zSp a i 1 (a (4 + i)) := (lSp_pos hp (by decide)).mp c4
          refine lv_aload_n hx hb dX12_led_48 rfl (lv_at hl 0 rfl) ?_
          refine lv_iload_n hx hb dX12_led_49 rfl (lv_at hl 3 rfl) ?_
          refine lv_i2l hx hb dX12_led_50 rfl ?_
          refine ln_eql (y := (lZ ((u : Nat) : Int))) (nI_lZ (by omega)) ?_
          refine mq_Vl (As := [.long (lZ ((u : Nat) : Int))]) (rest := []) (ci := 12) (k0 := 0) ⟨hx, hb, hml, hown, hts⟩ (cM_aboveAt l D ad cI cJ a kp bt sz sheets go ro car ke km fi gm bs bu ((nI (a (4 + (i)))).toInt64) (lSU a (i) (1) (a (4 + (i)))) (lSX a (i) (1) (a (4 + (i)))) (lUU a (i) (1) (a (4 + (i)))) (lUX a (i) (1) (a (4 + (i)))) (lXX a (i) (1) (a (4 + (i)))) (lSp a (i) (1) (a (4 + (i)))) px py db (lZ ((u : Nat) : Int)) ) (cwV 1 hts gX12_led_X12_aboveAt rfl rfl rfl (by decide +kernel) ⟨Nat.le_of_ble_eq_true rfl, Nat.le_of_ble_eq_true rfl⟩) rfl rfl hP hK hD hS hA rfl hl.1 rfl (Nat.le_of_ble_eq_true rfl) dX12_led_51 ⟨Nat.le_of_ble_eq_true rfl, Nat.le_of_ble_eq_true rfl⟩ (fun r w1 H locs hq hP hD hS => ?_)
          obtain ⟨rfl, rfl⟩ := hq
          refine ln_eql (y := (lZ (zAb a i 1 (a (4 + i)) (u : Nat)))) (lAb_z hp (by decide) _) ?_
          refine lv_aload_n hx hb dX12_led_54 rfl (lv_at hl 0 rfl) ?_
          refine va_get (D := D) (ci := 12) (v := .long ((nI (a (4 + (i)))).toInt64)) (C := RX12) (T := TX12) (N := 24) hx hb hts hinX12 hown hK hP 0 rfl rfl 8 (by decide) (hts (.fieldLink RX12 78 "CornDeskModel" "n" "J") (by decide +kernel)) (fun _ h9 => h9) rfl dX12_led_55 ?_
          refine lv_aload_n hx hb dX12_led_58 rfl (lv_at hl 0 rfl) ?_
          refine va_get (D := D) (ci := 12) (v := .long (lSp a (i) (1) (a (4 + (i))))) (C := RX12) (T := TX12) (N := 24) hx hb hts hinX12 hown hK hP 0 rfl rfl 14 (by decide) (hts (.fieldLink RX12 97 "CornDeskModel" "spread" "J") (by decide +kernel)) (fun _ h9 => h9) rfl dX12_led_59 ?_
          refine lv_lmul hx hb dX12_led_62 ?_
          refine ln_eql (y := (lN (zUn a i 1 (a (4 + i))))) (lUn_z hp (by decide) hs) ?_
          refine lv_iload hx hb dX12_led_63 (lv_at hl 4 rfl) ?_
          have hb1 := zAb_b hp (show 1 < 2 by decide) (u := (u : Int)) (by omega)
          have hb2 := zUn_le hp (show 1 < 2 by decide)
          refine mq_Sl (As := [.long (lZ (zAb a i 1 (a (4 + i)) (u : Nat))), .long (lN (zUn a i 1 (a (4 + i)))), .int (zf)]) (rest := []) ⟨hx, hb, hml, hown, hts⟩ (cM_part l D _ (zAb a i 1 (a (4 + i)) (u : Nat)) (zUn a i 1 (a (4 + i))) (zf) (by omega) (by omega) (zUn_pos hp (by decide) hs)) (cwS 3 hts gX12_led_X12_part rfl rfl rfl (by decide +kernel) ⟨Nat.le_of_ble_eq_true rfl, Nat.le_of_ble_eq_true rfl⟩) hP hK hS hA rfl hl.1 rfl (Nat.le_of_ble_eq_true rfl) dX12_led_65 ⟨Nat.le_of_ble_eq_true rfl, Nat.le_of_ble_eq_true rfl⟩ (fun r w1 H locs hq hP hS => ?_)
          subst hq
          exact hret _ _ _ _ _ _ (Or.inr ⟨i, u, ⟨rfl, rfl, hi, hu⟩, Or.inr ⟨by rw [ew]; exact hs, by rw [ew], ⟨_, _, _, _, _, _, _, rfl⟩⟩⟩) hP hD hS dX12_led_68
        · refine lv_aload_n hx hb dX12_led_40 rfl (lv_at hl 0 rfl) ?_
          refine lv_ldc2 (v := (-1000000006)) hx hb hown (hts (.constantLong RX12 54 (-1000000006)) (by decide +kernel)) dX12_led_41 ?_
          refine mq_Vl (As := [.long ((-1000000006))]) (rest := []) (ci := 12) (k0 := 0) ⟨hx, hb, hml, hown, hts⟩ (cM_finds l D ad cI cJ a kp bt sz sheets go ro car ke km fi gm bs bu ((nI (a (4 + (i)))).toInt64) (lSU a (i) (1) (a (4 + (i)))) (lSX a (i) (1) (a (4 + (i)))) (lUU a (i) (1) (a (4 + (i)))) (lUX a (i) (1) (a (4 + (i)))) (lXX a (i) (1) (a (4 + (i)))) (lSp a (i) (1) (a (4 + (i)))) px py db ((-1000000006)) ) (cwV 1 hts gX12_led_X12_finds rfl rfl rfl (by decide +kernel) ⟨Nat.le_of_ble_eq_true rfl, Nat.le_of_ble_eq_true rfl⟩) rfl rfl hP hK hD hS hA rfl hl.1 rfl (Nat.le_of_ble_eq_true rfl) dX12_led_44 ⟨Nat.le_of_ble_eq_true rfl, Nat.le_of_ble_eq_true rfl⟩ (fun r w1 H locs hq hP hD hS => ?_)
          obtain ⟨rfl, rfl⟩ := hq
          exact hret _ _ _ _ _ _ (Or.inr ⟨i, u, ⟨rfl, rfl, hi, hu⟩, Or.inl ⟨by rw [ew]; exact fun q => c4 ((lSp_pos hp (by decide)).mpr q), rfl, ⟨_, _, _, _, _, _, _, rfl⟩⟩⟩) hP hD hS dX12_led_47
    · refine lv_aload_n hx hb dX12_led_15 rfl (lv_at hl 0 rfl) ?_
      refine lv_ldc2 (v := (-1000000001)) hx hb hown (hts (.constantLong RX12 76 (-1000000001)) (by decide +kernel)) dX12_led_16 ?_
      refine mq_Vl (As := [.long ((-1000000001))]) (rest := []) (ci := 12) (k0 := 0) ⟨hx, hb, hml, hown, hts⟩ (cM_finds l D ad cI cJ a kp bt sz sheets go ro car ke km fi gm bs bu n1 n2 n3 n4 n5 n6 n7 px py db ((-1000000001)) ) (cwV 1 hts gX12_led_X12_finds rfl rfl rfl (by decide +kernel) ⟨Nat.le_of_ble_eq_true rfl, Nat.le_of_ble_eq_true rfl⟩) rfl rfl hP hK hD hS hA rfl hl.1 rfl (Nat.le_of_ble_eq_true rfl) dX12_led_19 ⟨Nat.le_of_ble_eq_true rfl, Nat.le_of_ble_eq_true rfl⟩ (fun r w1 H locs hq hP hD hS => ?_)
      obtain ⟨rfl, rfl⟩ := hq
      exact hret _ _ _ _ _ _ (Or.inl ⟨fun h => c2 h.2, rfl, rfl⟩) hP hD hS dX12_led_22
theorem lMs_z {a : Nat → Nat} {pi w : Nat} (h : plOk a pi) (hw : w < 2) : ((nI (a (4 + pi))).toInt64 * lXX a pi w (a (4 + pi)) - lSX a pi w (a (4 + pi)) * lSX a pi w (a (4 + pi))) * lSp a pi w (a (4 + pi)) - ((nI (a (4 + pi))).toInt64 * lUX a pi w (a (4 + pi)) - lSU a pi w (a (4 + pi)) * lSX a pi w (a (4 + pi))) * ((nI (a (4 + pi))).toInt64 * lUX a pi w (a (4 + pi)) - lSU a pi w (a (4 + pi)) * lSX a pi w (a (4 + pi))) = lZ (zMs a pi w (a (4 + pi))) := by
  rw [lN_z h, lSp_z h hw, lSX_z h hw, lSU_z h hw, lUX_z h hw, lXX_z h hw]
  simp only [lZ_mul, lZ_sub, lZ_add]
  rfl
set_option maxHeartbeats 4000000 in
set_option maxRecDepth 100000 in
theorem cM_miss (l : Launch) (D : va_G) (ad : Nat → Nat) (cI cJ : ClassId) (a kp bt sz : Nat → Nat) (sheets : Nat → Int32) (go ro : Nat → Nat) (car : Nat → Int32) (ke km fi gm bs bu : Nat) (n1 n2 n3 n4 n5 n6 n7 : Int64) (px py db : Nat → Int64) (x : Int32) (v : Int32) (zf : Int32) (h0 : a 0 ≤ 6) (hpl : ∀ i, i < a 0 → plOk a i) : mq_l l D (mT cI cJ) yX12_miss wsX12_miss 2 0 0 55 [.ref (ad 0), .int (x), .int (v), .int (zf)] (mW ad cI cJ a kp bt sz sheets go ro car ke km fi gm bs bu n1 n2 n3 n4 n5 n6 n7 px py db) (fun r w1 => (¬ ix (a 0) x ∧ r = -1000000001 ∧ w1 = mW ad cI cJ a kp bt sz sheets go ro car ke km (fi + 1) gm bs bu n1 n2 n3 n4 n5 n6 n7 px py db) ∨ (∃ i : Nat, (x = nI i ∧ i < a 0) ∧ ((¬ 0 < zSp a i (zN v) (a (4 + i)) ∧ r = -1000000006 ∧ ∃ m1 m2 m3 m4 m5 m6 m7 : Int64, w1 = mW ad cI cJ a kp bt sz sheets go ro car ke km (fi + 1) gm bs bu m1 m2 m3 m4 m5 m6 m7 px py db) ∨ (0 < zSp a i (zN v) (a (4 + i)) ∧ r = pcI (zMs a i (zN v) (a (4 + i))) (zUn a i (zN v) (a (4 + i))) zf ∧ ∃ m1 m2 m3 m4 m5 m6 m7 : Int64, w1 = mW ad cI cJ a kp bt sz sheets go ro car ke km fi gm bs bu m1 m2 m3 m4 m5 m6 m7 px py db)))) := by
  refine mq_l_of (cc := cX12_miss) (maxL := 6) (by decide) rfl (Nat.le_of_ble_eq_true rfl) ?_
  intro p e s m args below meth c A Q ls hx hb hts hown hml hnm hA hP hK hD hS hl hret
  have hown : s.vm.findClass RX12 = some m.cls := hown
  have hinX12 : ∀ w ∈ u_ws RX12 TX12 24, w ∈ wsX12_miss := by decide +kernel
  have hl : lv_has ls 6 [(0, .ref (ad 0)), (1, .int (x)), (2, .int (v)), (3, .int (zf))] := hl
  refine lv_aload_n hx hb dX12_miss_0 rfl (lv_at hl 0 rfl) ?_
  refine lv_iload_n hx hb dX12_miss_1 rfl (lv_at hl 1 rfl) ?_
  refine mq_Vi (As := [.int (x)]) (rest := []) (ci := 12) (k0 := 0) ⟨hx, hb, hml, hown, hts⟩ (cM_isPicture l D ad cI cJ a kp bt sz sheets go ro car ke km fi gm bs bu n1 n2 n3 n4 n5 n6 n7 px py db (x) (by omega)) (cwV 1 hts gX12_miss_X12_isPicture rfl rfl rfl (by decide +kernel) ⟨Nat.le_of_ble_eq_true rfl, Nat.le_of_ble_eq_true rfl⟩) rfl rfl hP hK hD hS hA rfl hl.1 rfl (Nat.le_of_ble_eq_true rfl) dX12_miss_2 ⟨Nat.le_of_ble_eq_true rfl, Nat.le_of_ble_eq_true rfl⟩ (fun r w1 H locs hq hP hD hS => ?_)
  obtain ⟨rfl, rfl⟩ := hq
  refine lb_if_ne (tgt := 16) hx hb dX12_miss_5 (by decide) (fun c1 => ?_) (fun c1 => ?_)
  · obtain ⟨i, hi, rfl⟩ := ix_of c1 (by omega)
    have hp := hpl i hi
    have hp1 := hp.1
    refine lv_aload_n hx hb dX12_miss_16 rfl (lv_at hl 0 rfl) ?_
    refine lv_iload_n hx hb dX12_miss_17 rfl (lv_at hl 1 rfl) ?_
    refine lv_iload_n hx hb dX12_miss_18 rfl (lv_at hl 2 rfl) ?_
    refine lv_if_eq (tgt := 26) hx hb dX12_miss_19 (by decide) (fun c3 => ?_) (fun c3 => ?_)
    · have ew : zN v = 0 := zN_0 c3
      refine lv_iconst (v := (nI (0))) hx hb dX12_miss_26 (by decide) ?_
      refine mq_Vi (As := [.int (nI (i)), .int (nI (0))]) (rest := []) (ci := 12) (k0 := 0) ⟨hx, hb, hml, hown, hts⟩ (cM_leads l D ad cI cJ a kp bt sz sheets go ro car ke km fi gm bs bu n1 n2 n3 n4 n5 n6 n7 px py db (i) (0) (by omega) (by decide) hp1) (cwV 2 hts gX12_miss_X12_leads rfl rfl rfl (by decide +kernel) ⟨Nat.le_of_ble_eq_true rfl, Nat.le_of_ble_eq_true rfl⟩) rfl rfl hP hK hD hS hA rfl hl.1 rfl (Nat.le_of_ble_eq_true rfl) dX12_miss_27 ⟨Nat.le_of_ble_eq_true rfl, Nat.le_of_ble_eq_true rfl⟩ (fun r w1 H locs hq hP hD hS => ?_)
      obtain ⟨rfl, rfl⟩ := hq
      refine lb_if_ne (tgt := 41) hx hb dX12_miss_30 (by decide) (fun c4 => ?_) (fun c4 => ?_)
      · have hs : 0 < zSp a i 0 (a (4 + i)) := (lSp_pos hp (by decide)).mp c4
        refine lv_aload_n hx hb dX12_miss_41 rfl (lv_at hl 0 rfl) ?_
        refine va_get (D := D) (ci := 12) (v := .long ((nI (a (4 + (i)))).toInt64)) (C := RX12) (T := TX12) (N := 24) hx hb hts hinX12 hown hK hP 0 rfl rfl 8 (by decide) (hts (.fieldLink RX12 78 "CornDeskModel" "n" "J") (by decide +kernel)) (fun _ h9 => h9) rfl dX12_miss_42 ?_
        refine lv_aload_n hx hb dX12_miss_45 rfl (lv_at hl 0 rfl) ?_
        refine va_get (D := D) (ci := 12) (v := .long (lUX a (i) (0) (a (4 + (i))))) (C := RX12) (T := TX12) (N := 24) hx hb hts hinX12 hown hK hP 0 rfl rfl 12 (by decide) (hts (.fieldLink RX12 91 "CornDeskModel" "sumUX" "J") (by decide +kernel)) (fun _ h9 => h9) rfl dX12_miss_46 ?_
        refine lv_lmul hx hb dX12_miss_49 ?_
        refine lv_aload_n hx hb dX12_miss_50 rfl (lv_at hl 0 rfl) ?_
        refine va_get (D := D) (ci := 12) (v := .long (lSU a (i) (0) (a (4 + (i))))) (C := RX12) (T := TX12) (N := 24) hx hb hts hinX12 hown hK hP 0 rfl rfl 9 (by decide) (hts (.fieldLink RX12 82 "CornDeskModel" "sumU" "J") (by decide +kernel)) (fun _ h9 => h9) rfl dX12_miss_51 ?_
        refine lv_aload_n hx hb dX12_miss_54 rfl (lv_at hl 0 rfl) ?_
        refine va_get (D := D) (ci := 12) (v := .long (lSX a (i) (0) (a (4 + (i))))) (C := RX12) (T := TX12) (N := 24) hx hb hts hinX12 hown hK hP 0 rfl rfl 10 (by decide) (hts (.fieldLink RX12 85 "CornDeskModel" "sumX" "J") (by decide +kernel)) (fun _ h9 => h9) rfl dX12_miss_55 ?_
        refine lv_lmul hx hb dX12_miss_58 ?_
        refine lv_lsub hx hb dX12_miss_59 ?_
        refine lv_lstore (lv' := [(4, .long ((((nI (a (4 + (i)))).toInt64) * (lUX a (i) (0) (a (4 + (i))))) - ((lSU a (i) (0) (a (4 + (i)))) * (lSX a (i) (0) (a (4 + (i))))))), (0, .ref (ad 0)), (1, .int (nI (i))), (2, .int (v)), (3, .int (zf))]) hx hb dX12_miss_60 hl (by decide) rfl (fun ls hl => ?_)
        refine lv_aload_n hx hb dX12_miss_62 rfl (lv_at hl 1 rfl) ?_
        refine va_get (D := D) (ci := 12) (v := .long ((nI (a (4 + (i)))).toInt64)) (C := RX12) (T := TX12) (N := 24) hx hb hts hinX12 hown hK hP 0 rfl rfl 8 (by decide) (hts (.fieldLink RX12 78 "CornDeskModel" "n" "J") (by decide +kernel)) (fun _ h9 => h9) rfl dX12_miss_63 ?_
        refine lv_aload_n hx hb dX12_miss_66 rfl (lv_at hl 1 rfl) ?_
        refine va_get (D := D) (ci := 12) (v := .long (lXX a (i) (0) (a (4 + (i))))) (C := RX12) (T := TX12) (N := 24) hx hb hts hinX12 hown hK hP 0 rfl rfl 13 (by decide) (hts (.fieldLink RX12 94 "CornDeskModel" "sumXX" "J") (by decide +kernel)) (fun _ h9 => h9) rfl dX12_miss_67 ?_
        refine lv_lmul hx hb dX12_miss_70 ?_
        refine lv_aload_n hx hb dX12_miss_71 rfl (lv_at hl 1 rfl) ?_
        refine va_get (D := D) (ci := 12) (v := .long (lSX a (i) (0) (a (4 + (i))))) (C := RX12) (T := TX12) (N := 24) hx hb hts hinX12 hown hK hP 0 rfl rfl 10 (by decide) (hts (.fieldLink RX12 85 "CornDeskModel" "sumX" "J") (by decide +kernel)) (fun _ h9 => h9) rfl dX12_miss_72 ?_
        refine lv_aload_n hx hb dX12_miss_75 rfl (lv_at hl 1 rfl) ?_
        refine va_get (D := D) (ci := 12) (v := .long (lSX a (i) (0) (a (4 + (i))))) (C := RX12) (T := TX12) (N := 24) hx hb hts hinX12 hown hK hP 0 rfl rfl 10 (by decide) (hts (.fieldLink RX12 85 "CornDeskModel" "sumX" "J") (by decide +kernel)) (fun _ h9 => h9) rfl dX12_miss_76 ?_
        refine lv_lmul hx hb dX12_miss_79 ?_
        refine lv_lsub hx hb dX12_miss_80 ?_
        refine lv_aload_n hx hb dX12_miss_81 rfl (lv_at hl 1 rfl) ?_
        refine va_get (D := D) (ci := 12) (v := .long (lSp a (i) (0) (a (4 + (i))))) (C := RX12) (T := TX12) (N := 24) hx hb hts hinX12 hown hK hP 0 rfl rfl 14 (by decide) (hts (.fieldLink RX12 97 "CornDeskModel" "spread" "J") (by decide +kernel)) (fun _ h9 => h9) rfl dX12_miss_82 ?_
        refine lv_lmul hx hb dX12_miss_85 ?_
        refine lv_lload hx hb dX12_miss_86 (lv_at hl 0 rfl) ?_
        refine lv_lload hx hb dX12_miss_88 (lv_at hl 0 rfl) ?_
        refine lv_lmul hx hb dX12_miss_90 ?_
        refine lv_lsub hx hb dX12_miss_91 ?_
        refine ln_eql (y := (lZ (zMs a i 0 (a (4 + i))))) (lMs_z hp (by decide)) ?_
        refine lv_aload_n hx hb dX12_miss_92 rfl (lv_at hl 1 rfl) ?_
        refine va_get (D := D) (ci := 12) (v := .long ((nI (a (4 + (i)))).toInt64)) (C := RX12) (T := TX12) (N := 24) hx hb hts hinX12 hown hK hP 0 rfl rfl 8 (by decide) (hts (.fieldLink RX12 78 "CornDeskModel" "n" "J") (by decide +kernel)) (fun _ h9 => h9) rfl dX12_miss_93 ?_
        refine lv_aload_n hx hb dX12_miss_96 rfl (lv_at hl 1 rfl) ?_
        refine va_get (D := D) (ci := 12) (v := .long (lSp a (i) (0) (a (4 + (i))))) (C := RX12) (T := TX12) (N := 24) hx hb hts hinX12 hown hK hP 0 rfl rfl 14 (by decide) (hts (.fieldLink RX12 97 "CornDeskModel" "spread" "J") (by decide +kernel)) (fun _ h9 => h9) rfl dX12_miss_97 ?_
        refine lv_lmul hx hb dX12_miss_100 ?_
        refine ln_eql (y := (lN (zUn a i 0 (a (4 + i))))) (lUn_z hp (by decide) hs) ?_
        refine lv_iload_n hx hb dX12_miss_101 rfl (lv_at hl 4 rfl) ?_
        have hb1 := zMs_b hp (show 0 < 2 by decide)
        have hb2 := zUn_le hp (show 0 < 2 by decide)
        refine mq_Sl (As := [.long (lZ (zMs a i 0 (a (4 + i)))), .long (lN (zUn a i 0 (a (4 + i)))), .int (zf)]) (rest := []) ⟨hx, hb, hml, hown, hts⟩ (cM_part l D _ (zMs a i 0 (a (4 + i))) (zUn a i 0 (a (4 + i))) (zf) (by omega) (by omega) (zUn_pos hp (by decide) hs)) (cwS 3 hts gX12_miss_X12_part rfl rfl rfl (by decide +kernel) ⟨Nat.le_of_ble_eq_true rfl, Nat.le_of_ble_eq_true rfl⟩) hP hK hS hA rfl hl.1 rfl (Nat.le_of_ble_eq_true rfl) dX12_miss_102 ⟨Nat.le_of_ble_eq_true rfl, Nat.le_of_ble_eq_true rfl⟩ (fun r w1 H locs hq hP hS => ?_)
        subst hq
        exact hret _ _ _ _ _ _ (Or.inr ⟨i, ⟨rfl, hi⟩, Or.inr ⟨by rw [ew]; exact hs, by rw [ew], ⟨_, _, _, _, _, _, _, rfl⟩⟩⟩) hP hD hS dX12_miss_105
      · refine lv_aload_n hx hb dX12_miss_33 rfl (lv_at hl 0 rfl) ?_
        refine lv_ldc2 (v := (-1000000006)) hx hb hown (hts (.constantLong RX12 54 (-1000000006)) (by decide +kernel)) dX12_miss_34 ?_
        refine mq_Vl (As := [.long ((-1000000006))]) (rest := []) (ci := 12) (k0 := 0) ⟨hx, hb, hml, hown, hts⟩ (cM_finds l D ad cI cJ a kp bt sz sheets go ro car ke km fi gm bs bu ((nI (a (4 + (i)))).toInt64) (lSU a (i) (0) (a (4 + (i)))) (lSX a (i) (0) (a (4 + (i)))) (lUU a (i) (0) (a (4 + (i)))) (lUX a (i) (0) (a (4 + (i)))) (lXX a (i) (0) (a (4 + (i)))) (lSp a (i) (0) (a (4 + (i)))) px py db ((-1000000006)) ) (cwV 1 hts gX12_miss_X12_finds rfl rfl rfl (by decide +kernel) ⟨Nat.le_of_ble_eq_true rfl, Nat.le_of_ble_eq_true rfl⟩) rfl rfl hP hK hD hS hA rfl hl.1 rfl (Nat.le_of_ble_eq_true rfl) dX12_miss_37 ⟨Nat.le_of_ble_eq_true rfl, Nat.le_of_ble_eq_true rfl⟩ (fun r w1 H locs hq hP hD hS => ?_)
        obtain ⟨rfl, rfl⟩ := hq
        exact hret _ _ _ _ _ _ (Or.inr ⟨i, ⟨rfl, hi⟩, Or.inl ⟨by rw [ew]; exact fun q => c4 ((lSp_pos hp (by decide)).mpr q), rfl, ⟨_, _, _, _, _, _, _, rfl⟩⟩⟩) hP hD hS dX12_miss_40
    · have ew : zN v = 1 := zN_1 c3
      refine lv_iconst (v := (nI (1))) hx hb dX12_miss_22 (by decide) ?_
      refine lv_goto (tgt := 27) hx hb dX12_miss_23 (by decide) ?_
      refine mq_Vi (As := [.int (nI (i)), .int (nI (1))]) (rest := []) (ci := 12) (k0 := 0) ⟨hx, hb, hml, hown, hts⟩ (cM_leads l D ad cI cJ a kp bt sz sheets go ro car ke km fi gm bs bu n1 n2 n3 n4 n5 n6 n7 px py db (i) (1) (by omega) (by decide) hp1) (cwV 2 hts gX12_miss_X12_leads rfl rfl rfl (by decide +kernel) ⟨Nat.le_of_ble_eq_true rfl, Nat.le_of_ble_eq_true rfl⟩) rfl rfl hP hK hD hS hA rfl hl.1 rfl (Nat.le_of_ble_eq_true rfl) dX12_miss_27 ⟨Nat.le_of_ble_eq_true rfl, Nat.le_of_ble_eq_true rfl⟩ (fun r w1 H locs hq hP hD hS => ?_)
      obtain ⟨rfl, rfl⟩ := hq
      refine lb_if_ne (tgt := 41) hx hb dX12_miss_30 (by decide) (fun c4 => ?_) (fun c4 => ?_)
      · have hs : 0 < zSp a i 1 (a (4 + i)) := (lSp_pos hp (by decide)).mp c4
        refine lv_aload_n hx hb dX12_miss_41 rfl (lv_at hl 0 rfl) ?_
        refine va_get (D := D) (ci := 12) (v := .long ((nI (a (4 + (i)))).toInt64)) (C := RX12) (T := TX12) (N := 24) hx hb hts hinX12 hown hK hP 0 rfl rfl 8 (by decide) (hts (.fieldLink RX12 78 "CornDeskModel" "n" "J") (by decide +kernel)) (fun _ h9 => h9) rfl dX12_miss_42 ?_
        refine lv_aload_n hx hb dX12_miss_45 rfl (lv_at hl 0 rfl) ?_
        refine va_get (D := D) (ci := 12) (v := .long (lUX a (i) (1) (a (4 + (i))))) (C := RX12) (T := TX12) (N := 24) hx hb hts hinX12 hown hK hP 0 rfl rfl 12 (by decide) (hts (.fieldLink RX12 91 "CornDeskModel" "sumUX" "J") (by decide +kernel)) (fun _ h9 => h9) rfl dX12_miss_46 ?_
        refine lv_lmul hx hb dX12_miss_49 ?_
        refine lv_aload_n hx hb dX12_miss_50 rfl (lv_at hl 0 rfl) ?_
        refine va_get (D := D) (ci := 12) (v := .long (lSU a (i) (1) (a (4 + (i))))) (C := RX12) (T := TX12) (N := 24) hx hb hts hinX12 hown hK hP 0 rfl rfl 9 (by decide) (hts (.fieldLink RX12 82 "CornDeskModel" "sumU" "J") (by decide +kernel)) (fun _ h9 => h9) rfl dX12_miss_51 ?_
        refine lv_aload_n hx hb dX12_miss_54 rfl (lv_at hl 0 rfl) ?_
        refine va_get (D := D) (ci := 12) (v := .long (lSX a (i) (1) (a (4 + (i))))) (C := RX12) (T := TX12) (N := 24) hx hb hts hinX12 hown hK hP 0 rfl rfl 10 (by decide) (hts (.fieldLink RX12 85 "CornDeskModel" "sumX" "J") (by decide +kernel)) (fun _ h9 => h9) rfl dX12_miss_55 ?_
        refine lv_lmul hx hb dX12_miss_58 ?_
        refine lv_lsub hx hb dX12_miss_59 ?_
        refine lv_lstore (lv' := [(4, .long ((((nI (a (4 + (i)))).toInt64) * (lUX a (i) (1) (a (4 + (i))))) - ((lSU a (i) (1) (a (4 + (i)))) * (lSX a (i) (1) (a (4 + (i))))))), (0, .ref (ad 0)), (1, .int (nI (i))), (2, .int (v)), (3, .int (zf))]) hx hb dX12_miss_60 hl (by decide) rfl (fun ls hl => ?_)
        refine lv_aload_n hx hb dX12_miss_62 rfl (lv_at hl 1 rfl) ?_
        refine va_get (D := D) (ci := 12) (v := .long ((nI (a (4 + (i)))).toInt64)) (C := RX12) (T := TX12) (N := 24) hx hb hts hinX12 hown hK hP 0 rfl rfl 8 (by decide) (hts (.fieldLink RX12 78 "CornDeskModel" "n" "J") (by decide +kernel)) (fun _ h9 => h9) rfl dX12_miss_63 ?_
        refine lv_aload_n hx hb dX12_miss_66 rfl (lv_at hl 1 rfl) ?_
        refine va_get (D := D) (ci := 12) (v := .long (lXX a (i) (1) (a (4 + (i))))) (C := RX12) (T := TX12) (N := 24) hx hb hts hinX12 hown hK hP 0 rfl rfl 13 (by decide) (hts (.fieldLink RX12 94 "CornDeskModel" "sumXX" "J") (by decide +kernel)) (fun _ h9 => h9) rfl dX12_miss_67 ?_
        refine lv_lmul hx hb dX12_miss_70 ?_
        refine lv_aload_n hx hb dX12_miss_71 rfl (lv_at hl 1 rfl) ?_
        refine va_get (D := D) (ci := 12) (v := .long (lSX a (i) (1) (a (4 + (i))))) (C := RX12) (T := TX12) (N := 24) hx hb hts hinX12 hown hK hP 0 rfl rfl 10 (by decide) (hts (.fieldLink RX12 85 "CornDeskModel" "sumX" "J") (by decide +kernel)) (fun _ h9 => h9) rfl dX12_miss_72 ?_
        refine lv_aload_n hx hb dX12_miss_75 rfl (lv_at hl 1 rfl) ?_
        refine va_get (D := D) (ci := 12) (v := .long (lSX a (i) (1) (a (4 + (i))))) (C := RX12) (T := TX12) (N := 24) hx hb hts hinX12 hown hK hP 0 rfl rfl 10 (by decide) (hts (.fieldLink RX12 85 "CornDeskModel" "sumX" "J") (by decide +kernel)) (fun _ h9 => h9) rfl dX12_miss_76 ?_
        refine lv_lmul hx hb dX12_miss_79 ?_
        refine lv_lsub hx hb dX12_miss_80 ?_
        refine lv_aload_n hx hb dX12_miss_81 rfl (lv_at hl 1 rfl) ?_
        refine va_get (D := D) (ci := 12) (v := .long (lSp a (i) (1) (a (4 + (i))))) (C := RX12) (T := TX12) (N := 24) hx hb hts hinX12 hown hK hP 0 rfl rfl 14 (by decide) (hts (.fieldLink RX12 97 "CornDeskModel" "spread" "J") (by decide +kernel)) (fun _ h9 => h9) rfl dX12_miss_82 ?_
        refine lv_lmul hx hb dX12_miss_85 ?_
        refine lv_lload hx hb dX12_miss_86 (lv_at hl 0 rfl) ?_
        refine lv_lload hx hb dX12_miss_88 (lv_at hl 0 rfl) ?_
        refine lv_lmul hx hb dX12_miss_90 ?_
        refine lv_lsub hx hb dX12_miss_91 ?_
        refine ln_eql (y := (lZ (zMs a i 1 (a (4 + i))))) (lMs_z hp (by decide)) ?_
        refine lv_aload_n hx hb dX12_miss_92 rfl (lv_at hl 1 rfl) ?_
        refine va_get (D := D) (ci := 12) (v := .long ((nI (a (4 + (i)))).toInt64)) (C := RX12) (T := TX12) (N := 24) hx hb hts hinX12 hown hK hP 0 rfl rfl 8 (by decide) (hts (.fieldLink RX12 78 "CornDeskModel" "n" "J") (by decide +kernel)) (fun _ h9 => h9) rfl dX12_miss_93 ?_
        refine lv_aload_n hx hb dX12_miss_96 rfl (lv_at hl 1 rfl) ?_
        refine va_get (D := D) (ci := 12) (v := .long (lSp a (i) (1) (a (4 + (i))))) (C := RX12) (T := TX12) (N := 24) hx hb hts hinX12 hown hK hP 0 rfl rfl 14 (by decide) (hts (.fieldLink RX12 97 "CornDeskModel" "spread" "J") (by decide +kernel)) (fun _ h9 => h9) rfl dX12_miss_97 ?_
        refine lv_lmul hx hb dX12_miss_100 ?_
        refine ln_eql (y := (lN (zUn a i 1 (a (4 + i))))) (lUn_z hp (by decide) hs) ?_
        refine lv_iload_n hx hb dX12_miss_101 rfl (lv_at hl 4 rfl) ?_
        have hb1 := zMs_b hp (show 1 < 2 by decide)
        have hb2 := zUn_le hp (show 1 < 2 by decide)
        refine mq_Sl (As := [.long (lZ (zMs a i 1 (a (4 + i)))), .long (lN (zUn a i 1 (a (4 + i)))), .int (zf)]) (rest := []) ⟨hx, hb, hml, hown, hts⟩ (cM_part l D _ (zMs a i 1 (a (4 + i))) (zUn a i 1 (a (4 + i))) (zf) (by omega) (by omega) (zUn_pos hp (by decide) hs)) (cwS 3 hts gX12_miss_X12_part rfl rfl rfl (by decide +kernel) ⟨Nat.le_of_ble_eq_true rfl, Nat.le_of_ble_eq_true rfl⟩) hP hK hS hA rfl hl.1 rfl (Nat.le_of_ble_eq_true rfl) dX12_miss_102 ⟨Nat.le_of_ble_eq_true rfl, Nat.le_of_ble_eq_true rfl⟩ (fun r w1 H locs hq hP hS => ?_)
        subst hq
        exact hret _ _ _ _ _ _ (Or.inr ⟨i, ⟨rfl, hi⟩, Or.inr ⟨by rw [ew]; exact hs, by rw [ew], ⟨_, _, _, _, _, _, _, rfl⟩⟩⟩) hP hD hS dX12_miss_105
      · refine lv_aload_n hx hb dX12_miss_33 rfl (lv_at hl 0 rfl) ?_
        refine lv_ldc2 (v := (-1000000006)) hx hb hown (hts (.constantLong RX12 54 (-1000000006)) (by decide +kernel)) dX12_miss_34 ?_
        refine mq_Vl (As := [.long ((-1000000006))]) (rest := []) (ci := 12) (k0 := 0) ⟨hx, hb, hml, hown, hts⟩ (cM_finds l D ad cI cJ a kp bt sz sheets go ro car ke km fi gm bs bu ((nI (a (4 + (i)))).toInt64) (lSU a (i) (1) (a (4 + (i)))) (lSX a (i) (1) (a (4 + (i)))) (lUU a (i) (1) (a (4 + (i)))) (lUX a (i) (1) (a (4 + (i)))) (lXX a (i) (1) (a (4 + (i)))) (lSp a (i) (1) (a (4 + (i)))) px py db ((-1000000006)) ) (cwV 1 hts gX12_miss_X12_finds rfl rfl rfl (by decide +kernel) ⟨Nat.le_of_ble_eq_true rfl, Nat.le_of_ble_eq_true rfl⟩) rfl rfl hP hK hD hS hA rfl hl.1 rfl (Nat.le_of_ble_eq_true rfl) dX12_miss_37 ⟨Nat.le_of_ble_eq_true rfl, Nat.le_of_ble_eq_true rfl⟩ (fun r w1 H locs hq hP hD hS => ?_)
        obtain ⟨rfl, rfl⟩ := hq
        exact hret _ _ _ _ _ _ (Or.inr ⟨i, ⟨rfl, hi⟩, Or.inl ⟨by rw [ew]; exact fun q => c4 ((lSp_pos hp (by decide)).mpr q), rfl, ⟨_, _, _, _, _, _, _, rfl⟩⟩⟩) hP hD hS dX12_miss_40
  · refine lv_aload_n hx hb dX12_miss_8 rfl (lv_at hl 0 rfl) ?_
    refine lv_ldc2 (v := (-1000000001)) hx hb hown (hts (.constantLong RX12 76 (-1000000001)) (by decide +kernel)) dX12_miss_9 ?_
    refine mq_Vl (As := [.long ((-1000000001))]) (rest := []) (ci := 12) (k0 := 0) ⟨hx, hb, hml, hown, hts⟩ (cM_finds l D ad cI cJ a kp bt sz sheets go ro car ke km fi gm bs bu n1 n2 n3 n4 n5 n6 n7 px py db ((-1000000001)) ) (cwV 1 hts gX12_miss_X12_finds rfl rfl rfl (by decide +kernel) ⟨Nat.le_of_ble_eq_true rfl, Nat.le_of_ble_eq_true rfl⟩) rfl rfl hP hK hD hS hA rfl hl.1 rfl (Nat.le_of_ble_eq_true rfl) dX12_miss_12 ⟨Nat.le_of_ble_eq_true rfl, Nat.le_of_ble_eq_true rfl⟩ (fun r w1 H locs hq hP hD hS => ?_)
    obtain ⟨rfl, rfl⟩ := hq
    exact hret _ _ _ _ _ _ (Or.inl ⟨c1, rfl, rfl⟩) hP hD hS dX12_miss_15
/-- the MARKS' numbers lie within -/
def mkOk (a : Nat → Nat) (i : Nat) : Prop := a (202 + 6 * i) < a 0 ∧ a (202 + 6 * i + 1) ≤ 3 ∧ a (202 + 6 * i + 2) ≤ 999 ∧ a (202 + 6 * i + 3) ≤ 999 ∧ a (202 + 6 * i + 4) ≤ 99 ∧ a (202 + 6 * i + 5) ≤ 15
/-- THE PLACE of a point, cut down -/
def zPt (a : Nat → Nat) (pi w u : Nat) : Int := zAb a pi w (a (4 + pi)) (u : Nat) / (zUn a pi w (a (4 + pi)) : Nat)
set_option maxHeartbeats 4000000 in
set_option maxRecDepth 100000 in
theorem cM_at (l : Launch) (D : va_G) (ad : Nat → Nat) (cI cJ : ClassId) (a kp bt sz : Nat → Nat) (sheets : Nat → Int32) (go ro : Nat → Nat) (car : Nat → Int32) (ke km fi gm bs bu : Nat) (n1 n2 n3 n4 n5 n6 n7 : Int64) (px py db : Nat → Int64) (x : Int32) (v : Int32) (h0 : a 0 ≤ 6) (hpl : ∀ i, i < a 0 → plOk a i) (h1 : a 1 ≤ 20) (hmk : ∀ i, i < a 1 → mkOk a i) : mq_l l D (mT cI cJ) yX12_at wsX12_at 2 0 0 43 [.ref (ad 0), .int (x), .int (v)] (mW ad cI cJ a kp bt sz sheets go ro car ke km fi gm bs bu n1 n2 n3 n4 n5 n6 n7 px py db) (fun r w1 => (¬ ix (a 1) x ∧ r = -1000000001 ∧ w1 = mW ad cI cJ a kp bt sz sheets go ro car ke km (fi + 1) gm bs bu n1 n2 n3 n4 n5 n6 n7 px py db) ∨ (∃ i : Nat, (x = nI i ∧ i < a 1) ∧ ((¬ 0 < zSp a (a (202 + 6 * i)) (zN v) (a (4 + a (202 + 6 * i))) ∧ r = -1000000006 ∧ ∃ m1 m2 m3 m4 m5 m6 m7 : Int64, w1 = mW ad cI cJ a kp bt sz sheets go ro car ke km (fi + 1) gm bs bu m1 m2 m3 m4 m5 m6 m7 px py db) ∨ (0 < zSp a (a (202 + 6 * i)) (zN v) (a (4 + a (202 + 6 * i))) ∧ r = lZ (zPt a (a (202 + 6 * i)) (zN v) (a (202 + 6 * i + (2 + zN v)))) ∧ ∃ m1 m2 m3 m4 m5 m6 m7 : Int64, w1 = mW ad cI cJ a kp bt sz sheets go ro car ke km fi gm bs bu m1 m2 m3 m4 m5 m6 m7 px py db)))) := by
  refine mq_l_of (cc := cX12_at) (maxL := 3) (by decide) rfl (Nat.le_of_ble_eq_true rfl) ?_
  intro p e s m args below meth c A Q ls hx hb hts hown hml hnm hA hP hK hD hS hl hret
  have hown : s.vm.findClass RX12 = some m.cls := hown
  have hinX12 : ∀ w ∈ u_ws RX12 TX12 24, w ∈ wsX12_at := by decide +kernel
  have hl : lv_has ls 3 [(0, .ref (ad 0)), (1, .int (x)), (2, .int (v))] := hl
  refine lv_aload_n hx hb dX12_at_0 rfl (lv_at hl 0 rfl) ?_
  refine lv_iload_n hx hb dX12_at_1 rfl (lv_at hl 1 rfl) ?_
  refine mq_Vi (As := [.int (x)]) (rest := []) (ci := 12) (k0 := 0) ⟨hx, hb, hml, hown, hts⟩ (cM_isMark l D ad cI cJ a kp bt sz sheets go ro car ke km fi gm bs bu n1 n2 n3 n4 n5 n6 n7 px py db (x) (by omega)) (cwV 1 hts gX12_at_X12_isMark rfl rfl rfl (by decide +kernel) ⟨Nat.le_of_ble_eq_true rfl, Nat.le_of_ble_eq_true rfl⟩) rfl rfl hP hK hD hS hA rfl hl.1 rfl (Nat.le_of_ble_eq_true rfl) dX12_at_2 ⟨Nat.le_of_ble_eq_true rfl, Nat.le_of_ble_eq_true rfl⟩ (fun r w1 H locs hq hP hD hS => ?_)
  obtain ⟨rfl, rfl⟩ := hq
  refine lb_if_ne (tgt := 16) hx hb dX12_at_5 (by decide) (fun c1 => ?_) (fun c1 => ?_)
  · obtain ⟨i, hi, rfl⟩ := ix_of c1 (by omega)
    obtain ⟨hm0, -, hm2, hm3, -, -⟩ := hmk i hi
    have hp := hpl _ hm0
    have hp1 := hp.1
    refine lv_aload_n hx hb dX12_at_16 rfl (lv_at hl 0 rfl) ?_
    refine lv_aload_n hx hb dX12_at_17 rfl (lv_at hl 0 rfl) ?_
    refine lv_iload_n hx hb dX12_at_18 rfl (lv_at hl 1 rfl) ?_
    refine lv_iconst (v := (nI (0))) hx hb dX12_at_19 (by decide) ?_
    refine mq_Vi (As := [.int (nI (i)), .int (nI (0))]) (rest := [.ref (ad 0)]) (ci := 12) (k0 := 0) ⟨hx, hb, hml, hown, hts⟩ (cM_ofMark l D ad cI cJ a kp bt sz sheets go ro car ke km fi gm bs bu n1 n2 n3 n4 n5 n6 n7 px py db (i) (0) (by omega)) (cwV 2 hts gX12_at_X12_ofMark rfl rfl rfl (by decide +kernel) ⟨Nat.le_of_ble_eq_true rfl, Nat.le_of_ble_eq_true rfl⟩) rfl rfl hP hK hD hS hA rfl hl.1 rfl (Nat.le_of_ble_eq_true rfl) dX12_at_20 ⟨Nat.le_of_ble_eq_true rfl, Nat.le_of_ble_eq_true rfl⟩ (fun r w1 H locs hq hP hD hS => ?_)
    obtain ⟨rfl, rfl⟩ := hq
    refine ln_eqi (y := (nI (a (202 + 6 * i)))) rfl ?_
    refine lv_iload_n hx hb dX12_at_23 rfl (lv_at hl 2 rfl) ?_
    refine lv_if_eq (tgt := 31) hx hb dX12_at_24 (by decide) (fun c3 => ?_) (fun c3 => ?_)
    · have ew : zN v = 0 := zN_0 c3
      refine lv_iconst (v := (nI (0))) hx hb dX12_at_31 (by decide) ?_
      refine mq_Vi (As := [.int (nI (a (202 + 6 * i))), .int (nI (0))]) (rest := []) (ci := 12) (k0 := 0) ⟨hx, hb, hml, hown, hts⟩ (cM_leads l D ad cI cJ a kp bt sz sheets go ro car ke km fi gm bs bu n1 n2 n3 n4 n5 n6 n7 px py db (a (202 + 6 * i)) (0) (by omega) (by decide) hp1) (cwV 2 hts gX12_at_X12_leads rfl rfl rfl (by decide +kernel) ⟨Nat.le_of_ble_eq_true rfl, Nat.le_of_ble_eq_true rfl⟩) rfl rfl hP hK hD hS hA rfl hl.1 rfl (Nat.le_of_ble_eq_true rfl) dX12_at_32 ⟨Nat.le_of_ble_eq_true rfl, Nat.le_of_ble_eq_true rfl⟩ (fun r w1 H locs hq hP hD hS => ?_)
      obtain ⟨rfl, rfl⟩ := hq
      refine lb_if_ne (tgt := 46) hx hb dX12_at_35 (by decide) (fun c4 => ?_) (fun c4 => ?_)
      · have hs : 0 < zSp a (a (202 + 6 * i)) 0 (a (4 + (a (202 + 6 * i)))) := (lSp_pos hp (by decide)).mp c4
        refine lv_aload_n hx hb dX12_at_46 rfl (lv_at hl 0 rfl) ?_
        refine lv_aload_n hx hb dX12_at_47 rfl (lv_at hl 0 rfl) ?_
        refine lv_iload_n hx hb dX12_at_48 rfl (lv_at hl 1 rfl) ?_
        refine lv_iload_n hx hb dX12_at_49 rfl (lv_at hl 2 rfl) ?_
        refine lv_if_eq (tgt := 57) hx hb dX12_at_50 (by decide) (fun c5 => ?_) (fun c5 => ?_)
        · refine lv_iconst (v := (nI (2))) hx hb dX12_at_57 (by decide) ?_
          refine mq_Vi (As := [.int (nI (i)), .int (nI (2))]) (rest := [.ref (ad 0)]) (ci := 12) (k0 := 0) ⟨hx, hb, hml, hown, hts⟩ (cM_ofMark l D ad cI cJ a kp bt sz sheets go ro car ke km fi gm bs bu ((nI (a (4 + (a (202 + 6 * i))))).toInt64) (lSU a (a (202 + 6 * i)) (0) (a (4 + (a (202 + 6 * i))))) (lSX a (a (202 + 6 * i)) (0) (a (4 + (a (202 + 6 * i))))) (lUU a (a (202 + 6 * i)) (0) (a (4 + (a (202 + 6 * i))))) (lUX a (a (202 + 6 * i)) (0) (a (4 + (a (202 + 6 * i))))) (lXX a (a (202 + 6 * i)) (0) (a (4 + (a (202 + 6 * i))))) (lSp a (a (202 + 6 * i)) (0) (a (4 + (a (202 + 6 * i))))) px py db (i) (2) (by omega)) (cwV 2 hts gX12_at_X12_ofMark rfl rfl rfl (by decide +kernel) ⟨Nat.le_of_ble_eq_true rfl, Nat.le_of_ble_eq_true rfl⟩) rfl rfl hP hK hD hS hA rfl hl.1 rfl (Nat.le_of_ble_eq_true rfl) dX12_at_58 ⟨Nat.le_of_ble_eq_true rfl, Nat.le_of_ble_eq_true rfl⟩ (fun r w1 H locs hq hP hD hS => ?_)
          obtain ⟨rfl, rfl⟩ := hq
          refine lv_i2l hx hb dX12_at_61 rfl ?_
          refine ln_eql (y := (lZ ((a (202 + 6 * i + 2) : Nat) : Int))) (nI_lZ (by omega)) ?_
          refine mq_Vl (As := [.long (lZ ((a (202 + 6 * i + 2) : Nat) : Int))]) (rest := []) (ci := 12) (k0 := 0) ⟨hx, hb, hml, hown, hts⟩ (cM_aboveAt l D ad cI cJ a kp bt sz sheets go ro car ke km fi gm bs bu ((nI (a (4 + (a (202 + 6 * i))))).toInt64) (lSU a (a (202 + 6 * i)) (0) (a (4 + (a (202 + 6 * i))))) (lSX a (a (202 + 6 * i)) (0) (a (4 + (a (202 + 6 * i))))) (lUU a (a (202 + 6 * i)) (0) (a (4 + (a (202 + 6 * i))))) (lUX a (a (202 + 6 * i)) (0) (a (4 + (a (202 + 6 * i))))) (lXX a (a (202 + 6 * i)) (0) (a (4 + (a (202 + 6 * i))))) (lSp a (a (202 + 6 * i)) (0) (a (4 + (a (202 + 6 * i))))) px py db (lZ ((a (202 + 6 * i + 2) : Nat) : Int)) ) (cwV 1 hts gX12_at_X12_aboveAt rfl rfl rfl (by decide +kernel) ⟨Nat.le_of_ble_eq_true rfl, Nat.le_of_ble_eq_true rfl⟩) rfl rfl hP hK hD hS hA rfl hl.1 rfl (Nat.le_of_ble_eq_true rfl) dX12_at_62 ⟨Nat.le_of_ble_eq_true rfl, Nat.le_of_ble_eq_true rfl⟩ (fun r w1 H locs hq hP hD hS => ?_)
          obtain ⟨rfl, rfl⟩ := hq
          refine ln_eql (y := (lZ (zAb a (a (202 + 6 * i)) 0 (a (4 + (a (202 + 6 * i)))) (a (202 + 6 * i + 2) : Nat)))) (lAb_z hp (by decide) _) ?_
          refine lv_aload_n hx hb dX12_at_65 rfl (lv_at hl 0 rfl) ?_
          refine va_get (D := D) (ci := 12) (v := .long ((nI (a (4 + (a (202 + 6 * i))))).toInt64)) (C := RX12) (T := TX12) (N := 24) hx hb hts hinX12 hown hK hP 0 rfl rfl 8 (by decide) (hts (.fieldLink RX12 78 "CornDeskModel" "n" "J") (by decide +kernel)) (fun _ h9 => h9) rfl dX12_at_66 ?_
          refine lv_aload_n hx hb dX12_at_69 rfl (lv_at hl 0 rfl) ?_
          refine va_get (D := D) (ci := 12) (v := .long (lSp a (a (202 + 6 * i)) (0) (a (4 + (a (202 + 6 * i)))))) (C := RX12) (T := TX12) (N := 24) hx hb hts hinX12 hown hK hP 0 rfl rfl 14 (by decide) (hts (.fieldLink RX12 97 "CornDeskModel" "spread" "J") (by decide +kernel)) (fun _ h9 => h9) rfl dX12_at_70 ?_
          refine lv_lmul hx hb dX12_at_73 ?_
          refine ln_eql (y := (lN (zUn a (a (202 + 6 * i)) 0 (a (4 + (a (202 + 6 * i))))))) (lUn_z hp (by decide) hs) ?_
          have hb1 := zAb_b hp (show 0 < 2 by decide) (u := ((a (202 + 6 * i + 2) : Nat) : Int)) (by omega)
          have hb2 := zUn_le hp (show 0 < 2 by decide)
          refine mq_Sl (As := [.long (lZ (zAb a (a (202 + 6 * i)) 0 (a (4 + (a (202 + 6 * i)))) (a (202 + 6 * i + 2) : Nat))), .long (lN (zUn a (a (202 + 6 * i)) 0 (a (4 + (a (202 + 6 * i))))))]) (rest := []) ⟨hx, hb, hml, hown, hts⟩ (cM_cut l D _ (zAb a (a (202 + 6 * i)) 0 (a (4 + (a (202 + 6 * i)))) (a (202 + 6 * i + 2) : Nat)) (zUn a (a (202 + 6 * i)) 0 (a (4 + (a (202 + 6 * i))))) (by omega) (by omega) (zUn_pos hp (by decide) hs)) (cwS 2 hts gX12_at_X12_cut rfl rfl rfl (by decide +kernel) ⟨Nat.le_of_ble_eq_true rfl, Nat.le_of_ble_eq_true rfl⟩) hP hK hS hA rfl hl.1 rfl (Nat.le_of_ble_eq_true rfl) dX12_at_74 ⟨Nat.le_of_ble_eq_true rfl, Nat.le_of_ble_eq_true rfl⟩ (fun r w1 H locs hq hP hS => ?_)
          subst hq
          exact hret _ _ _ _ _ _ (Or.inr ⟨i, ⟨rfl, hi⟩, Or.inr ⟨by rw [ew]; exact hs, by rw [ew]; rfl, ⟨_, _, _, _, _, _, _, rfl⟩⟩⟩) hP hD hS dX12_at_77
        · exact absurd c3 c5
      · refine lv_aload_n hx hb dX12_at_38 rfl (lv_at hl 0 rfl) ?_
        refine lv_ldc2 (v := (-1000000006)) hx hb hown (hts (.constantLong RX12 54 (-1000000006)) (by decide +kernel)) dX12_at_39 ?_
        refine mq_Vl (As := [.long ((-1000000006))]) (rest := []) (ci := 12) (k0 := 0) ⟨hx, hb, hml, hown, hts⟩ (cM_finds l D ad cI cJ a kp bt sz sheets go ro car ke km fi gm bs bu ((nI (a (4 + (a (202 + 6 * i))))).toInt64) (lSU a (a (202 + 6 * i)) (0) (a (4 + (a (202 + 6 * i))))) (lSX a (a (202 + 6 * i)) (0) (a (4 + (a (202 + 6 * i))))) (lUU a (a (202 + 6 * i)) (0) (a (4 + (a (202 + 6 * i))))) (lUX a (a (202 + 6 * i)) (0) (a (4 + (a (202 + 6 * i))))) (lXX a (a (202 + 6 * i)) (0) (a (4 + (a (202 + 6 * i))))) (lSp a (a (202 + 6 * i)) (0) (a (4 + (a (202 + 6 * i))))) px py db ((-1000000006)) ) (cwV 1 hts gX12_at_X12_finds rfl rfl rfl (by decide +kernel) ⟨Nat.le_of_ble_eq_true rfl, Nat.le_of_ble_eq_true rfl⟩) rfl rfl hP hK hD hS hA rfl hl.1 rfl (Nat.le_of_ble_eq_true rfl) dX12_at_42 ⟨Nat.le_of_ble_eq_true rfl, Nat.le_of_ble_eq_true rfl⟩ (fun r w1 H locs hq hP hD hS => ?_)
        obtain ⟨rfl, rfl⟩ := hq
        exact hret _ _ _ _ _ _ (Or.inr ⟨i, ⟨rfl, hi⟩, Or.inl ⟨by rw [ew]; exact fun q => c4 ((lSp_pos hp (by decide)).mpr q), rfl, ⟨_, _, _, _, _, _, _, rfl⟩⟩⟩) hP hD hS dX12_at_45
    · have ew : zN v = 1 := zN_1 c3
      refine lv_iconst (v := (nI (1))) hx hb dX12_at_27 (by decide) ?_
      refine lv_goto (tgt := 32) hx hb dX12_at_28 (by decide) ?_
      refine mq_Vi (As := [.int (nI (a (202 + 6 * i))), .int (nI (1))]) (rest := []) (ci := 12) (k0 := 0) ⟨hx, hb, hml, hown, hts⟩ (cM_leads l D ad cI cJ a kp bt sz sheets go ro car ke km fi gm bs bu n1 n2 n3 n4 n5 n6 n7 px py db (a (202 + 6 * i)) (1) (by omega) (by decide) hp1) (cwV 2 hts gX12_at_X12_leads rfl rfl rfl (by decide +kernel) ⟨Nat.le_of_ble_eq_true rfl, Nat.le_of_ble_eq_true rfl⟩) rfl rfl hP hK hD hS hA rfl hl.1 rfl (Nat.le_of_ble_eq_true rfl) dX12_at_32 ⟨Nat.le_of_ble_eq_true rfl, Nat.le_of_ble_eq_true rfl⟩ (fun r w1 H locs hq hP hD hS => ?_)
      obtain ⟨rfl, rfl⟩ := hq
      refine lb_if_ne (tgt := 46) hx hb dX12_at_35 (by decide) (fun c4 => ?_) (fun c4 => ?_)
      · have hs : 0 < zSp a (a (202 + 6 * i)) 1 (a (4 + (a (202 + 6 * i)))) := (lSp_pos hp (by decide)).mp c4
        refine lv_aload_n hx hb dX12_at_46 rfl (lv_at hl 0 rfl) ?_
        refine lv_aload_n hx hb dX12_at_47 rfl (lv_at hl 0 rfl) ?_
        refine lv_iload_n hx hb dX12_at_48 rfl (lv_at hl 1 rfl) ?_
        refine lv_iload_n hx hb dX12_at_49 rfl (lv_at hl 2 rfl) ?_
        refine lv_if_eq (tgt := 57) hx hb dX12_at_50 (by decide) (fun c5 => ?_) (fun c5 => ?_)
        · exact absurd c5 c3
        · refine lv_iconst (v := (nI (3))) hx hb dX12_at_53 (by decide) ?_
          refine lv_goto (tgt := 58) hx hb dX12_at_54 (by decide) ?_
          refine mq_Vi (As := [.int (nI (i)), .int (nI (3))]) (rest := [.ref (ad 0)]) (ci := 12) (k0 := 0) ⟨hx, hb, hml, hown, hts⟩ (cM_ofMark l D ad cI cJ a kp bt sz sheets go ro car ke km fi gm bs bu ((nI (a (4 + (a (202 + 6 * i))))).toInt64) (lSU a (a (202 + 6 * i)) (1) (a (4 + (a (202 + 6 * i))))) (lSX a (a (202 + 6 * i)) (1) (a (4 + (a (202 + 6 * i))))) (lUU a (a (202 + 6 * i)) (1) (a (4 + (a (202 + 6 * i))))) (lUX a (a (202 + 6 * i)) (1) (a (4 + (a (202 + 6 * i))))) (lXX a (a (202 + 6 * i)) (1) (a (4 + (a (202 + 6 * i))))) (lSp a (a (202 + 6 * i)) (1) (a (4 + (a (202 + 6 * i))))) px py db (i) (3) (by omega)) (cwV 2 hts gX12_at_X12_ofMark rfl rfl rfl (by decide +kernel) ⟨Nat.le_of_ble_eq_true rfl, Nat.le_of_ble_eq_true rfl⟩) rfl rfl hP hK hD hS hA rfl hl.1 rfl (Nat.le_of_ble_eq_true rfl) dX12_at_58 ⟨Nat.le_of_ble_eq_true rfl, Nat.le_of_ble_eq_true rfl⟩ (fun r w1 H locs hq hP hD hS => ?_)
          obtain ⟨rfl, rfl⟩ := hq
          refine lv_i2l hx hb dX12_at_61 rfl ?_
          refine ln_eql (y := (lZ ((a (202 + 6 * i + 3) : Nat) : Int))) (nI_lZ (by omega)) ?_
          refine mq_Vl (As := [.long (lZ ((a (202 + 6 * i + 3) : Nat) : Int))]) (rest := []) (ci := 12) (k0 := 0) ⟨hx, hb, hml, hown, hts⟩ (cM_aboveAt l D ad cI cJ a kp bt sz sheets go ro car ke km fi gm bs bu ((nI (a (4 + (a (202 + 6 * i))))).toInt64) (lSU a (a (202 + 6 * i)) (1) (a (4 + (a (202 + 6 * i))))) (lSX a (a (202 + 6 * i)) (1) (a (4 + (a (202 + 6 * i))))) (lUU a (a (202 + 6 * i)) (1) (a (4 + (a (202 + 6 * i))))) (lUX a (a (202 + 6 * i)) (1) (a (4 + (a (202 + 6 * i))))) (lXX a (a (202 + 6 * i)) (1) (a (4 + (a (202 + 6 * i))))) (lSp a (a (202 + 6 * i)) (1) (a (4 + (a (202 + 6 * i))))) px py db (lZ ((a (202 + 6 * i + 3) : Nat) : Int)) ) (cwV 1 hts gX12_at_X12_aboveAt rfl rfl rfl (by decide +kernel) ⟨Nat.le_of_ble_eq_true rfl, Nat.le_of_ble_eq_true rfl⟩) rfl rfl hP hK hD hS hA rfl hl.1 rfl (Nat.le_of_ble_eq_true rfl) dX12_at_62 ⟨Nat.le_of_ble_eq_true rfl, Nat.le_of_ble_eq_true rfl⟩ (fun r w1 H locs hq hP hD hS => ?_)
          obtain ⟨rfl, rfl⟩ := hq
          refine ln_eql (y := (lZ (zAb a (a (202 + 6 * i)) 1 (a (4 + (a (202 + 6 * i)))) (a (202 + 6 * i + 3) : Nat)))) (lAb_z hp (by decide) _) ?_
          refine lv_aload_n hx hb dX12_at_65 rfl (lv_at hl 0 rfl) ?_
          refine va_get (D := D) (ci := 12) (v := .long ((nI (a (4 + (a (202 + 6 * i))))).toInt64)) (C := RX12) (T := TX12) (N := 24) hx hb hts hinX12 hown hK hP 0 rfl rfl 8 (by decide) (hts (.fieldLink RX12 78 "CornDeskModel" "n" "J") (by decide +kernel)) (fun _ h9 => h9) rfl dX12_at_66 ?_
          refine lv_aload_n hx hb dX12_at_69 rfl (lv_at hl 0 rfl) ?_
          refine va_get (D := D) (ci := 12) (v := .long (lSp a (a (202 + 6 * i)) (1) (a (4 + (a (202 + 6 * i)))))) (C := RX12) (T := TX12) (N := 24) hx hb hts hinX12 hown hK hP 0 rfl rfl 14 (by decide) (hts (.fieldLink RX12 97 "CornDeskModel" "spread" "J") (by decide +kernel)) (fun _ h9 => h9) rfl dX12_at_70 ?_
          refine lv_lmul hx hb dX12_at_73 ?_
          refine ln_eql (y := (lN (zUn a (a (202 + 6 * i)) 1 (a (4 + (a (202 + 6 * i))))))) (lUn_z hp (by decide) hs) ?_
          have hb1 := zAb_b hp (show 1 < 2 by decide) (u := ((a (202 + 6 * i + 3) : Nat) : Int)) (by omega)
          have hb2 := zUn_le hp (show 1 < 2 by decide)
          refine mq_Sl (As := [.long (lZ (zAb a (a (202 + 6 * i)) 1 (a (4 + (a (202 + 6 * i)))) (a (202 + 6 * i + 3) : Nat))), .long (lN (zUn a (a (202 + 6 * i)) 1 (a (4 + (a (202 + 6 * i))))))]) (rest := []) ⟨hx, hb, hml, hown, hts⟩ (cM_cut l D _ (zAb a (a (202 + 6 * i)) 1 (a (4 + (a (202 + 6 * i)))) (a (202 + 6 * i + 3) : Nat)) (zUn a (a (202 + 6 * i)) 1 (a (4 + (a (202 + 6 * i))))) (by omega) (by omega) (zUn_pos hp (by decide) hs)) (cwS 2 hts gX12_at_X12_cut rfl rfl rfl (by decide +kernel) ⟨Nat.le_of_ble_eq_true rfl, Nat.le_of_ble_eq_true rfl⟩) hP hK hS hA rfl hl.1 rfl (Nat.le_of_ble_eq_true rfl) dX12_at_74 ⟨Nat.le_of_ble_eq_true rfl, Nat.le_of_ble_eq_true rfl⟩ (fun r w1 H locs hq hP hS => ?_)
          subst hq
          exact hret _ _ _ _ _ _ (Or.inr ⟨i, ⟨rfl, hi⟩, Or.inr ⟨by rw [ew]; exact hs, by rw [ew]; rfl, ⟨_, _, _, _, _, _, _, rfl⟩⟩⟩) hP hD hS dX12_at_77
      · refine lv_aload_n hx hb dX12_at_38 rfl (lv_at hl 0 rfl) ?_
        refine lv_ldc2 (v := (-1000000006)) hx hb hown (hts (.constantLong RX12 54 (-1000000006)) (by decide +kernel)) dX12_at_39 ?_
        refine mq_Vl (As := [.long ((-1000000006))]) (rest := []) (ci := 12) (k0 := 0) ⟨hx, hb, hml, hown, hts⟩ (cM_finds l D ad cI cJ a kp bt sz sheets go ro car ke km fi gm bs bu ((nI (a (4 + (a (202 + 6 * i))))).toInt64) (lSU a (a (202 + 6 * i)) (1) (a (4 + (a (202 + 6 * i))))) (lSX a (a (202 + 6 * i)) (1) (a (4 + (a (202 + 6 * i))))) (lUU a (a (202 + 6 * i)) (1) (a (4 + (a (202 + 6 * i))))) (lUX a (a (202 + 6 * i)) (1) (a (4 + (a (202 + 6 * i))))) (lXX a (a (202 + 6 * i)) (1) (a (4 + (a (202 + 6 * i))))) (lSp a (a (202 + 6 * i)) (1) (a (4 + (a (202 + 6 * i))))) px py db ((-1000000006)) ) (cwV 1 hts gX12_at_X12_finds rfl rfl rfl (by decide +kernel) ⟨Nat.le_of_ble_eq_true rfl, Nat.le_of_ble_eq_true rfl⟩) rfl rfl hP hK hD hS hA rfl hl.1 rfl (Nat.le_of_ble_eq_true rfl) dX12_at_42 ⟨Nat.le_of_ble_eq_true rfl, Nat.le_of_ble_eq_true rfl⟩ (fun r w1 H locs hq hP hD hS => ?_)
        obtain ⟨rfl, rfl⟩ := hq
        exact hret _ _ _ _ _ _ (Or.inr ⟨i, ⟨rfl, hi⟩, Or.inl ⟨by rw [ew]; exact fun q => c4 ((lSp_pos hp (by decide)).mpr q), rfl, ⟨_, _, _, _, _, _, _, rfl⟩⟩⟩) hP hD hS dX12_at_45
  · refine lv_aload_n hx hb dX12_at_8 rfl (lv_at hl 0 rfl) ?_
    refine lv_ldc2 (v := (-1000000001)) hx hb hown (hts (.constantLong RX12 76 (-1000000001)) (by decide +kernel)) dX12_at_9 ?_
    refine mq_Vl (As := [.long ((-1000000001))]) (rest := []) (ci := 12) (k0 := 0) ⟨hx, hb, hml, hown, hts⟩ (cM_finds l D ad cI cJ a kp bt sz sheets go ro car ke km fi gm bs bu n1 n2 n3 n4 n5 n6 n7 px py db ((-1000000001)) ) (cwV 1 hts gX12_at_X12_finds rfl rfl rfl (by decide +kernel) ⟨Nat.le_of_ble_eq_true rfl, Nat.le_of_ble_eq_true rfl⟩) rfl rfl hP hK hD hS hA rfl hl.1 rfl (Nat.le_of_ble_eq_true rfl) dX12_at_12 ⟨Nat.le_of_ble_eq_true rfl, Nat.le_of_ble_eq_true rfl⟩ (fun r w1 H locs hq hP hD hS => ?_)
    obtain ⟨rfl, rfl⟩ := hq
    exact hret _ _ _ _ _ _ (Or.inl ⟨c1, rfl, rfl⟩) hP hD hS dX12_at_15
