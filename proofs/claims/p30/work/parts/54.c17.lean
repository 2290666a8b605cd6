/-- how many findings there are behind an answer -/
def tol (f a : Int64) : Int64 := if -1000000000 < a then f else f + 1
theorem sgI_of {v : Int32} (h : sgI v) : ∃ j : Nat, sg j ∧ v = nI j := sg_of h
theorem wd_of {v : Int32} (h : v = nI 0 ∨ v = nI 8 ∨ v = nI 16 ∨ v = nI 32) : ∃ b : Nat, v = nI b ∧ (b = 0 ∨ b = 8 ∨ b = 16 ∨ b = 32) := by
  rcases h with h | h | h | h
  · exact ⟨0, h, Or.inl rfl⟩
  · exact ⟨8, h, Or.inr (Or.inl rfl)⟩
  · exact ⟨16, h, Or.inr (Or.inr (Or.inl rfl))⟩
  · exact ⟨32, h, Or.inr (Or.inr (Or.inr rfl))⟩
set_option maxHeartbeats 4000000 in
set_option maxRecDepth 100000 in
theorem qX11_told (l : Launch) (D : va_G) (cy : Nat → ClassId) (d0 : Nat) (pA : Nat) (np : Nat) (mA : Nat) (nm : Nat) (go0 : Nat) (m0 : Nat) (fQ : Nat) (nf : Nat) (t0 : Nat) (g0 : Nat) (shA : Nat) (pq : Nat) (fnd : Int64) (a : Int64)  : nq_l l D (cT cy) yX11_told wsX11_told 0 0 0 0 [.ref (d0), .long (a)] ([(d0, .inr (11, [.ref (pA), .int (nI (np)), .ref (mA), .int (nI (nm)), .ref (go0), .ref (m0), .ref (fQ), .int (nI (nf)), .ref (t0), .ref (g0), .ref (shA), .ref (pq), .long (fnd)]))]) (fun r w1 => r = a ∧ w1 = [(d0, .inr (11, [.ref (pA), .int (nI (np)), .ref (mA), .int (nI (nm)), .ref (go0), .ref (m0), .ref (fQ), .int (nI (nf)), .ref (t0), .ref (g0), .ref (shA), .ref (pq), .long (tol fnd a)]))]) := by
  refine nq_l_of (cc := cX11_told) (maxL := 3) (by decide) rfl (Nat.le_of_ble_eq_true rfl) ?_
  intro p e s m args below meth c A Q ls hx hb hts hown hml hnm hN hA hP hK hD hS hl hret
  have hown : s.vm.findClass RX11 = some m.cls := hown
  have hinX11 : ∀ w ∈ u_ws RX11 TX11 13, w ∈ wsX11_told := by decide +kernel
  have hl : lv_has ls 3 [(0, .ref (d0)), (1, .long (a))] := hl
  have hP : va_P D vwCl ([(d0, .inr (11, [.ref (pA), .int (nI (np)), .ref (mA), .int (nI (nm)), .ref (go0), .ref (m0), .ref (fQ), .int (nI (nf)), .ref (t0), .ref (g0), .ref (shA), .ref (pq), .long (fnd)]))]) s.heap := hP
  refine lv_lload_n hx hb dX11_told_0 rfl (lv_at hl 1 rfl) ?_
  refine lv_ldc2 (v := (-1000000000)) hx hb hown (hts (.constantLong RX11 335 (-1000000000)) (by decide +kernel)) dX11_told_1 ?_
  refine W.lcmp hx hb dX11_told_4 ?_
  refine lv_if_gt (tgt := 18) hx hb dX11_told_5 (by decide) (fun c1 => ?_) (fun c1 => ?_)
  · refine lv_lload_n hx hb dX11_told_18 rfl (lv_at hl 1 rfl) ?_
    exact hret _ _ _ _ _ _ ⟨rfl, by rw [show tol fnd a = fnd from if_pos (lg_gt.mp c1)]⟩ hP hD hS dX11_told_19
  · refine lv_aload_n hx hb dX11_told_8 rfl (lv_at hl 0 rfl) ?_
    refine lv_dup hx hb dX11_told_9 rfl ?_
    refine va_get (D := D) (ci := 11) (v := .long (fnd)) (C := RX11) (T := TX11) (N := 13) hx hb hts hinX11 hown hK hP 0 rfl rfl 12 (by decide) (hts (.fieldLink RX11 331 "CornDesk" "findings" "J") (by decide +kernel)) (fun _ h9 => h9) rfl dX11_told_10 ?_
    refine lv_lconst (v := 1) hx hb dX11_told_13 (by decide) ?_
    refine lv_ladd hx hb dX11_told_14 ?_
    refine va_put (D := D) (ci := 11) (v := .long ((fnd) + (1))) (ty := .long) (C := RX11) (T := TX11) (N := 13) hx hb hts hinX11 tyX11 tyX11_ok nmX11 hown hK hP hD hS 0 rfl rfl 12 (by decide) (hts (.fieldLink RX11 331 "CornDesk" "findings" "J") (by decide +kernel)) (fun _ h9 => h9) rfl (by decide +kernel) rfl rfl (Nat.le_of_ble_eq_true rfl) dX11_told_15 (fun H locs hP hD hS => ?_)
    have hP : va_P D vwCl ([(d0, .inr (11, [.ref (pA), .int (nI (np)), .ref (mA), .int (nI (nm)), .ref (go0), .ref (m0), .ref (fQ), .int (nI (nf)), .ref (t0), .ref (g0), .ref (shA), .ref (pq), .long ((fnd) + (1))]))]) H := hP
    have hD : va_D A ([(d0, .inr (11, [.ref (pA), .int (nI (np)), .ref (mA), .int (nI (nm)), .ref (go0), .ref (m0), .ref (fQ), .int (nI (nf)), .ref (t0), .ref (g0), .ref (shA), .ref (pq), .long ((fnd) + (1))]))]) := hD
    refine lv_lload_n hx hb dX11_told_18 rfl (lv_at hl 1 rfl) ?_
    exact hret _ _ _ _ _ _ ⟨rfl, by rw [show tol fnd a = fnd + 1 from if_neg (fun h => c1 (lg_gt.mpr h))]⟩ hP hD hS dX11_told_19
set_option maxHeartbeats 4000000 in
set_option maxRecDepth 100000 in
theorem qX11_pictureAt_n (l : Launch) (D : va_G) (cy : Nat → ClassId) (d0 : Nat) (pA : Nat) (np : Nat) (mA : Nat) (nm : Nat) (go0 : Nat) (m0 : Nat) (fQ : Nat) (nf : Nat) (t0 : Nat) (g0 : Nat) (shA : Nat) (pq : Nat) (fnd : Int64) (PA : Nat → Option Nat) (a : Int32) (hno : ¬ ix np a) : nq_r l D (cT cy) yX11_pictureAt wsX11_pictureAt 0 0 0 0 [.ref (d0), .int (a)] ([(d0, .inr (11, [.ref (pA), .int (nI (np)), .ref (mA), .int (nI (nm)), .ref (go0), .ref (m0), .ref (fQ), .int (nI (nf)), .ref (t0), .ref (g0), .ref (shA), .ref (pq), .long (fnd)])), (pA, .inl (cy 3, 6, .inr (.inr (.inr (.inr PA)))))]) (fun r w1 => r = none ∧ w1 = [(d0, .inr (11, [.ref (pA), .int (nI (np)), .ref (mA), .int (nI (nm)), .ref (go0), .ref (m0), .ref (fQ), .int (nI (nf)), .ref (t0), .ref (g0), .ref (shA), .ref (pq), .long (fnd)])), (pA, .inl (cy 3, 6, .inr (.inr (.inr (.inr PA)))))]) := by
  refine nq_r_of (cc := cX11_pictureAt) (maxL := 2) (by decide) rfl (by first | exact Or.inl ⟨_, rfl⟩ | exact Or.inr ⟨_, rfl⟩) (Nat.le_of_ble_eq_true rfl) ?_
  intro p e s m args below meth c A Q ls hx hb hts hown hml hnm hN hA hP hK hD hS hl hret
  have hown : s.vm.findClass RX11 = some m.cls := hown
  have hinX11 : ∀ w ∈ u_ws RX11 TX11 13, w ∈ wsX11_pictureAt := by decide +kernel
  have hl : lv_has ls 2 [(0, .ref (d0)), (1, .int (a))] := hl
  have hP : va_P D vwCl ([(d0, .inr (11, [.ref (pA), .int (nI (np)), .ref (mA), .int (nI (nm)), .ref (go0), .ref (m0), .ref (fQ), .int (nI (nf)), .ref (t0), .ref (g0), .ref (shA), .ref (pq), .long (fnd)])), (pA, .inl (cy 3, 6, .inr (.inr (.inr (.inr PA)))))]) s.heap := hP
  refine lv_iload_n hx hb dX11_pictureAt_0 rfl (lv_at hl 1 rfl) ?_
  refine lv_if_lt (tgt := 30) hx hb dX11_pictureAt_1 (by decide) (fun c1 => ?_) (fun c1 => ?_)
  · refine lv_null hx hb dX11_pictureAt_30 ?_
    exact hret (none) _ _ _ _ _ ⟨rfl, rfl⟩ hP hD hS dX11_pictureAt_31
  · refine lv_iload_n hx hb dX11_pictureAt_4 rfl (lv_at hl 1 rfl) ?_
    refine lv_aload_n hx hb dX11_pictureAt_5 rfl (lv_at hl 0 rfl) ?_
    refine va_get (D := D) (ci := 11) (v := .int (nI (np))) (C := RX11) (T := TX11) (N := 13) hx hb hts hinX11 hown hK hP 0 rfl rfl 1 (by decide) (hts (.fieldLink RX11 69 "CornDesk" "pictureCount" "I") (by decide +kernel)) (fun _ h9 => h9) rfl dX11_pictureAt_6 ?_
    refine lv_icmp_ge (tgt := 30) hx hb dX11_pictureAt_9 (by decide) (fun c2 => ?_) (fun c2 => ?_)
    · refine lv_null hx hb dX11_pictureAt_30 ?_
      exact hret (none) _ _ _ _ _ ⟨rfl, rfl⟩ hP hD hS dX11_pictureAt_31
    · exact absurd (show ix np a from ⟨Int32.not_lt.mp c1, Int32.not_le.mp c2⟩) hno
set_option maxHeartbeats 4000000 in
set_option maxRecDepth 100000 in
theorem qX11_pictureAt_y (l : Launch) (D : va_G) (cy : Nat → ClassId) (d0 : Nat) (pA : Nat) (np : Nat) (mA : Nat) (nm : Nat) (go0 : Nat) (m0 : Nat) (fQ : Nat) (nf : Nat) (t0 : Nat) (g0 : Nat) (shA : Nat) (pq : Nat) (fnd : Int64) (PA : Nat → Option Nat) (i : Nat) (e0 : Nat) (hi : i < np) (hc : np ≤ 6) (hs : PA i = some e0) : nq_r l D (cT cy) yX11_pictureAt wsX11_pictureAt 0 0 0 0 [.ref (d0), .int (nI (i))] ([(d0, .inr (11, [.ref (pA), .int (nI (np)), .ref (mA), .int (nI (nm)), .ref (go0), .ref (m0), .ref (fQ), .int (nI (nf)), .ref (t0), .ref (g0), .ref (shA), .ref (pq), .long (fnd)])), (pA, .inl (cy 3, 6, .inr (.inr (.inr (.inr PA)))))]) (fun r w1 => r = some e0 ∧ w1 = [(d0, .inr (11, [.ref (pA), .int (nI (np)), .ref (mA), .int (nI (nm)), .ref (go0), .ref (m0), .ref (fQ), .int (nI (nf)), .ref (t0), .ref (g0), .ref (shA), .ref (pq), .long (fnd)])), (pA, .inl (cy 3, 6, .inr (.inr (.inr (.inr PA)))))]) := by
  refine nq_r_of (cc := cX11_pictureAt) (maxL := 2) (by decide) rfl (by first | exact Or.inl ⟨_, rfl⟩ | exact Or.inr ⟨_, rfl⟩) (Nat.le_of_ble_eq_true rfl) ?_
  intro p e s m args below meth c A Q ls hx hb hts hown hml hnm hN hA hP hK hD hS hl hret
  have hown : s.vm.findClass RX11 = some m.cls := hown
  have hinX11 : ∀ w ∈ u_ws RX11 TX11 13, w ∈ wsX11_pictureAt := by decide +kernel
  have hl : lv_has ls 2 [(0, .ref (d0)), (1, .int (nI (i)))] := hl
  have hP : va_P D vwCl ([(d0, .inr (11, [.ref (pA), .int (nI (np)), .ref (mA), .int (nI (nm)), .ref (go0), .ref (m0), .ref (fQ), .int (nI (nf)), .ref (t0), .ref (g0), .ref (shA), .ref (pq), .long (fnd)])), (pA, .inl (cy 3, 6, .inr (.inr (.inr (.inr PA)))))]) s.heap := hP
  refine lv_iload_n hx hb dX11_pictureAt_0 rfl (lv_at hl 1 rfl) ?_
  refine lv_if_lt (tgt := 30) hx hb dX11_pictureAt_1 (by decide) (fun c1 => ?_) (fun c1 => ?_)
  · exact absurd c1 (nI_pos (by omega))
  · refine lv_iload_n hx hb dX11_pictureAt_4 rfl (lv_at hl 1 rfl) ?_
    refine lv_aload_n hx hb dX11_pictureAt_5 rfl (lv_at hl 0 rfl) ?_
    refine va_get (D := D) (ci := 11) (v := .int (nI (np))) (C := RX11) (T := TX11) (N := 13) hx hb hts hinX11 hown hK hP 0 rfl rfl 1 (by decide) (hts (.fieldLink RX11 69 "CornDesk" "pictureCount" "I") (by decide +kernel)) (fun _ h9 => h9) rfl dX11_pictureAt_6 ?_
    refine ln_icmp_ge (tgt := 30) hx hb dX11_pictureAt_9 (by decide) (by omega) (by omega) (fun c2 => ?_) (fun c2 => ?_)
    · exact absurd c2 (by omega)
    · refine lv_iload_n hx hb dX11_pictureAt_12 rfl (lv_at hl 1 rfl) ?_
      refine lv_aload_n hx hb dX11_pictureAt_13 rfl (lv_at hl 0 rfl) ?_
      refine va_get (D := D) (ci := 11) (v := .ref (pA)) (C := RX11) (T := TX11) (N := 13) hx hb hts hinX11 hown hK hP 0 rfl rfl 0 (by decide) (hts (.fieldLink RX11 11 "CornDesk" "pictures" "[LCornDesk$Picture;") (by decide +kernel)) (fun _ h9 => h9) rfl dX11_pictureAt_14 ?_
      refine va_alen hx hb hK hP 1 3 rfl rfl (v := nI 6) rfl dX11_pictureAt_17 ?_
      refine ln_icmp_ge (tgt := 30) hx hb dX11_pictureAt_18 (by decide) (by omega) (by omega) (fun c3 => ?_) (fun c3 => ?_)
      · exact absurd c3 (by omega)
      · refine lv_aload_n hx hb dX11_pictureAt_21 rfl (lv_at hl 0 rfl) ?_
        refine va_get (D := D) (ci := 11) (v := .ref (pA)) (C := RX11) (T := TX11) (N := 13) hx hb hts hinX11 hown hK hP 0 rfl rfl 0 (by decide) (hts (.fieldLink RX11 11 "CornDesk" "pictures" "[LCornDesk$Picture;") (by decide +kernel)) (fun _ h9 => h9) rfl dX11_pictureAt_22 ?_
        refine lv_iload_n hx hb dX11_pictureAt_25 rfl (lv_at hl 1 rfl) ?_
        refine ln_aald (v := some (e0)) hx hb hK hP 1 3 rfl rfl (by decide) (by omega) hs dX11_pictureAt_26 ?_
        refine W.eq (g2 := F0 m 27 ls [.ref (e0)]) rfl ?_
        refine lv_goto (tgt := 31) hx hb dX11_pictureAt_27 (by decide) ?_
        exact hret (some e0) _ _ _ _ _ ⟨rfl, rfl⟩ hP hD hS dX11_pictureAt_31
set_option maxHeartbeats 4000000 in
set_option maxRecDepth 100000 in
theorem qX11_markAt_n (l : Launch) (D : va_G) (cy : Nat → ClassId) (d0 : Nat) (pA : Nat) (np : Nat) (mA : Nat) (nm : Nat) (go0 : Nat) (m0 : Nat) (fQ : Nat) (nf : Nat) (t0 : Nat) (g0 : Nat) (shA : Nat) (pq : Nat) (fnd : Int64) (MA : Nat → Option Nat) (a : Int32) (hno : ¬ ix nm a) : nq_r l D (cT cy) yX11_markAt wsX11_markAt 0 0 0 0 [.ref (d0), .int (a)] ([(d0, .inr (11, [.ref (pA), .int (nI (np)), .ref (mA), .int (nI (nm)), .ref (go0), .ref (m0), .ref (fQ), .int (nI (nf)), .ref (t0), .ref (g0), .ref (shA), .ref (pq), .long (fnd)])), (mA, .inl (cy 4, 20, .inr (.inr (.inr (.inr MA)))))]) (fun r w1 => r = none ∧ w1 = [(d0, .inr (11, [.ref (pA), .int (nI (np)), .ref (mA), .int (nI (nm)), .ref (go0), .ref (m0), .ref (fQ), .int (nI (nf)), .ref (t0), .ref (g0), .ref (shA), .ref (pq), .long (fnd)])), (mA, .inl (cy 4, 20, .inr (.inr (.inr (.inr MA)))))]) := by
  refine nq_r_of (cc := cX11_markAt) (maxL := 2) (by decide) rfl (by first | exact Or.inl ⟨_, rfl⟩ | exact Or.inr ⟨_, rfl⟩) (Nat.le_of_ble_eq_true rfl) ?_
  intro p e s m args below meth c A Q ls hx hb hts hown hml hnm hN hA hP hK hD hS hl hret
  have hown : s.vm.findClass RX11 = some m.cls := hown
  have hinX11 : ∀ w ∈ u_ws RX11 TX11 13, w ∈ wsX11_markAt := by decide +kernel
  have hl : lv_has ls 2 [(0, .ref (d0)), (1, .int (a))] := hl
  have hP : va_P D vwCl ([(d0, .inr (11, [.ref (pA), .int (nI (np)), .ref (mA), .int (nI (nm)), .ref (go0), .ref (m0), .ref (fQ), .int (nI (nf)), .ref (t0), .ref (g0), .ref (shA), .ref (pq), .long (fnd)])), (mA, .inl (cy 4, 20, .inr (.inr (.inr (.inr MA)))))]) s.heap := hP
  refine lv_iload_n hx hb dX11_markAt_0 rfl (lv_at hl 1 rfl) ?_
  refine lv_if_lt (tgt := 30) hx hb dX11_markAt_1 (by decide) (fun c1 => ?_) (fun c1 => ?_)
  · refine lv_null hx hb dX11_markAt_30 ?_
    exact hret (none) _ _ _ _ _ ⟨rfl, rfl⟩ hP hD hS dX11_markAt_31
  · refine lv_iload_n hx hb dX11_markAt_4 rfl (lv_at hl 1 rfl) ?_
    refine lv_aload_n hx hb dX11_markAt_5 rfl (lv_at hl 0 rfl) ?_
    refine va_get (D := D) (ci := 11) (v := .int (nI (nm))) (C := RX11) (T := TX11) (N := 13) hx hb hts hinX11 hown hK hP 0 rfl rfl 3 (by decide) (hts (.fieldLink RX11 151 "CornDesk" "markCount" "I") (by decide +kernel)) (fun _ h9 => h9) rfl dX11_markAt_6 ?_
    refine lv_icmp_ge (tgt := 30) hx hb dX11_markAt_9 (by decide) (fun c2 => ?_) (fun c2 => ?_)
    · refine lv_null hx hb dX11_markAt_30 ?_
      exact hret (none) _ _ _ _ _ ⟨rfl, rfl⟩ hP hD hS dX11_markAt_31
    · exact absurd (show ix nm a from ⟨Int32.not_lt.mp c1, Int32.not_le.mp c2⟩) hno
set_option maxHeartbeats 4000000 in
set_option maxRecDepth 100000 in
theorem qX11_markAt_y (l : Launch) (D : va_G) (cy : Nat → ClassId) (d0 : Nat) (pA : Nat) (np : Nat) (mA : Nat) (nm : Nat) (go0 : Nat) (m0 : Nat) (fQ : Nat) (nf : Nat) (t0 : Nat) (g0 : Nat) (shA : Nat) (pq : Nat) (fnd : Int64) (MA : Nat → Option Nat) (i : Nat) (e0 : Nat) (hi : i < nm) (hc : nm ≤ 20) (hs : MA i = some e0) : nq_r l D (cT cy) yX11_markAt wsX11_markAt 0 0 0 0 [.ref (d0), .int (nI (i))] ([(d0, .inr (11, [.ref (pA), .int (nI (np)), .ref (mA), .int (nI (nm)), .ref (go0), .ref (m0), .ref (fQ), .int (nI (nf)), .ref (t0), .ref (g0), .ref (shA), .ref (pq), .long (fnd)])), (mA, .inl (cy 4, 20, .inr (.inr (.inr (.inr MA)))))]) (fun r w1 => r = some e0 ∧ w1 = [(d0, .inr (11, [.ref (pA), .int (nI (np)), .ref (mA), .int (nI (nm)), .ref (go0), .ref (m0), .ref (fQ), .int (nI (nf)), .ref (t0), .ref (g0), .ref (shA), .ref (pq), .long (fnd)])), (mA, .inl (cy 4, 20, .inr (.inr (.inr (.inr MA)))))]) := by
  refine nq_r_of (cc := cX11_markAt) (maxL := 2) (by decide) rfl (by first | exact Or.inl ⟨_, rfl⟩ | exact Or.inr ⟨_, rfl⟩) (Nat.le_of_ble_eq_true rfl) ?_
  intro p e s m args below meth c A Q ls hx hb hts hown hml hnm hN hA hP hK hD hS hl hret
  have hown : s.vm.findClass RX11 = some m.cls := hown
  have hinX11 : ∀ w ∈ u_ws RX11 TX11 13, w ∈ wsX11_markAt := by decide +kernel
  have hl : lv_has ls 2 [(0, .ref (d0)), (1, .int (nI (i)))] := hl
  have hP : va_P D vwCl ([(d0, .inr (11, [.ref (pA), .int (nI (np)), .ref (mA), .int (nI (nm)), .ref (go0), .ref (m0), .ref (fQ), .int (nI (nf)), .ref (t0), .ref (g0), .ref (shA), .ref (pq), .long (fnd)])), (mA, .inl (cy 4, 20, .inr (.inr (.inr (.inr MA)))))]) s.heap := hP
  refine lv_iload_n hx hb dX11_markAt_0 rfl (lv_at hl 1 rfl) ?_
  refine lv_if_lt (tgt := 30) hx hb dX11_markAt_1 (by decide) (fun c1 => ?_) (fun c1 => ?_)
  · exact absurd c1 (nI_pos (by omega))
  · refine lv_iload_n hx hb dX11_markAt_4 rfl (lv_at hl 1 rfl) ?_
    refine lv_aload_n hx hb dX11_markAt_5 rfl (lv_at hl 0 rfl) ?_
    refine va_get (D := D) (ci := 11) (v := .int (nI (nm))) (C := RX11) (T := TX11) (N := 13) hx hb hts hinX11 hown hK hP 0 rfl rfl 3 (by decide) (hts (.fieldLink RX11 151 "CornDesk" "markCount" "I") (by decide +kernel)) (fun _ h9 => h9) rfl dX11_markAt_6 ?_
    refine ln_icmp_ge (tgt := 30) hx hb dX11_markAt_9 (by decide) (by omega) (by omega) (fun c2 => ?_) (fun c2 => ?_)
    · exact absurd c2 (by omega)
    · refine lv_iload_n hx hb dX11_markAt_12 rfl (lv_at hl 1 rfl) ?_
      refine lv_aload_n hx hb dX11_markAt_13 rfl (lv_at hl 0 rfl) ?_
      refine va_get (D := D) (ci := 11) (v := .ref (mA)) (C := RX11) (T := TX11) (N := 13) hx hb hts hinX11 hown hK hP 0 rfl rfl 2 (by decide) (hts (.fieldLink RX11 17 "CornDesk" "marks" "[LCornDesk$Mark;") (by decide +kernel)) (fun _ h9 => h9) rfl dX11_markAt_14 ?_
      refine va_alen hx hb hK hP 1 4 rfl rfl (v := nI 20) rfl dX11_markAt_17 ?_
      refine ln_icmp_ge (tgt := 30) hx hb dX11_markAt_18 (by decide) (by omega) (by omega) (fun c3 => ?_) (fun c3 => ?_)
      · exact absurd c3 (by omega)
      · refine lv_aload_n hx hb dX11_markAt_21 rfl (lv_at hl 0 rfl) ?_
        refine va_get (D := D) (ci := 11) (v := .ref (mA)) (C := RX11) (T := TX11) (N := 13) hx hb hts hinX11 hown hK hP 0 rfl rfl 2 (by decide) (hts (.fieldLink RX11 17 "CornDesk" "marks" "[LCornDesk$Mark;") (by decide +kernel)) (fun _ h9 => h9) rfl dX11_markAt_22 ?_
        refine lv_iload_n hx hb dX11_markAt_25 rfl (lv_at hl 1 rfl) ?_
        refine ln_aald (v := some (e0)) hx hb hK hP 1 4 rfl rfl (by decide) (by omega) hs dX11_markAt_26 ?_
        refine W.eq (g2 := F0 m 27 ls [.ref (e0)]) rfl ?_
        refine lv_goto (tgt := 31) hx hb dX11_markAt_27 (by decide) ?_
        exact hret (some e0) _ _ _ _ _ ⟨rfl, rfl⟩ hP hD hS dX11_markAt_31
set_option maxHeartbeats 4000000 in
set_option maxRecDepth 100000 in
theorem qX11_fieldAt_n (l : Launch) (D : va_G) (cy : Nat → ClassId) (d0 : Nat) (pA : Nat) (np : Nat) (mA : Nat) (nm : Nat) (go0 : Nat) (m0 : Nat) (fQ : Nat) (nf : Nat) (t0 : Nat) (g0 : Nat) (shA : Nat) (pq : Nat) (fnd : Int64) (FQ : Nat → Option Nat) (a : Int32) (hno : ¬ ix nf a) : nq_r l D (cT cy) yX11_fieldAt wsX11_fieldAt 0 0 0 0 [.ref (d0), .int (a)] ([(d0, .inr (11, [.ref (pA), .int (nI (np)), .ref (mA), .int (nI (nm)), .ref (go0), .ref (m0), .ref (fQ), .int (nI (nf)), .ref (t0), .ref (g0), .ref (shA), .ref (pq), .long (fnd)])), (fQ, .inl (cy 5, 8, .inr (.inr (.inr (.inr FQ)))))]) (fun r w1 => r = none ∧ w1 = [(d0, .inr (11, [.ref (pA), .int (nI (np)), .ref (mA), .int (nI (nm)), .ref (go0), .ref (m0), .ref (fQ), .int (nI (nf)), .ref (t0), .ref (g0), .ref (shA), .ref (pq), .long (fnd)])), (fQ, .inl (cy 5, 8, .inr (.inr (.inr (.inr FQ)))))]) := by
  refine nq_r_of (cc := cX11_fieldAt) (maxL := 2) (by decide) rfl (by first | exact Or.inl ⟨_, rfl⟩ | exact Or.inr ⟨_, rfl⟩) (Nat.le_of_ble_eq_true rfl) ?_
  intro p e s m args below meth c A Q ls hx hb hts hown hml hnm hN hA hP hK hD hS hl hret
  have hown : s.vm.findClass RX11 = some m.cls := hown
  have hinX11 : ∀ w ∈ u_ws RX11 TX11 13, w ∈ wsX11_fieldAt := by decide +kernel
  have hl : lv_has ls 2 [(0, .ref (d0)), (1, .int (a))] := hl
  have hP : va_P D vwCl ([(d0, .inr (11, [.ref (pA), .int (nI (np)), .ref (mA), .int (nI (nm)), .ref (go0), .ref (m0), .ref (fQ), .int (nI (nf)), .ref (t0), .ref (g0), .ref (shA), .ref (pq), .long (fnd)])), (fQ, .inl (cy 5, 8, .inr (.inr (.inr (.inr FQ)))))]) s.heap := hP
  refine lv_iload_n hx hb dX11_fieldAt_0 rfl (lv_at hl 1 rfl) ?_
  refine lv_if_lt (tgt := 30) hx hb dX11_fieldAt_1 (by decide) (fun c1 => ?_) (fun c1 => ?_)
  · refine lv_null hx hb dX11_fieldAt_30 ?_
    exact hret (none) _ _ _ _ _ ⟨rfl, rfl⟩ hP hD hS dX11_fieldAt_31
  · refine lv_iload_n hx hb dX11_fieldAt_4 rfl (lv_at hl 1 rfl) ?_
    refine lv_aload_n hx hb dX11_fieldAt_5 rfl (lv_at hl 0 rfl) ?_
    refine va_get (D := D) (ci := 11) (v := .int (nI (nf))) (C := RX11) (T := TX11) (N := 13) hx hb hts hinX11 hown hK hP 0 rfl rfl 7 (by decide) (hts (.fieldLink RX11 233 "CornDesk" "fieldCount" "I") (by decide +kernel)) (fun _ h9 => h9) rfl dX11_fieldAt_6 ?_
    refine lv_icmp_ge (tgt := 30) hx hb dX11_fieldAt_9 (by decide) (fun c2 => ?_) (fun c2 => ?_)
    · refine lv_null hx hb dX11_fieldAt_30 ?_
      exact hret (none) _ _ _ _ _ ⟨rfl, rfl⟩ hP hD hS dX11_fieldAt_31
    · exact absurd (show ix nf a from ⟨Int32.not_lt.mp c1, Int32.not_le.mp c2⟩) hno
set_option maxHeartbeats 4000000 in
set_option maxRecDepth 100000 in
theorem qX11_fieldAt_y (l : Launch) (D : va_G) (cy : Nat → ClassId) (d0 : Nat) (pA : Nat) (np : Nat) (mA : Nat) (nm : Nat) (go0 : Nat) (m0 : Nat) (fQ : Nat) (nf : Nat) (t0 : Nat) (g0 : Nat) (shA : Nat) (pq : Nat) (fnd : Int64) (FQ : Nat → Option Nat) (i : Nat) (e0 : Nat) (hi : i < nf) (hc : nf ≤ 8) (hs : FQ i = some e0) : nq_r l D (cT cy) yX11_fieldAt wsX11_fieldAt 0 0 0 0 [.ref (d0), .int (nI (i))] ([(d0, .inr (11, [.ref (pA), .int (nI (np)), .ref (mA), .int (nI (nm)), .ref (go0), .ref (m0), .ref (fQ), .int (nI (nf)), .ref (t0), .ref (g0), .ref (shA), .ref (pq), .long (fnd)])), (fQ, .inl (cy 5, 8, .inr (.inr (.inr (.inr FQ)))))]) (fun r w1 => r = some e0 ∧ w1 = [(d0, .inr (11, [.ref (pA), .int (nI (np)), .ref (mA), .int (nI (nm)), .ref (go0), .ref (m0), .ref (fQ), .int (nI (nf)), .ref (t0), .ref (g0), .ref (shA), .ref (pq), .long (fnd)])), (fQ, .inl (cy 5, 8, .inr (.inr (.inr (.inr FQ)))))]) := by
  refine nq_r_of (cc := cX11_fieldAt) (maxL := 2) (by decide) rfl (by first | exact Or.inl ⟨_, rfl⟩ | exact Or.inr ⟨_, rfl⟩) (Nat.le_of_ble_eq_true rfl) ?_
  intro p e s m args below meth c A Q ls hx hb hts hown hml hnm hN hA hP hK hD hS hl hret
  have hown : s.vm.findClass RX11 = some m.cls := hown
  have hinX11 : ∀ w ∈ u_ws RX11 TX11 13, w ∈ wsX11_fieldAt := by decide +kernel
  have hl : lv_has ls 2 [(0, .ref (d0)), (1, .int (nI (i)))] := hl
  have hP : va_P D vwCl ([(d0, .inr (11, [.ref (pA), .int (nI (np)), .ref (mA), .int (nI (nm)), .ref (go0), .ref (m0), .ref (fQ), .int (nI (nf)), .ref (t0), .ref (g0), .ref (shA), .ref (pq), .long (fnd)])), (fQ, .inl (cy 5, 8, .inr (.inr (.inr (.inr FQ)))))]) s.heap := hP
  refine lv_iload_n hx hb dX11_fieldAt_0 rfl (lv_at hl 1 rfl) ?_
  refine lv_if_lt (tgt := 30) hx hb dX11_fieldAt_1 (by decide) (fun c1 => ?_) (fun c1 => ?_)
  · exact absurd c1 (nI_pos (by omega))
  · refine lv_iload_n hx hb dX11_fieldAt_4 rfl (lv_at hl 1 rfl) ?_
    refine lv_aload_n hx hb dX11_fieldAt_5 rfl (lv_at hl 0 rfl) ?_
    refine va_get (D := D) (ci := 11) (v := .int (nI (nf))) (C := RX11) (T := TX11) (N := 13) hx hb hts hinX11 hown hK hP 0 rfl rfl 7 (by decide) (hts (.fieldLink RX11 233 "CornDesk" "fieldCount" "I") (by decide +kernel)) (fun _ h9 => h9) rfl dX11_fieldAt_6 ?_
    refine ln_icmp_ge (tgt := 30) hx hb dX11_fieldAt_9 (by decide) (by omega) (by omega) (fun c2 => ?_) (fun c2 => ?_)
    · exact absurd c2 (by omega)
    · refine lv_iload_n hx hb dX11_fieldAt_12 rfl (lv_at hl 1 rfl) ?_
      refine lv_aload_n hx hb dX11_fieldAt_13 rfl (lv_at hl 0 rfl) ?_
      refine va_get (D := D) (ci := 11) (v := .ref (fQ)) (C := RX11) (T := TX11) (N := 13) hx hb hts hinX11 hown hK hP 0 rfl rfl 6 (by decide) (hts (.fieldLink RX11 37 "CornDesk" "fields" "[LCornDesk$Field;") (by decide +kernel)) (fun _ h9 => h9) rfl dX11_fieldAt_14 ?_
      refine va_alen hx hb hK hP 1 5 rfl rfl (v := nI 8) rfl dX11_fieldAt_17 ?_
      refine ln_icmp_ge (tgt := 30) hx hb dX11_fieldAt_18 (by decide) (by omega) (by omega) (fun c3 => ?_) (fun c3 => ?_)
      · exact absurd c3 (by omega)
      · refine lv_aload_n hx hb dX11_fieldAt_21 rfl (lv_at hl 0 rfl) ?_
        refine va_get (D := D) (ci := 11) (v := .ref (fQ)) (C := RX11) (T := TX11) (N := 13) hx hb hts hinX11 hown hK hP 0 rfl rfl 6 (by decide) (hts (.fieldLink RX11 37 "CornDesk" "fields" "[LCornDesk$Field;") (by decide +kernel)) (fun _ h9 => h9) rfl dX11_fieldAt_22 ?_
        refine lv_iload_n hx hb dX11_fieldAt_25 rfl (lv_at hl 1 rfl) ?_
        refine ln_aald (v := some (e0)) hx hb hK hP 1 5 rfl rfl (by decide) (by omega) hs dX11_fieldAt_26 ?_
        refine W.eq (g2 := F0 m 27 ls [.ref (e0)]) rfl ?_
        refine lv_goto (tgt := 31) hx hb dX11_fieldAt_27 (by decide) ?_
        exact hret (some e0) _ _ _ _ _ ⟨rfl, rfl⟩ hP hD hS dX11_fieldAt_31
set_option maxHeartbeats 4000000 in
set_option maxRecDepth 100000 in
theorem qX11_sheetAt_n (l : Launch) (D : va_G) (cy : Nat → ClassId) (d0 : Nat) (pA : Nat) (np : Nat) (mA : Nat) (nm : Nat) (go0 : Nat) (m0 : Nat) (fQ : Nat) (nf : Nat) (t0 : Nat) (g0 : Nat) (shA : Nat) (pq : Nat) (fnd : Int64) (HA : Nat → Option Nat) (a : Int32) (hno : ¬ ix 4 a) : nq_r l D (cT cy) yX11_sheetAt wsX11_sheetAt 0 0 0 0 [.ref (d0), .int (a)] ([(d0, .inr (11, [.ref (pA), .int (nI (np)), .ref (mA), .int (nI (nm)), .ref (go0), .ref (m0), .ref (fQ), .int (nI (nf)), .ref (t0), .ref (g0), .ref (shA), .ref (pq), .long (fnd)])), (shA, .inl (cy 6, 4, .inr (.inr (.inr (.inr HA)))))]) (fun r w1 => r = none ∧ w1 = [(d0, .inr (11, [.ref (pA), .int (nI (np)), .ref (mA), .int (nI (nm)), .ref (go0), .ref (m0), .ref (fQ), .int (nI (nf)), .ref (t0), .ref (g0), .ref (shA), .ref (pq), .long (fnd)])), (shA, .inl (cy 6, 4, .inr (.inr (.inr (.inr HA)))))]) := by
  refine nq_r_of (cc := cX11_sheetAt) (maxL := 2) (by decide) rfl (by first | exact Or.inl ⟨_, rfl⟩ | exact Or.inr ⟨_, rfl⟩) (Nat.le_of_ble_eq_true rfl) ?_
  intro p e s m args below meth c A Q ls hx hb hts hown hml hnm hN hA hP hK hD hS hl hret
  have hown : s.vm.findClass RX11 = some m.cls := hown
  have hinX11 : ∀ w ∈ u_ws RX11 TX11 13, w ∈ wsX11_sheetAt := by decide +kernel
  have hl : lv_has ls 2 [(0, .ref (d0)), (1, .int (a))] := hl
  have hP : va_P D vwCl ([(d0, .inr (11, [.ref (pA), .int (nI (np)), .ref (mA), .int (nI (nm)), .ref (go0), .ref (m0), .ref (fQ), .int (nI (nf)), .ref (t0), .ref (g0), .ref (shA), .ref (pq), .long (fnd)])), (shA, .inl (cy 6, 4, .inr (.inr (.inr (.inr HA)))))]) s.heap := hP
  refine lv_iload_n hx hb dX11_sheetAt_0 rfl (lv_at hl 1 rfl) ?_
  refine lv_if_lt (tgt := 22) hx hb dX11_sheetAt_1 (by decide) (fun c1 => ?_) (fun c1 => ?_)
  · refine lv_null hx hb dX11_sheetAt_22 ?_
    exact hret (none) _ _ _ _ _ ⟨rfl, rfl⟩ hP hD hS dX11_sheetAt_23
  · refine lv_iload_n hx hb dX11_sheetAt_4 rfl (lv_at hl 1 rfl) ?_
    refine lv_aload_n hx hb dX11_sheetAt_5 rfl (lv_at hl 0 rfl) ?_
    refine va_get (D := D) (ci := 11) (v := .ref (shA)) (C := RX11) (T := TX11) (N := 13) hx hb hts hinX11 hown hK hP 0 rfl rfl 10 (by decide) (hts (.fieldLink RX11 57 "CornDesk" "sheets" "[LCornDesk$Sheet;") (by decide +kernel)) (fun _ h9 => h9) rfl dX11_sheetAt_6 ?_
    refine va_alen hx hb hK hP 1 6 rfl rfl (v := nI 4) rfl dX11_sheetAt_9 ?_
    refine lv_icmp_ge (tgt := 22) hx hb dX11_sheetAt_10 (by decide) (fun c2 => ?_) (fun c2 => ?_)
    · refine lv_null hx hb dX11_sheetAt_22 ?_
      exact hret (none) _ _ _ _ _ ⟨rfl, rfl⟩ hP hD hS dX11_sheetAt_23
    · exact absurd (show ix 4 a from ⟨Int32.not_lt.mp c1, Int32.not_le.mp c2⟩) hno
set_option maxHeartbeats 4000000 in
set_option maxRecDepth 100000 in
theorem qX11_sheetAt_y (l : Launch) (D : va_G) (cy : Nat → ClassId) (d0 : Nat) (pA : Nat) (np : Nat) (mA : Nat) (nm : Nat) (go0 : Nat) (m0 : Nat) (fQ : Nat) (nf : Nat) (t0 : Nat) (g0 : Nat) (shA : Nat) (pq : Nat) (fnd : Int64) (HA : Nat → Option Nat) (i : Nat) (e0 : Nat) (hi : i < 4) (hs : HA i = some e0) : nq_r l D (cT cy) yX11_sheetAt wsX11_sheetAt 0 0 0 0 [.ref (d0), .int (nI (i))] ([(d0, .inr (11, [.ref (pA), .int (nI (np)), .ref (mA), .int (nI (nm)), .ref (go0), .ref (m0), .ref (fQ), .int (nI (nf)), .ref (t0), .ref (g0), .ref (shA), .ref (pq), .long (fnd)])), (shA, .inl (cy 6, 4, .inr (.inr (.inr (.inr HA)))))]) (fun r w1 => r = some e0 ∧ w1 = [(d0, .inr (11, [.ref (pA), .int (nI (np)), .ref (mA), .int (nI (nm)), .ref (go0), .ref (m0), .ref (fQ), .int (nI (nf)), .ref (t0), .ref (g0), .ref (shA), .ref (pq), .long (fnd)])), (shA, .inl (cy 6, 4, .inr (.inr (.inr (.inr HA)))))]) := by
  refine nq_r_of (cc := cX11_sheetAt) (maxL := 2) (by decide) rfl (by first | exact Or.inl ⟨_, rfl⟩ | exact Or.inr ⟨_, rfl⟩) (Nat.le_of_ble_eq_true rfl) ?_
  intro p e s m args below meth c A Q ls hx hb hts hown hml hnm hN hA hP hK hD hS hl hret
  have hown : s.vm.findClass RX11 = some m.cls := hown
  have hinX11 : ∀ w ∈ u_ws RX11 TX11 13, w ∈ wsX11_sheetAt := by decide +kernel
  have hl : lv_has ls 2 [(0, .ref (d0)), (1, .int (nI (i)))] := hl
  have hP : va_P D vwCl ([(d0, .inr (11, [.ref (pA), .int (nI (np)), .ref (mA), .int (nI (nm)), .ref (go0), .ref (m0), .ref (fQ), .int (nI (nf)), .ref (t0), .ref (g0), .ref (shA), .ref (pq), .long (fnd)])), (shA, .inl (cy 6, 4, .inr (.inr (.inr (.inr HA)))))]) s.heap := hP
  refine lv_iload_n hx hb dX11_sheetAt_0 rfl (lv_at hl 1 rfl) ?_
  refine lv_if_lt (tgt := 22) hx hb dX11_sheetAt_1 (by decide) (fun c1 => ?_) (fun c1 => ?_)
  · exact absurd c1 (nI_pos (by omega))
  · refine lv_iload_n hx hb dX11_sheetAt_4 rfl (lv_at hl 1 rfl) ?_
    refine lv_aload_n hx hb dX11_sheetAt_5 rfl (lv_at hl 0 rfl) ?_
    refine va_get (D := D) (ci := 11) (v := .ref (shA)) (C := RX11) (T := TX11) (N := 13) hx hb hts hinX11 hown hK hP 0 rfl rfl 10 (by decide) (hts (.fieldLink RX11 57 "CornDesk" "sheets" "[LCornDesk$Sheet;") (by decide +kernel)) (fun _ h9 => h9) rfl dX11_sheetAt_6 ?_
    refine va_alen hx hb hK hP 1 6 rfl rfl (v := nI 4) rfl dX11_sheetAt_9 ?_
    refine ln_icmp_ge (tgt := 22) hx hb dX11_sheetAt_10 (by decide) (by omega) (by omega) (fun c2 => ?_) (fun c2 => ?_)
    · exact absurd c2 (by omega)
    · refine lv_aload_n hx hb dX11_sheetAt_13 rfl (lv_at hl 0 rfl) ?_
      refine va_get (D := D) (ci := 11) (v := .ref (shA)) (C := RX11) (T := TX11) (N := 13) hx hb hts hinX11 hown hK hP 0 rfl rfl 10 (by decide) (hts (.fieldLink RX11 57 "CornDesk" "sheets" "[LCornDesk$Sheet;") (by decide +kernel)) (fun _ h9 => h9) rfl dX11_sheetAt_14 ?_
      refine lv_iload_n hx hb dX11_sheetAt_17 rfl (lv_at hl 1 rfl) ?_
      refine ln_aald (v := some (e0)) hx hb hK hP 1 6 rfl rfl (by decide) (by omega) hs dX11_sheetAt_18 ?_
      refine W.eq (g2 := F0 m 19 ls [.ref (e0)]) rfl ?_
      refine lv_goto (tgt := 23) hx hb dX11_sheetAt_19 (by decide) ?_
      exact hret (some e0) _ _ _ _ _ ⟨rfl, rfl⟩ hP hD hS dX11_sheetAt_23
set_option maxHeartbeats 4000000 in
set_option maxRecDepth 100000 in
theorem qX11_place_n (l : Launch) (D : va_G) (cy : Nat → ClassId) (d0 : Nat) (pA : Nat) (np : Nat) (mA : Nat) (nm : Nat) (go0 : Nat) (m0 : Nat) (fQ : Nat) (nf : Nat) (t0 : Nat) (g0 : Nat) (shA : Nat) (pq : Nat) (fnd : Int64) (PA : Nat → Option Nat) (a : Int32) (x1 : Int32) (x2 : Int32) (x3 : Int32) (x4 : Int32) (hno : ¬ ix np a) : nq_l l D (cT cy) yX11_place wsX11_place 1 0 0 22 [.ref (d0), .int (a), .int (x1), .int (x2), .int (x3), .int (x4)] ([(d0, .inr (11, [.ref (pA), .int (nI (np)), .ref (mA), .int (nI (nm)), .ref (go0), .ref (m0), .ref (fQ), .int (nI (nf)), .ref (t0), .ref (g0), .ref (shA), .ref (pq), .long (fnd)])), (pA, .inl (cy 3, 6, .inr (.inr (.inr (.inr PA)))))]) (fun r w1 => r = -1000000001 ∧ w1 = [(d0, .inr (11, [.ref (pA), .int (nI (np)), .ref (mA), .int (nI (nm)), .ref (go0), .ref (m0), .ref (fQ), .int (nI (nf)), .ref (t0), .ref (g0), .ref (shA), .ref (pq), .long (tol fnd (-1000000001))])), (pA, .inl (cy 3, 6, .inr (.inr (.inr (.inr PA)))))]) := by
  refine nq_l_of (cc := cX11_place) (maxL := 7) (by decide) rfl (Nat.le_of_ble_eq_true rfl) ?_
  intro p e s m args below meth c A Q ls hx hb hts hown hml hnm hN hA hP hK hD hS hl hret
  have hown : s.vm.findClass RX11 = some m.cls := hown
  have hl : lv_has ls 7 [(0, .ref (d0)), (1, .int (a)), (2, .int (x1)), (3, .int (x2)), (4, .int (x3)), (5, .int (x4))] := hl
  have hP : va_P D vwCl ([(d0, .inr (11, [.ref (pA), .int (nI (np)), .ref (mA), .int (nI (nm)), .ref (go0), .ref (m0), .ref (fQ), .int (nI (nf)), .ref (t0), .ref (g0), .ref (shA), .ref (pq), .long (fnd)])), (pA, .inl (cy 3, 6, .inr (.inr (.inr (.inr PA)))))]) s.heap := hP
  refine lv_aload_n hx hb dX11_place_0 rfl (lv_at hl 0 rfl) ?_
  refine lv_iload_n hx hb dX11_place_1 rfl (lv_at hl 1 rfl) ?_
  refine nq_Vr (As := [.int (a)]) (rest := []) (w := [(d0, .inr (11, [.ref (pA), .int (nI (np)), .ref (mA), .int (nI (nm)), .ref (go0), .ref (m0), .ref (fQ), .int (nI (nf)), .ref (t0), .ref (g0), .ref (shA), .ref (pq), .long (fnd)])), (pA, .inl (cy 3, 6, .inr (.inr (.inr (.inr PA)))))]) (wr := []) (ci := 11) (k0 := 0) ⟨hx, hb, hml, hown, hts⟩ (qX11_pictureAt_n l D cy d0 pA np mA nm go0 m0 fQ nf t0 g0 shA pq fnd PA (a) hno) (cwV 1 hts gX11_place_X11_pictureAt rfl rfl rfl (by decide +kernel) ⟨Nat.le_of_ble_eq_true rfl, Nat.le_of_ble_eq_true rfl⟩) rfl rfl hP hK hD hN hS hA rfl hl.1 rfl (Nat.le_of_ble_eq_true rfl) dX11_place_2 ⟨Nat.le_of_ble_eq_true rfl, Nat.le_of_ble_eq_true rfl⟩ (fun r w1 H locs hq hP hD hS => ?_)
  obtain ⟨rfl, rfl⟩ := hq
  have hP : va_P D vwCl ([(d0, .inr (11, [.ref (pA), .int (nI (np)), .ref (mA), .int (nI (nm)), .ref (go0), .ref (m0), .ref (fQ), .int (nI (nf)), .ref (t0), .ref (g0), .ref (shA), .ref (pq), .long (fnd)])), (pA, .inl (cy 3, 6, .inr (.inr (.inr (.inr PA)))))]) H := hP
  have hD : va_D A ([(d0, .inr (11, [.ref (pA), .int (nI (np)), .ref (mA), .int (nI (nm)), .ref (go0), .ref (m0), .ref (fQ), .int (nI (nf)), .ref (t0), .ref (g0), .ref (shA), .ref (pq), .long (fnd)])), (pA, .inl (cy 3, 6, .inr (.inr (.inr (.inr PA)))))]) := hD
  refine lv_astoreN (lv' := [(6, .null), (0, .ref (d0)), (1, .int (a)), (2, .int (x1)), (3, .int (x2)), (4, .int (x3)), (5, .int (x4))]) hx hb dX11_place_5 hl (by decide) rfl (fun ls hl => ?_)
  refine lv_aloadN hx hb dX11_place_7 (lv_at hl 0 rfl) ?_
  refine lv_ifnullN (tgt := 42) hx hb dX11_place_9 (by decide) ?_
  refine lv_aload_n hx hb dX11_place_42 rfl (lv_at hl 1 rfl) ?_
  refine lv_ldc2 (v := (-1000000001)) hx hb hown (hts (.constantLong RX11 94 (-1000000001)) (by decide +kernel)) dX11_place_43 ?_
  refine nq_Vl (As := [.long ((-1000000001))]) (rest := []) (w := [(d0, .inr (11, [.ref (pA), .int (nI (np)), .ref (mA), .int (nI (nm)), .ref (go0), .ref (m0), .ref (fQ), .int (nI (nf)), .ref (t0), .ref (g0), .ref (shA), .ref (pq), .long (fnd)]))]) (wr := [(pA, .inl (cy 3, 6, .inr (.inr (.inr (.inr PA)))))]) (ci := 11) (k0 := 0) ⟨hx, hb, hml, hown, hts⟩ (qX11_told l D cy d0 pA np mA nm go0 m0 fQ nf t0 g0 shA pq fnd ((-1000000001)) ) (cwV 1 hts gX11_place_X11_told rfl rfl rfl (by decide +kernel) ⟨Nat.le_of_ble_eq_true rfl, Nat.le_of_ble_eq_true rfl⟩) rfl rfl hP hK hD hN hS hA rfl hl.1 rfl (Nat.le_of_ble_eq_true rfl) dX11_place_46 ⟨Nat.le_of_ble_eq_true rfl, Nat.le_of_ble_eq_true rfl⟩ (fun r w1 H locs hq hP hD hS => ?_)
  obtain ⟨rfl, rfl⟩ := hq
  have hP : va_P D vwCl ([(d0, .inr (11, [.ref (pA), .int (nI (np)), .ref (mA), .int (nI (nm)), .ref (go0), .ref (m0), .ref (fQ), .int (nI (nf)), .ref (t0), .ref (g0), .ref (shA), .ref (pq), .long (tol fnd (((-1000000001))))])), (pA, .inl (cy 3, 6, .inr (.inr (.inr (.inr PA)))))]) H := hP
  have hD : va_D A ([(d0, .inr (11, [.ref (pA), .int (nI (np)), .ref (mA), .int (nI (nm)), .ref (go0), .ref (m0), .ref (fQ), .int (nI (nf)), .ref (t0), .ref (g0), .ref (shA), .ref (pq), .long (tol fnd (((-1000000001))))])), (pA, .inl (cy 3, 6, .inr (.inr (.inr (.inr PA)))))]) := hD
  exact hret _ _ _ _ _ _ ⟨rfl, rfl⟩ hP hD hS dX11_place_49
set_option maxHeartbeats 4000000 in
set_option maxRecDepth 100000 in
theorem qX11_unplace_n (l : Launch) (D : va_G) (cy : Nat → ClassId) (d0 : Nat) (pA : Nat) (np : Nat) (mA : Nat) (nm : Nat) (go0 : Nat) (m0 : Nat) (fQ : Nat) (nf : Nat) (t0 : Nat) (g0 : Nat) (shA : Nat) (pq : Nat) (fnd : Int64) (PA : Nat → Option Nat) (a : Int32) (hno : ¬ ix np a) : nq_l l D (cT cy) yX11_unplace wsX11_unplace 1 0 0 22 [.ref (d0), .int (a)] ([(d0, .inr (11, [.ref (pA), .int (nI (np)), .ref (mA), .int (nI (nm)), .ref (go0), .ref (m0), .ref (fQ), .int (nI (nf)), .ref (t0), .ref (g0), .ref (shA), .ref (pq), .long (fnd)])), (pA, .inl (cy 3, 6, .inr (.inr (.inr (.inr PA)))))]) (fun r w1 => r = -1000000001 ∧ w1 = [(d0, .inr (11, [.ref (pA), .int (nI (np)), .ref (mA), .int (nI (nm)), .ref (go0), .ref (m0), .ref (fQ), .int (nI (nf)), .ref (t0), .ref (g0), .ref (shA), .ref (pq), .long (tol fnd (-1000000001))])), (pA, .inl (cy 3, 6, .inr (.inr (.inr (.inr PA)))))]) := by
  refine nq_l_of (cc := cX11_unplace) (maxL := 3) (by decide) rfl (Nat.le_of_ble_eq_true rfl) ?_
  intro p e s m args below meth c A Q ls hx hb hts hown hml hnm hN hA hP hK hD hS hl hret
  have hown : s.vm.findClass RX11 = some m.cls := hown
  have hl : lv_has ls 3 [(0, .ref (d0)), (1, .int (a))] := hl
  have hP : va_P D vwCl ([(d0, .inr (11, [.ref (pA), .int (nI (np)), .ref (mA), .int (nI (nm)), .ref (go0), .ref (m0), .ref (fQ), .int (nI (nf)), .ref (t0), .ref (g0), .ref (shA), .ref (pq), .long (fnd)])), (pA, .inl (cy 3, 6, .inr (.inr (.inr (.inr PA)))))]) s.heap := hP
  refine lv_aload_n hx hb dX11_unplace_0 rfl (lv_at hl 0 rfl) ?_
  refine lv_iload_n hx hb dX11_unplace_1 rfl (lv_at hl 1 rfl) ?_
  refine nq_Vr (As := [.int (a)]) (rest := []) (w := [(d0, .inr (11, [.ref (pA), .int (nI (np)), .ref (mA), .int (nI (nm)), .ref (go0), .ref (m0), .ref (fQ), .int (nI (nf)), .ref (t0), .ref (g0), .ref (shA), .ref (pq), .long (fnd)])), (pA, .inl (cy 3, 6, .inr (.inr (.inr (.inr PA)))))]) (wr := []) (ci := 11) (k0 := 0) ⟨hx, hb, hml, hown, hts⟩ (qX11_pictureAt_n l D cy d0 pA np mA nm go0 m0 fQ nf t0 g0 shA pq fnd PA (a) hno) (cwV 1 hts gX11_unplace_X11_pictureAt rfl rfl rfl (by decide +kernel) ⟨Nat.le_of_ble_eq_true rfl, Nat.le_of_ble_eq_true rfl⟩) rfl rfl hP hK hD hN hS hA rfl hl.1 rfl (Nat.le_of_ble_eq_true rfl) dX11_unplace_2 ⟨Nat.le_of_ble_eq_true rfl, Nat.le_of_ble_eq_true rfl⟩ (fun r w1 H locs hq hP hD hS => ?_)
  obtain ⟨rfl, rfl⟩ := hq
  have hP : va_P D vwCl ([(d0, .inr (11, [.ref (pA), .int (nI (np)), .ref (mA), .int (nI (nm)), .ref (go0), .ref (m0), .ref (fQ), .int (nI (nf)), .ref (t0), .ref (g0), .ref (shA), .ref (pq), .long (fnd)])), (pA, .inl (cy 3, 6, .inr (.inr (.inr (.inr PA)))))]) H := hP
  have hD : va_D A ([(d0, .inr (11, [.ref (pA), .int (nI (np)), .ref (mA), .int (nI (nm)), .ref (go0), .ref (m0), .ref (fQ), .int (nI (nf)), .ref (t0), .ref (g0), .ref (shA), .ref (pq), .long (fnd)])), (pA, .inl (cy 3, 6, .inr (.inr (.inr (.inr PA)))))]) := hD
  refine lv_astore_nN (lv' := [(2, .null), (0, .ref (d0)), (1, .int (a))]) hx hb dX11_unplace_5 rfl hl (by decide) rfl (fun ls hl => ?_)
  refine lv_aload_nN hx hb dX11_unplace_6 rfl (lv_at hl 0 rfl) ?_
  refine lv_ifnonnullN hx hb dX11_unplace_7 ?_
  refine lv_aload_n hx hb dX11_unplace_10 rfl (lv_at hl 1 rfl) ?_
  refine lv_ldc2 (v := (-1000000001)) hx hb hown (hts (.constantLong RX11 94 (-1000000001)) (by decide +kernel)) dX11_unplace_11 ?_
  refine nq_Vl (As := [.long ((-1000000001))]) (rest := []) (w := [(d0, .inr (11, [.ref (pA), .int (nI (np)), .ref (mA), .int (nI (nm)), .ref (go0), .ref (m0), .ref (fQ), .int (nI (nf)), .ref (t0), .ref (g0), .ref (shA), .ref (pq), .long (fnd)]))]) (wr := [(pA, .inl (cy 3, 6, .inr (.inr (.inr (.inr PA)))))]) (ci := 11) (k0 := 0) ⟨hx, hb, hml, hown, hts⟩ (qX11_told l D cy d0 pA np mA nm go0 m0 fQ nf t0 g0 shA pq fnd ((-1000000001)) ) (cwV 1 hts gX11_unplace_X11_told rfl rfl rfl (by decide +kernel) ⟨Nat.le_of_ble_eq_true rfl, Nat.le_of_ble_eq_true rfl⟩) rfl rfl hP hK hD hN hS hA rfl hl.1 rfl (Nat.le_of_ble_eq_true rfl) dX11_unplace_14 ⟨Nat.le_of_ble_eq_true rfl, Nat.le_of_ble_eq_true rfl⟩ (fun r w1 H locs hq hP hD hS => ?_)
  obtain ⟨rfl, rfl⟩ := hq
  have hP : va_P D vwCl ([(d0, .inr (11, [.ref (pA), .int (nI (np)), .ref (mA), .int (nI (nm)), .ref (go0), .ref (m0), .ref (fQ), .int (nI (nf)), .ref (t0), .ref (g0), .ref (shA), .ref (pq), .long (tol fnd (((-1000000001))))])), (pA, .inl (cy 3, 6, .inr (.inr (.inr (.inr PA)))))]) H := hP
  have hD : va_D A ([(d0, .inr (11, [.ref (pA), .int (nI (np)), .ref (mA), .int (nI (nm)), .ref (go0), .ref (m0), .ref (fQ), .int (nI (nf)), .ref (t0), .ref (g0), .ref (shA), .ref (pq), .long (tol fnd (((-1000000001))))])), (pA, .inl (cy 3, 6, .inr (.inr (.inr (.inr PA)))))]) := hD
  exact hret _ _ _ _ _ _ ⟨rfl, rfl⟩ hP hD hS dX11_unplace_17
set_option maxHeartbeats 4000000 in
set_option maxRecDepth 100000 in
theorem qX11_led_n (l : Launch) (D : va_G) (cy : Nat → ClassId) (d0 : Nat) (pA : Nat) (np : Nat) (mA : Nat) (nm : Nat) (go0 : Nat) (m0 : Nat) (fQ : Nat) (nf : Nat) (t0 : Nat) (g0 : Nat) (shA : Nat) (pq : Nat) (fnd : Int64) (PA : Nat → Option Nat) (a : Int32) (x1 : Int32) (x2 : Int32) (x3 : Int32) (hno : ¬ ix np a) : nq_l l D (cT cy) yX11_led wsX11_led 1 0 0 22 [.ref (d0), .int (a), .int (x1), .int (x2), .int (x3)] ([(d0, .inr (11, [.ref (pA), .int (nI (np)), .ref (mA), .int (nI (nm)), .ref (go0), .ref (m0), .ref (fQ), .int (nI (nf)), .ref (t0), .ref (g0), .ref (shA), .ref (pq), .long (fnd)])), (pA, .inl (cy 3, 6, .inr (.inr (.inr (.inr PA)))))]) (fun r w1 => r = -1000000001 ∧ w1 = [(d0, .inr (11, [.ref (pA), .int (nI (np)), .ref (mA), .int (nI (nm)), .ref (go0), .ref (m0), .ref (fQ), .int (nI (nf)), .ref (t0), .ref (g0), .ref (shA), .ref (pq), .long (tol fnd (-1000000001))])), (pA, .inl (cy 3, 6, .inr (.inr (.inr (.inr PA)))))]) := by
  refine nq_l_of (cc := cX11_led) (maxL := 7) (by decide) rfl (Nat.le_of_ble_eq_true rfl) ?_
  intro p e s m args below meth c A Q ls hx hb hts hown hml hnm hN hA hP hK hD hS hl hret
  have hown : s.vm.findClass RX11 = some m.cls := hown
  have hl : lv_has ls 7 [(0, .ref (d0)), (1, .int (a)), (2, .int (x1)), (3, .int (x2)), (4, .int (x3))] := hl
  have hP : va_P D vwCl ([(d0, .inr (11, [.ref (pA), .int (nI (np)), .ref (mA), .int (nI (nm)), .ref (go0), .ref (m0), .ref (fQ), .int (nI (nf)), .ref (t0), .ref (g0), .ref (shA), .ref (pq), .long (fnd)])), (pA, .inl (cy 3, 6, .inr (.inr (.inr (.inr PA)))))]) s.heap := hP
  refine lv_aload_n hx hb dX11_led_0 rfl (lv_at hl 0 rfl) ?_
  refine lv_iload_n hx hb dX11_led_1 rfl (lv_at hl 1 rfl) ?_
  refine nq_Vr (As := [.int (a)]) (rest := []) (w := [(d0, .inr (11, [.ref (pA), .int (nI (np)), .ref (mA), .int (nI (nm)), .ref (go0), .ref (m0), .ref (fQ), .int (nI (nf)), .ref (t0), .ref (g0), .ref (shA), .ref (pq), .long (fnd)])), (pA, .inl (cy 3, 6, .inr (.inr (.inr (.inr PA)))))]) (wr := []) (ci := 11) (k0 := 0) ⟨hx, hb, hml, hown, hts⟩ (qX11_pictureAt_n l D cy d0 pA np mA nm go0 m0 fQ nf t0 g0 shA pq fnd PA (a) hno) (cwV 1 hts gX11_led_X11_pictureAt rfl rfl rfl (by decide +kernel) ⟨Nat.le_of_ble_eq_true rfl, Nat.le_of_ble_eq_true rfl⟩) rfl rfl hP hK hD hN hS hA rfl hl.1 rfl (Nat.le_of_ble_eq_true rfl) dX11_led_2 ⟨Nat.le_of_ble_eq_true rfl, Nat.le_of_ble_eq_true rfl⟩ (fun r w1 H locs hq hP hD hS => ?_)
  obtain ⟨rfl, rfl⟩ := hq
  have hP : va_P D vwCl ([(d0, .inr (11, [.ref (pA), .int (nI (np)), .ref (mA), .int (nI (nm)), .ref (go0), .ref (m0), .ref (fQ), .int (nI (nf)), .ref (t0), .ref (g0), .ref (shA), .ref (pq), .long (fnd)])), (pA, .inl (cy 3, 6, .inr (.inr (.inr (.inr PA)))))]) H := hP
  have hD : va_D A ([(d0, .inr (11, [.ref (pA), .int (nI (np)), .ref (mA), .int (nI (nm)), .ref (go0), .ref (m0), .ref (fQ), .int (nI (nf)), .ref (t0), .ref (g0), .ref (shA), .ref (pq), .long (fnd)])), (pA, .inl (cy 3, 6, .inr (.inr (.inr (.inr PA)))))]) := hD
  refine lv_astoreN (lv' := [(5, .null), (0, .ref (d0)), (1, .int (a)), (2, .int (x1)), (3, .int (x2)), (4, .int (x3))]) hx hb dX11_led_5 hl (by decide) rfl (fun ls hl => ?_)
  refine lv_aloadN hx hb dX11_led_7 (lv_at hl 0 rfl) ?_
  refine lv_ifnullN (tgt := 19) hx hb dX11_led_9 (by decide) ?_
  refine lv_aload_n hx hb dX11_led_19 rfl (lv_at hl 1 rfl) ?_
  refine lv_ldc2 (v := (-1000000001)) hx hb hown (hts (.constantLong RX11 94 (-1000000001)) (by decide +kernel)) dX11_led_20 ?_
  refine nq_Vl (As := [.long ((-1000000001))]) (rest := []) (w := [(d0, .inr (11, [.ref (pA), .int (nI (np)), .ref (mA), .int (nI (nm)), .ref (go0), .ref (m0), .ref (fQ), .int (nI (nf)), .ref (t0), .ref (g0), .ref (shA), .ref (pq), .long (fnd)]))]) (wr := [(pA, .inl (cy 3, 6, .inr (.inr (.inr (.inr PA)))))]) (ci := 11) (k0 := 0) ⟨hx, hb, hml, hown, hts⟩ (qX11_told l D cy d0 pA np mA nm go0 m0 fQ nf t0 g0 shA pq fnd ((-1000000001)) ) (cwV 1 hts gX11_led_X11_told rfl rfl rfl (by decide +kernel) ⟨Nat.le_of_ble_eq_true rfl, Nat.le_of_ble_eq_true rfl⟩) rfl rfl hP hK hD hN hS hA rfl hl.1 rfl (Nat.le_of_ble_eq_true rfl) dX11_led_23 ⟨Nat.le_of_ble_eq_true rfl, Nat.le_of_ble_eq_true rfl⟩ (fun r w1 H locs hq hP hD hS => ?_)
  obtain ⟨rfl, rfl⟩ := hq
  have hP : va_P D vwCl ([(d0, .inr (11, [.ref (pA), .int (nI (np)), .ref (mA), .int (nI (nm)), .ref (go0), .ref (m0), .ref (fQ), .int (nI (nf)), .ref (t0), .ref (g0), .ref (shA), .ref (pq), .long (tol fnd (((-1000000001))))])), (pA, .inl (cy 3, 6, .inr (.inr (.inr (.inr PA)))))]) H := hP
  have hD : va_D A ([(d0, .inr (11, [.ref (pA), .int (nI (np)), .ref (mA), .int (nI (nm)), .ref (go0), .ref (m0), .ref (fQ), .int (nI (nf)), .ref (t0), .ref (g0), .ref (shA), .ref (pq), .long (tol fnd (((-1000000001))))])), (pA, .inl (cy 3, 6, .inr (.inr (.inr (.inr PA)))))]) := hD
  exact hret _ _ _ _ _ _ ⟨rfl, rfl⟩ hP hD hS dX11_led_26
set_option maxHeartbeats 4000000 in
set_option maxRecDepth 100000 in
theorem qX11_miss_n (l : Launch) (D : va_G) (cy : Nat → ClassId) (d0 : Nat) (pA : Nat) (np : Nat) (mA : Nat) (nm : Nat) (go0 : Nat) (m0 : Nat) (fQ : Nat) (nf : Nat) (t0 : Nat) (g0 : Nat) (shA : Nat) (pq : Nat) (fnd : Int64) (PA : Nat → Option Nat) (a : Int32) (x1 : Int32) (x2 : Int32) (hno : ¬ ix np a) : nq_l l D (cT cy) yX11_miss wsX11_miss 1 0 0 22 [.ref (d0), .int (a), .int (x1), .int (x2)] ([(d0, .inr (11, [.ref (pA), .int (nI (np)), .ref (mA), .int (nI (nm)), .ref (go0), .ref (m0), .ref (fQ), .int (nI (nf)), .ref (t0), .ref (g0), .ref (shA), .ref (pq), .long (fnd)])), (pA, .inl (cy 3, 6, .inr (.inr (.inr (.inr PA)))))]) (fun r w1 => r = -1000000001 ∧ w1 = [(d0, .inr (11, [.ref (pA), .int (nI (np)), .ref (mA), .int (nI (nm)), .ref (go0), .ref (m0), .ref (fQ), .int (nI (nf)), .ref (t0), .ref (g0), .ref (shA), .ref (pq), .long (tol fnd (-1000000001))])), (pA, .inl (cy 3, 6, .inr (.inr (.inr (.inr PA)))))]) := by
  refine nq_l_of (cc := cX11_miss) (maxL := 6) (by decide) rfl (Nat.le_of_ble_eq_true rfl) ?_
  intro p e s m args below meth c A Q ls hx hb hts hown hml hnm hN hA hP hK hD hS hl hret
  have hown : s.vm.findClass RX11 = some m.cls := hown
  have hl : lv_has ls 6 [(0, .ref (d0)), (1, .int (a)), (2, .int (x1)), (3, .int (x2))] := hl
  have hP : va_P D vwCl ([(d0, .inr (11, [.ref (pA), .int (nI (np)), .ref (mA), .int (nI (nm)), .ref (go0), .ref (m0), .ref (fQ), .int (nI (nf)), .ref (t0), .ref (g0), .ref (shA), .ref (pq), .long (fnd)])), (pA, .inl (cy 3, 6, .inr (.inr (.inr (.inr PA)))))]) s.heap := hP
  refine lv_aload_n hx hb dX11_miss_0 rfl (lv_at hl 0 rfl) ?_
  refine lv_iload_n hx hb dX11_miss_1 rfl (lv_at hl 1 rfl) ?_
  refine nq_Vr (As := [.int (a)]) (rest := []) (w := [(d0, .inr (11, [.ref (pA), .int (nI (np)), .ref (mA), .int (nI (nm)), .ref (go0), .ref (m0), .ref (fQ), .int (nI (nf)), .ref (t0), .ref (g0), .ref (shA), .ref (pq), .long (fnd)])), (pA, .inl (cy 3, 6, .inr (.inr (.inr (.inr PA)))))]) (wr := []) (ci := 11) (k0 := 0) ⟨hx, hb, hml, hown, hts⟩ (qX11_pictureAt_n l D cy d0 pA np mA nm go0 m0 fQ nf t0 g0 shA pq fnd PA (a) hno) (cwV 1 hts gX11_miss_X11_pictureAt rfl rfl rfl (by decide +kernel) ⟨Nat.le_of_ble_eq_true rfl, Nat.le_of_ble_eq_true rfl⟩) rfl rfl hP hK hD hN hS hA rfl hl.1 rfl (Nat.le_of_ble_eq_true rfl) dX11_miss_2 ⟨Nat.le_of_ble_eq_true rfl, Nat.le_of_ble_eq_true rfl⟩ (fun r w1 H locs hq hP hD hS => ?_)
  obtain ⟨rfl, rfl⟩ := hq
  have hP : va_P D vwCl ([(d0, .inr (11, [.ref (pA), .int (nI (np)), .ref (mA), .int (nI (nm)), .ref (go0), .ref (m0), .ref (fQ), .int (nI (nf)), .ref (t0), .ref (g0), .ref (shA), .ref (pq), .long (fnd)])), (pA, .inl (cy 3, 6, .inr (.inr (.inr (.inr PA)))))]) H := hP
  have hD : va_D A ([(d0, .inr (11, [.ref (pA), .int (nI (np)), .ref (mA), .int (nI (nm)), .ref (go0), .ref (m0), .ref (fQ), .int (nI (nf)), .ref (t0), .ref (g0), .ref (shA), .ref (pq), .long (fnd)])), (pA, .inl (cy 3, 6, .inr (.inr (.inr (.inr PA)))))]) := hD
  refine lv_astoreN (lv' := [(4, .null), (0, .ref (d0)), (1, .int (a)), (2, .int (x1)), (3, .int (x2))]) hx hb dX11_miss_5 hl (by decide) rfl (fun ls hl => ?_)
  refine lv_aloadN hx hb dX11_miss_7 (lv_at hl 0 rfl) ?_
  refine lv_ifnonnullN hx hb dX11_miss_9 ?_
  refine lv_aload_n hx hb dX11_miss_12 rfl (lv_at hl 1 rfl) ?_
  refine lv_ldc2 (v := (-1000000001)) hx hb hown (hts (.constantLong RX11 94 (-1000000001)) (by decide +kernel)) dX11_miss_13 ?_
  refine nq_Vl (As := [.long ((-1000000001))]) (rest := []) (w := [(d0, .inr (11, [.ref (pA), .int (nI (np)), .ref (mA), .int (nI (nm)), .ref (go0), .ref (m0), .ref (fQ), .int (nI (nf)), .ref (t0), .ref (g0), .ref (shA), .ref (pq), .long (fnd)]))]) (wr := [(pA, .inl (cy 3, 6, .inr (.inr (.inr (.inr PA)))))]) (ci := 11) (k0 := 0) ⟨hx, hb, hml, hown, hts⟩ (qX11_told l D cy d0 pA np mA nm go0 m0 fQ nf t0 g0 shA pq fnd ((-1000000001)) ) (cwV 1 hts gX11_miss_X11_told rfl rfl rfl (by decide +kernel) ⟨Nat.le_of_ble_eq_true rfl, Nat.le_of_ble_eq_true rfl⟩) rfl rfl hP hK hD hN hS hA rfl hl.1 rfl (Nat.le_of_ble_eq_true rfl) dX11_miss_16 ⟨Nat.le_of_ble_eq_true rfl, Nat.le_of_ble_eq_true rfl⟩ (fun r w1 H locs hq hP hD hS => ?_)
  obtain ⟨rfl, rfl⟩ := hq
  have hP : va_P D vwCl ([(d0, .inr (11, [.ref (pA), .int (nI (np)), .ref (mA), .int (nI (nm)), .ref (go0), .ref (m0), .ref (fQ), .int (nI (nf)), .ref (t0), .ref (g0), .ref (shA), .ref (pq), .long (tol fnd (((-1000000001))))])), (pA, .inl (cy 3, 6, .inr (.inr (.inr (.inr PA)))))]) H := hP
  have hD : va_D A ([(d0, .inr (11, [.ref (pA), .int (nI (np)), .ref (mA), .int (nI (nm)), .ref (go0), .ref (m0), .ref (fQ), .int (nI (nf)), .ref (t0), .ref (g0), .ref (shA), .ref (pq), .long (tol fnd (((-1000000001))))])), (pA, .inl (cy 3, 6, .inr (.inr (.inr (.inr PA)))))]) := hD
  exact hret _ _ _ _ _ _ ⟨rfl, rfl⟩ hP hD hS dX11_miss_19
set_option maxHeartbeats 4000000 in
set_option maxRecDepth 100000 in
theorem qX11_doubt_n (l : Launch) (D : va_G) (cy : Nat → ClassId) (d0 : Nat) (pA : Nat) (np : Nat) (mA : Nat) (nm : Nat) (go0 : Nat) (m0 : Nat) (fQ : Nat) (nf : Nat) (t0 : Nat) (g0 : Nat) (shA : Nat) (pq : Nat) (fnd : Int64) (PA : Nat → Option Nat) (a : Int32) (hno : ¬ ix np a) : nq_l l D (cT cy) yX11_doubt wsX11_doubt 1 0 0 22 [.ref (d0), .int (a)] ([(d0, .inr (11, [.ref (pA), .int (nI (np)), .ref (mA), .int (nI (nm)), .ref (go0), .ref (m0), .ref (fQ), .int (nI (nf)), .ref (t0), .ref (g0), .ref (shA), .ref (pq), .long (fnd)])), (pA, .inl (cy 3, 6, .inr (.inr (.inr (.inr PA)))))]) (fun r w1 => r = -1000000001 ∧ w1 = [(d0, .inr (11, [.ref (pA), .int (nI (np)), .ref (mA), .int (nI (nm)), .ref (go0), .ref (m0), .ref (fQ), .int (nI (nf)), .ref (t0), .ref (g0), .ref (shA), .ref (pq), .long (tol fnd (-1000000001))])), (pA, .inl (cy 3, 6, .inr (.inr (.inr (.inr PA)))))]) := by
  refine nq_l_of (cc := cX11_doubt) (maxL := 3) (by decide) rfl (Nat.le_of_ble_eq_true rfl) ?_
  intro p e s m args below meth c A Q ls hx hb hts hown hml hnm hN hA hP hK hD hS hl hret
  have hown : s.vm.findClass RX11 = some m.cls := hown
  have hl : lv_has ls 3 [(0, .ref (d0)), (1, .int (a))] := hl
  have hP : va_P D vwCl ([(d0, .inr (11, [.ref (pA), .int (nI (np)), .ref (mA), .int (nI (nm)), .ref (go0), .ref (m0), .ref (fQ), .int (nI (nf)), .ref (t0), .ref (g0), .ref (shA), .ref (pq), .long (fnd)])), (pA, .inl (cy 3, 6, .inr (.inr (.inr (.inr PA)))))]) s.heap := hP
  refine lv_aload_n hx hb dX11_doubt_0 rfl (lv_at hl 0 rfl) ?_
  refine lv_iload_n hx hb dX11_doubt_1 rfl (lv_at hl 1 rfl) ?_
  refine nq_Vr (As := [.int (a)]) (rest := []) (w := [(d0, .inr (11, [.ref (pA), .int (nI (np)), .ref (mA), .int (nI (nm)), .ref (go0), .ref (m0), .ref (fQ), .int (nI (nf)), .ref (t0), .ref (g0), .ref (shA), .ref (pq), .long (fnd)])), (pA, .inl (cy 3, 6, .inr (.inr (.inr (.inr PA)))))]) (wr := []) (ci := 11) (k0 := 0) ⟨hx, hb, hml, hown, hts⟩ (qX11_pictureAt_n l D cy d0 pA np mA nm go0 m0 fQ nf t0 g0 shA pq fnd PA (a) hno) (cwV 1 hts gX11_doubt_X11_pictureAt rfl rfl rfl (by decide +kernel) ⟨Nat.le_of_ble_eq_true rfl, Nat.le_of_ble_eq_true rfl⟩) rfl rfl hP hK hD hN hS hA rfl hl.1 rfl (Nat.le_of_ble_eq_true rfl) dX11_doubt_2 ⟨Nat.le_of_ble_eq_true rfl, Nat.le_of_ble_eq_true rfl⟩ (fun r w1 H locs hq hP hD hS => ?_)
  obtain ⟨rfl, rfl⟩ := hq
  have hP : va_P D vwCl ([(d0, .inr (11, [.ref (pA), .int (nI (np)), .ref (mA), .int (nI (nm)), .ref (go0), .ref (m0), .ref (fQ), .int (nI (nf)), .ref (t0), .ref (g0), .ref (shA), .ref (pq), .long (fnd)])), (pA, .inl (cy 3, 6, .inr (.inr (.inr (.inr PA)))))]) H := hP
  have hD : va_D A ([(d0, .inr (11, [.ref (pA), .int (nI (np)), .ref (mA), .int (nI (nm)), .ref (go0), .ref (m0), .ref (fQ), .int (nI (nf)), .ref (t0), .ref (g0), .ref (shA), .ref (pq), .long (fnd)])), (pA, .inl (cy 3, 6, .inr (.inr (.inr (.inr PA)))))]) := hD
  refine lv_astore_nN (lv' := [(2, .null), (0, .ref (d0)), (1, .int (a))]) hx hb dX11_doubt_5 rfl hl (by decide) rfl (fun ls hl => ?_)
  refine lv_aload_nN hx hb dX11_doubt_6 rfl (lv_at hl 0 rfl) ?_
  refine lv_ifnonnullN hx hb dX11_doubt_7 ?_
  refine lv_aload_n hx hb dX11_doubt_10 rfl (lv_at hl 1 rfl) ?_
  refine lv_ldc2 (v := (-1000000001)) hx hb hown (hts (.constantLong RX11 94 (-1000000001)) (by decide +kernel)) dX11_doubt_11 ?_
  refine nq_Vl (As := [.long ((-1000000001))]) (rest := []) (w := [(d0, .inr (11, [.ref (pA), .int (nI (np)), .ref (mA), .int (nI (nm)), .ref (go0), .ref (m0), .ref (fQ), .int (nI (nf)), .ref (t0), .ref (g0), .ref (shA), .ref (pq), .long (fnd)]))]) (wr := [(pA, .inl (cy 3, 6, .inr (.inr (.inr (.inr PA)))))]) (ci := 11) (k0 := 0) ⟨hx, hb, hml, hown, hts⟩ (qX11_told l D cy d0 pA np mA nm go0 m0 fQ nf t0 g0 shA pq fnd ((-1000000001)) ) (cwV 1 hts gX11_doubt_X11_told rfl rfl rfl (by decide +kernel) ⟨Nat.le_of_ble_eq_true rfl, Nat.le_of_ble_eq_true rfl⟩) rfl rfl hP hK hD hN hS hA rfl hl.1 rfl (Nat.le_of_ble_eq_true rfl) dX11_doubt_14 ⟨Nat.le_of_ble_eq_true rfl, Nat.le_of_ble_eq_true rfl⟩ (fun r w1 H locs hq hP hD hS => ?_)
  obtain ⟨rfl, rfl⟩ := hq
  have hP : va_P D vwCl ([(d0, .inr (11, [.ref (pA), .int (nI (np)), .ref (mA), .int (nI (nm)), .ref (go0), .ref (m0), .ref (fQ), .int (nI (nf)), .ref (t0), .ref (g0), .ref (shA), .ref (pq), .long (tol fnd (((-1000000001))))])), (pA, .inl (cy 3, 6, .inr (.inr (.inr (.inr PA)))))]) H := hP
  have hD : va_D A ([(d0, .inr (11, [.ref (pA), .int (nI (np)), .ref (mA), .int (nI (nm)), .ref (go0), .ref (m0), .ref (fQ), .int (nI (nf)), .ref (t0), .ref (g0), .ref (shA), .ref (pq), .long (tol fnd (((-1000000001))))])), (pA, .inl (cy 3, 6, .inr (.inr (.inr (.inr PA)))))]) := hD
  exact hret _ _ _ _ _ _ ⟨rfl, rfl⟩ hP hD hS dX11_doubt_17
set_option maxHeartbeats 4000000 in
set_option maxRecDepth 100000 in
theorem qX11_mark_n (l : Launch) (D : va_G) (cy : Nat → ClassId) (d0 : Nat) (pA : Nat) (np : Nat) (mA : Nat) (nm : Nat) (go0 : Nat) (m0 : Nat) (fQ : Nat) (nf : Nat) (t0 : Nat) (g0 : Nat) (shA : Nat) (pq : Nat) (fnd : Int64) (PA : Nat → Option Nat) (a : Int32) (x1 : Int32) (x2 : Int32) (x3 : Int32) (x4 : Int32) (x5 : Int32) (hno : ¬ ix np a) : nq_l l D (cT cy) yX11_mark wsX11_mark 1 0 0 22 [.ref (d0), .int (a), .int (x1), .int (x2), .int (x3), .int (x4), .int (x5)] ([(d0, .inr (11, [.ref (pA), .int (nI (np)), .ref (mA), .int (nI (nm)), .ref (go0), .ref (m0), .ref (fQ), .int (nI (nf)), .ref (t0), .ref (g0), .ref (shA), .ref (pq), .long (fnd)])), (pA, .inl (cy 3, 6, .inr (.inr (.inr (.inr PA)))))]) (fun r w1 => r = -1000000001 ∧ w1 = [(d0, .inr (11, [.ref (pA), .int (nI (np)), .ref (mA), .int (nI (nm)), .ref (go0), .ref (m0), .ref (fQ), .int (nI (nf)), .ref (t0), .ref (g0), .ref (shA), .ref (pq), .long (tol fnd (-1000000001))])), (pA, .inl (cy 3, 6, .inr (.inr (.inr (.inr PA)))))]) := by
  refine nq_l_of (cc := cX11_mark) (maxL := 8) (by decide) rfl (Nat.le_of_ble_eq_true rfl) ?_
  intro p e s m args below meth c A Q ls hx hb hts hown hml hnm hN hA hP hK hD hS hl hret
  have hown : s.vm.findClass RX11 = some m.cls := hown
  have hl : lv_has ls 8 [(0, .ref (d0)), (1, .int (a)), (2, .int (x1)), (3, .int (x2)), (4, .int (x3)), (5, .int (x4)), (6, .int (x5))] := hl
  have hP : va_P D vwCl ([(d0, .inr (11, [.ref (pA), .int (nI (np)), .ref (mA), .int (nI (nm)), .ref (go0), .ref (m0), .ref (fQ), .int (nI (nf)), .ref (t0), .ref (g0), .ref (shA), .ref (pq), .long (fnd)])), (pA, .inl (cy 3, 6, .inr (.inr (.inr (.inr PA)))))]) s.heap := hP
  refine lv_aload_n hx hb dX11_mark_0 rfl (lv_at hl 0 rfl) ?_
  refine lv_iload_n hx hb dX11_mark_1 rfl (lv_at hl 1 rfl) ?_
  refine nq_Vr (As := [.int (a)]) (rest := []) (w := [(d0, .inr (11, [.ref (pA), .int (nI (np)), .ref (mA), .int (nI (nm)), .ref (go0), .ref (m0), .ref (fQ), .int (nI (nf)), .ref (t0), .ref (g0), .ref (shA), .ref (pq), .long (fnd)])), (pA, .inl (cy 3, 6, .inr (.inr (.inr (.inr PA)))))]) (wr := []) (ci := 11) (k0 := 0) ⟨hx, hb, hml, hown, hts⟩ (qX11_pictureAt_n l D cy d0 pA np mA nm go0 m0 fQ nf t0 g0 shA pq fnd PA (a) hno) (cwV 1 hts gX11_mark_X11_pictureAt rfl rfl rfl (by decide +kernel) ⟨Nat.le_of_ble_eq_true rfl, Nat.le_of_ble_eq_true rfl⟩) rfl rfl hP hK hD hN hS hA rfl hl.1 rfl (Nat.le_of_ble_eq_true rfl) dX11_mark_2 ⟨Nat.le_of_ble_eq_true rfl, Nat.le_of_ble_eq_true rfl⟩ (fun r w1 H locs hq hP hD hS => ?_)
  obtain ⟨rfl, rfl⟩ := hq
  have hP : va_P D vwCl ([(d0, .inr (11, [.ref (pA), .int (nI (np)), .ref (mA), .int (nI (nm)), .ref (go0), .ref (m0), .ref (fQ), .int (nI (nf)), .ref (t0), .ref (g0), .ref (shA), .ref (pq), .long (fnd)])), (pA, .inl (cy 3, 6, .inr (.inr (.inr (.inr PA)))))]) H := hP
  have hD : va_D A ([(d0, .inr (11, [.ref (pA), .int (nI (np)), .ref (mA), .int (nI (nm)), .ref (go0), .ref (m0), .ref (fQ), .int (nI (nf)), .ref (t0), .ref (g0), .ref (shA), .ref (pq), .long (fnd)])), (pA, .inl (cy 3, 6, .inr (.inr (.inr (.inr PA)))))]) := hD
  refine lv_astoreN (lv' := [(7, .null), (0, .ref (d0)), (1, .int (a)), (2, .int (x1)), (3, .int (x2)), (4, .int (x3)), (5, .int (x4)), (6, .int (x5))]) hx hb dX11_mark_5 hl (by decide) rfl (fun ls hl => ?_)
  refine lv_aloadN hx hb dX11_mark_7 (lv_at hl 0 rfl) ?_
  refine lv_ifnullN (tgt := 38) hx hb dX11_mark_9 (by decide) ?_
  refine lv_aload_n hx hb dX11_mark_38 rfl (lv_at hl 1 rfl) ?_
  refine lv_ldc2 (v := (-1000000001)) hx hb hown (hts (.constantLong RX11 94 (-1000000001)) (by decide +kernel)) dX11_mark_39 ?_
  refine nq_Vl (As := [.long ((-1000000001))]) (rest := []) (w := [(d0, .inr (11, [.ref (pA), .int (nI (np)), .ref (mA), .int (nI (nm)), .ref (go0), .ref (m0), .ref (fQ), .int (nI (nf)), .ref (t0), .ref (g0), .ref (shA), .ref (pq), .long (fnd)]))]) (wr := [(pA, .inl (cy 3, 6, .inr (.inr (.inr (.inr PA)))))]) (ci := 11) (k0 := 0) ⟨hx, hb, hml, hown, hts⟩ (qX11_told l D cy d0 pA np mA nm go0 m0 fQ nf t0 g0 shA pq fnd ((-1000000001)) ) (cwV 1 hts gX11_mark_X11_told rfl rfl rfl (by decide +kernel) ⟨Nat.le_of_ble_eq_true rfl, Nat.le_of_ble_eq_true rfl⟩) rfl rfl hP hK hD hN hS hA rfl hl.1 rfl (Nat.le_of_ble_eq_true rfl) dX11_mark_42 ⟨Nat.le_of_ble_eq_true rfl, Nat.le_of_ble_eq_true rfl⟩ (fun r w1 H locs hq hP hD hS => ?_)
  obtain ⟨rfl, rfl⟩ := hq
  have hP : va_P D vwCl ([(d0, .inr (11, [.ref (pA), .int (nI (np)), .ref (mA), .int (nI (nm)), .ref (go0), .ref (m0), .ref (fQ), .int (nI (nf)), .ref (t0), .ref (g0), .ref (shA), .ref (pq), .long (tol fnd (((-1000000001))))])), (pA, .inl (cy 3, 6, .inr (.inr (.inr (.inr PA)))))]) H := hP
  have hD : va_D A ([(d0, .inr (11, [.ref (pA), .int (nI (np)), .ref (mA), .int (nI (nm)), .ref (go0), .ref (m0), .ref (fQ), .int (nI (nf)), .ref (t0), .ref (g0), .ref (shA), .ref (pq), .long (tol fnd (((-1000000001))))])), (pA, .inl (cy 3, 6, .inr (.inr (.inr (.inr PA)))))]) := hD
  exact hret _ _ _ _ _ _ ⟨rfl, rfl⟩ hP hD hS dX11_mark_45
set_option maxHeartbeats 4000000 in
set_option maxRecDepth 100000 in
theorem qX11_as_n (l : Launch) (D : va_G) (cy : Nat → ClassId) (d0 : Nat) (pA : Nat) (np : Nat) (mA : Nat) (nm : Nat) (go0 : Nat) (m0 : Nat) (fQ : Nat) (nf : Nat) (t0 : Nat) (g0 : Nat) (shA : Nat) (pq : Nat) (fnd : Int64) (MA : Nat → Option Nat) (a : Int32) (x1 : Int32) (hno : ¬ ix nm a) : nq_l l D (cT cy) yX11_as wsX11_as 1 0 0 22 [.ref (d0), .int (a), .int (x1)] ([(d0, .inr (11, [.ref (pA), .int (nI (np)), .ref (mA), .int (nI (nm)), .ref (go0), .ref (m0), .ref (fQ), .int (nI (nf)), .ref (t0), .ref (g0), .ref (shA), .ref (pq), .long (fnd)])), (mA, .inl (cy 4, 20, .inr (.inr (.inr (.inr MA)))))]) (fun r w1 => r = -1000000001 ∧ w1 = [(d0, .inr (11, [.ref (pA), .int (nI (np)), .ref (mA), .int (nI (nm)), .ref (go0), .ref (m0), .ref (fQ), .int (nI (nf)), .ref (t0), .ref (g0), .ref (shA), .ref (pq), .long (tol fnd (-1000000001))])), (mA, .inl (cy 4, 20, .inr (.inr (.inr (.inr MA)))))]) := by
  refine nq_l_of (cc := cX11_as) (maxL := 4) (by decide) rfl (Nat.le_of_ble_eq_true rfl) ?_
  intro p e s m args below meth c A Q ls hx hb hts hown hml hnm hN hA hP hK hD hS hl hret
  have hown : s.vm.findClass RX11 = some m.cls := hown
  have hl : lv_has ls 4 [(0, .ref (d0)), (1, .int (a)), (2, .int (x1))] := hl
  have hP : va_P D vwCl ([(d0, .inr (11, [.ref (pA), .int (nI (np)), .ref (mA), .int (nI (nm)), .ref (go0), .ref (m0), .ref (fQ), .int (nI (nf)), .ref (t0), .ref (g0), .ref (shA), .ref (pq), .long (fnd)])), (mA, .inl (cy 4, 20, .inr (.inr (.inr (.inr MA)))))]) s.heap := hP
  refine lv_aload_n hx hb dX11_as_0 rfl (lv_at hl 0 rfl) ?_
  refine lv_iload_n hx hb dX11_as_1 rfl (lv_at hl 1 rfl) ?_
  refine nq_Vr (As := [.int (a)]) (rest := []) (w := [(d0, .inr (11, [.ref (pA), .int (nI (np)), .ref (mA), .int (nI (nm)), .ref (go0), .ref (m0), .ref (fQ), .int (nI (nf)), .ref (t0), .ref (g0), .ref (shA), .ref (pq), .long (fnd)])), (mA, .inl (cy 4, 20, .inr (.inr (.inr (.inr MA)))))]) (wr := []) (ci := 11) (k0 := 0) ⟨hx, hb, hml, hown, hts⟩ (qX11_markAt_n l D cy d0 pA np mA nm go0 m0 fQ nf t0 g0 shA pq fnd MA (a) hno) (cwV 1 hts gX11_as_X11_markAt rfl rfl rfl (by decide +kernel) ⟨Nat.le_of_ble_eq_true rfl, Nat.le_of_ble_eq_true rfl⟩) rfl rfl hP hK hD hN hS hA rfl hl.1 rfl (Nat.le_of_ble_eq_true rfl) dX11_as_2 ⟨Nat.le_of_ble_eq_true rfl, Nat.le_of_ble_eq_true rfl⟩ (fun r w1 H locs hq hP hD hS => ?_)
  obtain ⟨rfl, rfl⟩ := hq
  have hP : va_P D vwCl ([(d0, .inr (11, [.ref (pA), .int (nI (np)), .ref (mA), .int (nI (nm)), .ref (go0), .ref (m0), .ref (fQ), .int (nI (nf)), .ref (t0), .ref (g0), .ref (shA), .ref (pq), .long (fnd)])), (mA, .inl (cy 4, 20, .inr (.inr (.inr (.inr MA)))))]) H := hP
  have hD : va_D A ([(d0, .inr (11, [.ref (pA), .int (nI (np)), .ref (mA), .int (nI (nm)), .ref (go0), .ref (m0), .ref (fQ), .int (nI (nf)), .ref (t0), .ref (g0), .ref (shA), .ref (pq), .long (fnd)])), (mA, .inl (cy 4, 20, .inr (.inr (.inr (.inr MA)))))]) := hD
  refine lv_astore_nN (lv' := [(3, .null), (0, .ref (d0)), (1, .int (a)), (2, .int (x1))]) hx hb dX11_as_5 rfl hl (by decide) rfl (fun ls hl => ?_)
  refine lv_aload_nN hx hb dX11_as_6 rfl (lv_at hl 0 rfl) ?_
  refine lv_ifnullN (tgt := 17) hx hb dX11_as_7 (by decide) ?_
  refine lv_aload_n hx hb dX11_as_17 rfl (lv_at hl 1 rfl) ?_
  refine lv_ldc2 (v := (-1000000001)) hx hb hown (hts (.constantLong RX11 94 (-1000000001)) (by decide +kernel)) dX11_as_18 ?_
  refine nq_Vl (As := [.long ((-1000000001))]) (rest := []) (w := [(d0, .inr (11, [.ref (pA), .int (nI (np)), .ref (mA), .int (nI (nm)), .ref (go0), .ref (m0), .ref (fQ), .int (nI (nf)), .ref (t0), .ref (g0), .ref (shA), .ref (pq), .long (fnd)]))]) (wr := [(mA, .inl (cy 4, 20, .inr (.inr (.inr (.inr MA)))))]) (ci := 11) (k0 := 0) ⟨hx, hb, hml, hown, hts⟩ (qX11_told l D cy d0 pA np mA nm go0 m0 fQ nf t0 g0 shA pq fnd ((-1000000001)) ) (cwV 1 hts gX11_as_X11_told rfl rfl rfl (by decide +kernel) ⟨Nat.le_of_ble_eq_true rfl, Nat.le_of_ble_eq_true rfl⟩) rfl rfl hP hK hD hN hS hA rfl hl.1 rfl (Nat.le_of_ble_eq_true rfl) dX11_as_21 ⟨Nat.le_of_ble_eq_true rfl, Nat.le_of_ble_eq_true rfl⟩ (fun r w1 H locs hq hP hD hS => ?_)
  obtain ⟨rfl, rfl⟩ := hq
  have hP : va_P D vwCl ([(d0, .inr (11, [.ref (pA), .int (nI (np)), .ref (mA), .int (nI (nm)), .ref (go0), .ref (m0), .ref (fQ), .int (nI (nf)), .ref (t0), .ref (g0), .ref (shA), .ref (pq), .long (tol fnd (((-1000000001))))])), (mA, .inl (cy 4, 20, .inr (.inr (.inr (.inr MA)))))]) H := hP
  have hD : va_D A ([(d0, .inr (11, [.ref (pA), .int (nI (np)), .ref (mA), .int (nI (nm)), .ref (go0), .ref (m0), .ref (fQ), .int (nI (nf)), .ref (t0), .ref (g0), .ref (shA), .ref (pq), .long (tol fnd (((-1000000001))))])), (mA, .inl (cy 4, 20, .inr (.inr (.inr (.inr MA)))))]) := hD
  exact hret _ _ _ _ _ _ ⟨rfl, rfl⟩ hP hD hS dX11_as_24
set_option maxHeartbeats 4000000 in
set_option maxRecDepth 100000 in
theorem qX11_at_n (l : Launch) (D : va_G) (cy : Nat → ClassId) (d0 : Nat) (pA : Nat) (np : Nat) (mA : Nat) (nm : Nat) (go0 : Nat) (m0 : Nat) (fQ : Nat) (nf : Nat) (t0 : Nat) (g0 : Nat) (shA : Nat) (pq : Nat) (fnd : Int64) (MA : Nat → Option Nat) (a : Int32) (x1 : Int32) (hno : ¬ ix nm a) : nq_l l D (cT cy) yX11_at wsX11_at 1 0 0 22 [.ref (d0), .int (a), .int (x1)] ([(d0, .inr (11, [.ref (pA), .int (nI (np)), .ref (mA), .int (nI (nm)), .ref (go0), .ref (m0), .ref (fQ), .int (nI (nf)), .ref (t0), .ref (g0), .ref (shA), .ref (pq), .long (fnd)])), (mA, .inl (cy 4, 20, .inr (.inr (.inr (.inr MA)))))]) (fun r w1 => r = -1000000001 ∧ w1 = [(d0, .inr (11, [.ref (pA), .int (nI (np)), .ref (mA), .int (nI (nm)), .ref (go0), .ref (m0), .ref (fQ), .int (nI (nf)), .ref (t0), .ref (g0), .ref (shA), .ref (pq), .long (tol fnd (-1000000001))])), (mA, .inl (cy 4, 20, .inr (.inr (.inr (.inr MA)))))]) := by
  refine nq_l_of (cc := cX11_at) (maxL := 4) (by decide) rfl (Nat.le_of_ble_eq_true rfl) ?_
  intro p e s m args below meth c A Q ls hx hb hts hown hml hnm hN hA hP hK hD hS hl hret
  have hown : s.vm.findClass RX11 = some m.cls := hown
  have hl : lv_has ls 4 [(0, .ref (d0)), (1, .int (a)), (2, .int (x1))] := hl
  have hP : va_P D vwCl ([(d0, .inr (11, [.ref (pA), .int (nI (np)), .ref (mA), .int (nI (nm)), .ref (go0), .ref (m0), .ref (fQ), .int (nI (nf)), .ref (t0), .ref (g0), .ref (shA), .ref (pq), .long (fnd)])), (mA, .inl (cy 4, 20, .inr (.inr (.inr (.inr MA)))))]) s.heap := hP
  refine lv_aload_n hx hb dX11_at_0 rfl (lv_at hl 0 rfl) ?_
  refine lv_iload_n hx hb dX11_at_1 rfl (lv_at hl 1 rfl) ?_
  refine nq_Vr (As := [.int (a)]) (rest := []) (w := [(d0, .inr (11, [.ref (pA), .int (nI (np)), .ref (mA), .int (nI (nm)), .ref (go0), .ref (m0), .ref (fQ), .int (nI (nf)), .ref (t0), .ref (g0), .ref (shA), .ref (pq), .long (fnd)])), (mA, .inl (cy 4, 20, .inr (.inr (.inr (.inr MA)))))]) (wr := []) (ci := 11) (k0 := 0) ⟨hx, hb, hml, hown, hts⟩ (qX11_markAt_n l D cy d0 pA np mA nm go0 m0 fQ nf t0 g0 shA pq fnd MA (a) hno) (cwV 1 hts gX11_at_X11_markAt rfl rfl rfl (by decide +kernel) ⟨Nat.le_of_ble_eq_true rfl, Nat.le_of_ble_eq_true rfl⟩) rfl rfl hP hK hD hN hS hA rfl hl.1 rfl (Nat.le_of_ble_eq_true rfl) dX11_at_2 ⟨Nat.le_of_ble_eq_true rfl, Nat.le_of_ble_eq_true rfl⟩ (fun r w1 H locs hq hP hD hS => ?_)
  obtain ⟨rfl, rfl⟩ := hq
  have hP : va_P D vwCl ([(d0, .inr (11, [.ref (pA), .int (nI (np)), .ref (mA), .int (nI (nm)), .ref (go0), .ref (m0), .ref (fQ), .int (nI (nf)), .ref (t0), .ref (g0), .ref (shA), .ref (pq), .long (fnd)])), (mA, .inl (cy 4, 20, .inr (.inr (.inr (.inr MA)))))]) H := hP
  have hD : va_D A ([(d0, .inr (11, [.ref (pA), .int (nI (np)), .ref (mA), .int (nI (nm)), .ref (go0), .ref (m0), .ref (fQ), .int (nI (nf)), .ref (t0), .ref (g0), .ref (shA), .ref (pq), .long (fnd)])), (mA, .inl (cy 4, 20, .inr (.inr (.inr (.inr MA)))))]) := hD
  refine lv_astore_nN (lv' := [(3, .null), (0, .ref (d0)), (1, .int (a)), (2, .int (x1))]) hx hb dX11_at_5 rfl hl (by decide) rfl (fun ls hl => ?_)
  refine lv_aload_nN hx hb dX11_at_6 rfl (lv_at hl 0 rfl) ?_
  refine lv_ifnonnullN hx hb dX11_at_7 ?_
  refine lv_aload_n hx hb dX11_at_10 rfl (lv_at hl 1 rfl) ?_
  refine lv_ldc2 (v := (-1000000001)) hx hb hown (hts (.constantLong RX11 94 (-1000000001)) (by decide +kernel)) dX11_at_11 ?_
  refine nq_Vl (As := [.long ((-1000000001))]) (rest := []) (w := [(d0, .inr (11, [.ref (pA), .int (nI (np)), .ref (mA), .int (nI (nm)), .ref (go0), .ref (m0), .ref (fQ), .int (nI (nf)), .ref (t0), .ref (g0), .ref (shA), .ref (pq), .long (fnd)]))]) (wr := [(mA, .inl (cy 4, 20, .inr (.inr (.inr (.inr MA)))))]) (ci := 11) (k0 := 0) ⟨hx, hb, hml, hown, hts⟩ (qX11_told l D cy d0 pA np mA nm go0 m0 fQ nf t0 g0 shA pq fnd ((-1000000001)) ) (cwV 1 hts gX11_at_X11_told rfl rfl rfl (by decide +kernel) ⟨Nat.le_of_ble_eq_true rfl, Nat.le_of_ble_eq_true rfl⟩) rfl rfl hP hK hD hN hS hA rfl hl.1 rfl (Nat.le_of_ble_eq_true rfl) dX11_at_14 ⟨Nat.le_of_ble_eq_true rfl, Nat.le_of_ble_eq_true rfl⟩ (fun r w1 H locs hq hP hD hS => ?_)
  obtain ⟨rfl, rfl⟩ := hq
  have hP : va_P D vwCl ([(d0, .inr (11, [.ref (pA), .int (nI (np)), .ref (mA), .int (nI (nm)), .ref (go0), .ref (m0), .ref (fQ), .int (nI (nf)), .ref (t0), .ref (g0), .ref (shA), .ref (pq), .long (tol fnd (((-1000000001))))])), (mA, .inl (cy 4, 20, .inr (.inr (.inr (.inr MA)))))]) H := hP
  have hD : va_D A ([(d0, .inr (11, [.ref (pA), .int (nI (np)), .ref (mA), .int (nI (nm)), .ref (go0), .ref (m0), .ref (fQ), .int (nI (nf)), .ref (t0), .ref (g0), .ref (shA), .ref (pq), .long (tol fnd (((-1000000001))))])), (mA, .inl (cy 4, 20, .inr (.inr (.inr (.inr MA)))))]) := hD
  exact hret _ _ _ _ _ _ ⟨rfl, rfl⟩ hP hD hS dX11_at_17
set_option maxHeartbeats 4000000 in
set_option maxRecDepth 100000 in
theorem qX11_agree_n (l : Launch) (D : va_G) (cy : Nat → ClassId) (d0 : Nat) (pA : Nat) (np : Nat) (mA : Nat) (nm : Nat) (go0 : Nat) (m0 : Nat) (fQ : Nat) (nf : Nat) (t0 : Nat) (g0 : Nat) (shA : Nat) (pq : Nat) (fnd : Int64) (MA : Nat → Option Nat) (a : Int32) (x1 : Int32) (hno : ¬ ix nm a) (hno2 : ¬ ix nm x1) : nq_l l D (cT cy) yX11_agree wsX11_agree 1 0 0 22 [.ref (d0), .int (a), .int (x1)] ([(d0, .inr (11, [.ref (pA), .int (nI (np)), .ref (mA), .int (nI (nm)), .ref (go0), .ref (m0), .ref (fQ), .int (nI (nf)), .ref (t0), .ref (g0), .ref (shA), .ref (pq), .long (fnd)])), (mA, .inl (cy 4, 20, .inr (.inr (.inr (.inr MA)))))]) (fun r w1 => r = -1000000001 ∧ w1 = [(d0, .inr (11, [.ref (pA), .int (nI (np)), .ref (mA), .int (nI (nm)), .ref (go0), .ref (m0), .ref (fQ), .int (nI (nf)), .ref (t0), .ref (g0), .ref (shA), .ref (pq), .long (tol fnd (-1000000001))])), (mA, .inl (cy 4, 20, .inr (.inr (.inr (.inr MA)))))]) := by
  refine nq_l_of (cc := cX11_agree) (maxL := 5) (by decide) rfl (Nat.le_of_ble_eq_true rfl) ?_
  intro p e s m args below meth c A Q ls hx hb hts hown hml hnm hN hA hP hK hD hS hl hret
  have hown : s.vm.findClass RX11 = some m.cls := hown
  have hl : lv_has ls 5 [(0, .ref (d0)), (1, .int (a)), (2, .int (x1))] := hl
  have hP : va_P D vwCl ([(d0, .inr (11, [.ref (pA), .int (nI (np)), .ref (mA), .int (nI (nm)), .ref (go0), .ref (m0), .ref (fQ), .int (nI (nf)), .ref (t0), .ref (g0), .ref (shA), .ref (pq), .long (fnd)])), (mA, .inl (cy 4, 20, .inr (.inr (.inr (.inr MA)))))]) s.heap := hP
  refine lv_aload_n hx hb dX11_agree_0 rfl (lv_at hl 0 rfl) ?_
  refine lv_iload_n hx hb dX11_agree_1 rfl (lv_at hl 1 rfl) ?_
  refine nq_Vr (As := [.int (a)]) (rest := []) (w := [(d0, .inr (11, [.ref (pA), .int (nI (np)), .ref (mA), .int (nI (nm)), .ref (go0), .ref (m0), .ref (fQ), .int (nI (nf)), .ref (t0), .ref (g0), .ref (shA), .ref (pq), .long (fnd)])), (mA, .inl (cy 4, 20, .inr (.inr (.inr (.inr MA)))))]) (wr := []) (ci := 11) (k0 := 0) ⟨hx, hb, hml, hown, hts⟩ (qX11_markAt_n l D cy d0 pA np mA nm go0 m0 fQ nf t0 g0 shA pq fnd MA (a) hno) (cwV 1 hts gX11_agree_X11_markAt rfl rfl rfl (by decide +kernel) ⟨Nat.le_of_ble_eq_true rfl, Nat.le_of_ble_eq_true rfl⟩) rfl rfl hP hK hD hN hS hA rfl hl.1 rfl (Nat.le_of_ble_eq_true rfl) dX11_agree_2 ⟨Nat.le_of_ble_eq_true rfl, Nat.le_of_ble_eq_true rfl⟩ (fun r w1 H locs hq hP hD hS => ?_)
  obtain ⟨rfl, rfl⟩ := hq
  have hP : va_P D vwCl ([(d0, .inr (11, [.ref (pA), .int (nI (np)), .ref (mA), .int (nI (nm)), .ref (go0), .ref (m0), .ref (fQ), .int (nI (nf)), .ref (t0), .ref (g0), .ref (shA), .ref (pq), .long (fnd)])), (mA, .inl (cy 4, 20, .inr (.inr (.inr (.inr MA)))))]) H := hP
  have hD : va_D A ([(d0, .inr (11, [.ref (pA), .int (nI (np)), .ref (mA), .int (nI (nm)), .ref (go0), .ref (m0), .ref (fQ), .int (nI (nf)), .ref (t0), .ref (g0), .ref (shA), .ref (pq), .long (fnd)])), (mA, .inl (cy 4, 20, .inr (.inr (.inr (.inr MA)))))]) := hD
  refine lv_astore_nN (lv' := [(3, .null), (0, .ref (d0)), (1, .int (a)), (2, .int (x1))]) hx hb dX11_agree_5 rfl hl (by decide) rfl (fun ls hl => ?_)
  refine lv_aload_n hx hb dX11_agree_6 rfl (lv_at hl 1 rfl) ?_
  refine lv_iload_n hx hb dX11_agree_7 rfl (lv_at hl 3 rfl) ?_
  refine nq_Vr (As := [.int (x1)]) (rest := []) (w := [(d0, .inr (11, [.ref (pA), .int (nI (np)), .ref (mA), .int (nI (nm)), .ref (go0), .ref (m0), .ref (fQ), .int (nI (nf)), .ref (t0), .ref (g0), .ref (shA), .ref (pq), .long (fnd)])), (mA, .inl (cy 4, 20, .inr (.inr (.inr (.inr MA)))))]) (wr := []) (ci := 11) (k0 := 0) ⟨hx, hb, hml, hown, hts⟩ (qX11_markAt_n l D cy d0 pA np mA nm go0 m0 fQ nf t0 g0 shA pq fnd MA (x1) hno2) (cwV 1 hts gX11_agree_X11_markAt rfl rfl rfl (by decide +kernel) ⟨Nat.le_of_ble_eq_true rfl, Nat.le_of_ble_eq_true rfl⟩) rfl rfl hP hK hD hN hS hA rfl hl.1 rfl (Nat.le_of_ble_eq_true rfl) dX11_agree_8 ⟨Nat.le_of_ble_eq_true rfl, Nat.le_of_ble_eq_true rfl⟩ (fun r w1 H locs hq hP hD hS => ?_)
  obtain ⟨rfl, rfl⟩ := hq
  have hP : va_P D vwCl ([(d0, .inr (11, [.ref (pA), .int (nI (np)), .ref (mA), .int (nI (nm)), .ref (go0), .ref (m0), .ref (fQ), .int (nI (nf)), .ref (t0), .ref (g0), .ref (shA), .ref (pq), .long (fnd)])), (mA, .inl (cy 4, 20, .inr (.inr (.inr (.inr MA)))))]) H := hP
  have hD : va_D A ([(d0, .inr (11, [.ref (pA), .int (nI (np)), .ref (mA), .int (nI (nm)), .ref (go0), .ref (m0), .ref (fQ), .int (nI (nf)), .ref (t0), .ref (g0), .ref (shA), .ref (pq), .long (fnd)])), (mA, .inl (cy 4, 20, .inr (.inr (.inr (.inr MA)))))]) := hD
  refine lv_astoreN (lv' := [(4, .null), (3, .null), (0, .ref (d0)), (1, .int (a)), (2, .int (x1))]) hx hb dX11_agree_11 hl (by decide) rfl (fun ls hl => ?_)
  refine lv_aload_nN hx hb dX11_agree_13 rfl (lv_at hl 1 rfl) ?_
  refine lv_ifnullN (tgt := 22) hx hb dX11_agree_14 (by decide) ?_
  refine lv_aload_n hx hb dX11_agree_22 rfl (lv_at hl 2 rfl) ?_
  refine lv_ldc2 (v := (-1000000001)) hx hb hown (hts (.constantLong RX11 94 (-1000000001)) (by decide +kernel)) dX11_agree_23 ?_
  refine nq_Vl (As := [.long ((-1000000001))]) (rest := []) (w := [(d0, .inr (11, [.ref (pA), .int (nI (np)), .ref (mA), .int (nI (nm)), .ref (go0), .ref (m0), .ref (fQ), .int (nI (nf)), .ref (t0), .ref (g0), .ref (shA), .ref (pq), .long (fnd)]))]) (wr := [(mA, .inl (cy 4, 20, .inr (.inr (.inr (.inr MA)))))]) (ci := 11) (k0 := 0) ⟨hx, hb, hml, hown, hts⟩ (qX11_told l D cy d0 pA np mA nm go0 m0 fQ nf t0 g0 shA pq fnd ((-1000000001)) ) (cwV 1 hts gX11_agree_X11_told rfl rfl rfl (by decide +kernel) ⟨Nat.le_of_ble_eq_true rfl, Nat.le_of_ble_eq_true rfl⟩) rfl rfl hP hK hD hN hS hA rfl hl.1 rfl (Nat.le_of_ble_eq_true rfl) dX11_agree_26 ⟨Nat.le_of_ble_eq_true rfl, Nat.le_of_ble_eq_true rfl⟩ (fun r w1 H locs hq hP hD hS => ?_)
  obtain ⟨rfl, rfl⟩ := hq
  have hP : va_P D vwCl ([(d0, .inr (11, [.ref (pA), .int (nI (np)), .ref (mA), .int (nI (nm)), .ref (go0), .ref (m0), .ref (fQ), .int (nI (nf)), .ref (t0), .ref (g0), .ref (shA), .ref (pq), .long (tol fnd (((-1000000001))))])), (mA, .inl (cy 4, 20, .inr (.inr (.inr (.inr MA)))))]) H := hP
  have hD : va_D A ([(d0, .inr (11, [.ref (pA), .int (nI (np)), .ref (mA), .int (nI (nm)), .ref (go0), .ref (m0), .ref (fQ), .int (nI (nf)), .ref (t0), .ref (g0), .ref (shA), .ref (pq), .long (tol fnd (((-1000000001))))])), (mA, .inl (cy 4, 20, .inr (.inr (.inr (.inr MA)))))]) := hD
  exact hret _ _ _ _ _ _ ⟨rfl, rfl⟩ hP hD hS dX11_agree_29
set_option maxHeartbeats 4000000 in
set_option maxRecDepth 100000 in
theorem qX11_group_n (l : Launch) (D : va_G) (cy : Nat → ClassId) (d0 : Nat) (pA : Nat) (np : Nat) (mA : Nat) (nm : Nat) (go0 : Nat) (m0 : Nat) (fQ : Nat) (nf : Nat) (t0 : Nat) (g0 : Nat) (shA : Nat) (pq : Nat) (fnd : Int64) (MA : Nat → Option Nat) (a : Int32) (hno : ¬ ix nm a) : nq_l l D (cT cy) yX11_group wsX11_group 1 0 0 22 [.ref (d0), .int (a)] ([(d0, .inr (11, [.ref (pA), .int (nI (np)), .ref (mA), .int (nI (nm)), .ref (go0), .ref (m0), .ref (fQ), .int (nI (nf)), .ref (t0), .ref (g0), .ref (shA), .ref (pq), .long (fnd)])), (mA, .inl (cy 4, 20, .inr (.inr (.inr (.inr MA)))))]) (fun r w1 => r = -1000000001 ∧ w1 = [(d0, .inr (11, [.ref (pA), .int (nI (np)), .ref (mA), .int (nI (nm)), .ref (go0), .ref (m0), .ref (fQ), .int (nI (nf)), .ref (t0), .ref (g0), .ref (shA), .ref (pq), .long (tol fnd (-1000000001))])), (mA, .inl (cy 4, 20, .inr (.inr (.inr (.inr MA)))))]) := by
  refine nq_l_of (cc := cX11_group) (maxL := 2) (by decide) rfl (Nat.le_of_ble_eq_true rfl) ?_
  intro p e s m args below meth c A Q ls hx hb hts hown hml hnm hN hA hP hK hD hS hl hret
  have hown : s.vm.findClass RX11 = some m.cls := hown
  have hl : lv_has ls 2 [(0, .ref (d0)), (1, .int (a))] := hl
  have hP : va_P D vwCl ([(d0, .inr (11, [.ref (pA), .int (nI (np)), .ref (mA), .int (nI (nm)), .ref (go0), .ref (m0), .ref (fQ), .int (nI (nf)), .ref (t0), .ref (g0), .ref (shA), .ref (pq), .long (fnd)])), (mA, .inl (cy 4, 20, .inr (.inr (.inr (.inr MA)))))]) s.heap := hP
  refine lv_aload_n hx hb dX11_group_0 rfl (lv_at hl 0 rfl) ?_
  refine lv_iload_n hx hb dX11_group_1 rfl (lv_at hl 1 rfl) ?_
  refine nq_Vr (As := [.int (a)]) (rest := []) (w := [(d0, .inr (11, [.ref (pA), .int (nI (np)), .ref (mA), .int (nI (nm)), .ref (go0), .ref (m0), .ref (fQ), .int (nI (nf)), .ref (t0), .ref (g0), .ref (shA), .ref (pq), .long (fnd)])), (mA, .inl (cy 4, 20, .inr (.inr (.inr (.inr MA)))))]) (wr := []) (ci := 11) (k0 := 0) ⟨hx, hb, hml, hown, hts⟩ (qX11_markAt_n l D cy d0 pA np mA nm go0 m0 fQ nf t0 g0 shA pq fnd MA (a) hno) (cwV 1 hts gX11_group_X11_markAt rfl rfl rfl (by decide +kernel) ⟨Nat.le_of_ble_eq_true rfl, Nat.le_of_ble_eq_true rfl⟩) rfl rfl hP hK hD hN hS hA rfl hl.1 rfl (Nat.le_of_ble_eq_true rfl) dX11_group_2 ⟨Nat.le_of_ble_eq_true rfl, Nat.le_of_ble_eq_true rfl⟩ (fun r w1 H locs hq hP hD hS => ?_)
  obtain ⟨rfl, rfl⟩ := hq
  have hP : va_P D vwCl ([(d0, .inr (11, [.ref (pA), .int (nI (np)), .ref (mA), .int (nI (nm)), .ref (go0), .ref (m0), .ref (fQ), .int (nI (nf)), .ref (t0), .ref (g0), .ref (shA), .ref (pq), .long (fnd)])), (mA, .inl (cy 4, 20, .inr (.inr (.inr (.inr MA)))))]) H := hP
  have hD : va_D A ([(d0, .inr (11, [.ref (pA), .int (nI (np)), .ref (mA), .int (nI (nm)), .ref (go0), .ref (m0), .ref (fQ), .int (nI (nf)), .ref (t0), .ref (g0), .ref (shA), .ref (pq), .long (fnd)])), (mA, .inl (cy 4, 20, .inr (.inr (.inr (.inr MA)))))]) := hD
  refine lv_ifnonnullN hx hb dX11_group_5 ?_
  refine lv_aload_n hx hb dX11_group_8 rfl (lv_at hl 0 rfl) ?_
  refine lv_ldc2 (v := (-1000000001)) hx hb hown (hts (.constantLong RX11 94 (-1000000001)) (by decide +kernel)) dX11_group_9 ?_
  refine nq_Vl (As := [.long ((-1000000001))]) (rest := []) (w := [(d0, .inr (11, [.ref (pA), .int (nI (np)), .ref (mA), .int (nI (nm)), .ref (go0), .ref (m0), .ref (fQ), .int (nI (nf)), .ref (t0), .ref (g0), .ref (shA), .ref (pq), .long (fnd)]))]) (wr := [(mA, .inl (cy 4, 20, .inr (.inr (.inr (.inr MA)))))]) (ci := 11) (k0 := 0) ⟨hx, hb, hml, hown, hts⟩ (qX11_told l D cy d0 pA np mA nm go0 m0 fQ nf t0 g0 shA pq fnd ((-1000000001)) ) (cwV 1 hts gX11_group_X11_told rfl rfl rfl (by decide +kernel) ⟨Nat.le_of_ble_eq_true rfl, Nat.le_of_ble_eq_true rfl⟩) rfl rfl hP hK hD hN hS hA rfl hl.1 rfl (Nat.le_of_ble_eq_true rfl) dX11_group_12 ⟨Nat.le_of_ble_eq_true rfl, Nat.le_of_ble_eq_true rfl⟩ (fun r w1 H locs hq hP hD hS => ?_)
  obtain ⟨rfl, rfl⟩ := hq
  have hP : va_P D vwCl ([(d0, .inr (11, [.ref (pA), .int (nI (np)), .ref (mA), .int (nI (nm)), .ref (go0), .ref (m0), .ref (fQ), .int (nI (nf)), .ref (t0), .ref (g0), .ref (shA), .ref (pq), .long (tol fnd (((-1000000001))))])), (mA, .inl (cy 4, 20, .inr (.inr (.inr (.inr MA)))))]) H := hP
  have hD : va_D A ([(d0, .inr (11, [.ref (pA), .int (nI (np)), .ref (mA), .int (nI (nm)), .ref (go0), .ref (m0), .ref (fQ), .int (nI (nf)), .ref (t0), .ref (g0), .ref (shA), .ref (pq), .long (tol fnd (((-1000000001))))])), (mA, .inl (cy 4, 20, .inr (.inr (.inr (.inr MA)))))]) := hD
  exact hret _ _ _ _ _ _ ⟨rfl, rfl⟩ hP hD hS dX11_group_15
set_option maxHeartbeats 4000000 in
set_option maxRecDepth 100000 in
theorem qX11_look_n (l : Launch) (D : va_G) (cy : Nat → ClassId) (d0 : Nat) (pA : Nat) (np : Nat) (mA : Nat) (nm : Nat) (go0 : Nat) (m0 : Nat) (fQ : Nat) (nf : Nat) (t0 : Nat) (g0 : Nat) (shA : Nat) (pq : Nat) (fnd : Int64) (FQ : Nat → Option Nat) (a : Int32) (x1 : Int32) (x2 : Int32) (x3 : Int32) (hno : ¬ ix nf a) : nq_l l D (cT cy) yX11_look wsX11_look 1 0 0 22 [.ref (d0), .int (a), .int (x1), .int (x2), .int (x3)] ([(d0, .inr (11, [.ref (pA), .int (nI (np)), .ref (mA), .int (nI (nm)), .ref (go0), .ref (m0), .ref (fQ), .int (nI (nf)), .ref (t0), .ref (g0), .ref (shA), .ref (pq), .long (fnd)])), (fQ, .inl (cy 5, 8, .inr (.inr (.inr (.inr FQ)))))]) (fun r w1 => r = -1000000001 ∧ w1 = [(d0, .inr (11, [.ref (pA), .int (nI (np)), .ref (mA), .int (nI (nm)), .ref (go0), .ref (m0), .ref (fQ), .int (nI (nf)), .ref (t0), .ref (g0), .ref (shA), .ref (pq), .long (tol fnd (-1000000001))])), (fQ, .inl (cy 5, 8, .inr (.inr (.inr (.inr FQ)))))]) := by
  refine nq_l_of (cc := cX11_look) (maxL := 6) (by decide) rfl (Nat.le_of_ble_eq_true rfl) ?_
  intro p e s m args below meth c A Q ls hx hb hts hown hml hnm hN hA hP hK hD hS hl hret
  have hown : s.vm.findClass RX11 = some m.cls := hown
  have hl : lv_has ls 6 [(0, .ref (d0)), (1, .int (a)), (2, .int (x1)), (3, .int (x2)), (4, .int (x3))] := hl
  have hP : va_P D vwCl ([(d0, .inr (11, [.ref (pA), .int (nI (np)), .ref (mA), .int (nI (nm)), .ref (go0), .ref (m0), .ref (fQ), .int (nI (nf)), .ref (t0), .ref (g0), .ref (shA), .ref (pq), .long (fnd)])), (fQ, .inl (cy 5, 8, .inr (.inr (.inr (.inr FQ)))))]) s.heap := hP
  refine lv_aload_n hx hb dX11_look_0 rfl (lv_at hl 0 rfl) ?_
  refine lv_iload_n hx hb dX11_look_1 rfl (lv_at hl 1 rfl) ?_
  refine nq_Vr (As := [.int (a)]) (rest := []) (w := [(d0, .inr (11, [.ref (pA), .int (nI (np)), .ref (mA), .int (nI (nm)), .ref (go0), .ref (m0), .ref (fQ), .int (nI (nf)), .ref (t0), .ref (g0), .ref (shA), .ref (pq), .long (fnd)])), (fQ, .inl (cy 5, 8, .inr (.inr (.inr (.inr FQ)))))]) (wr := []) (ci := 11) (k0 := 0) ⟨hx, hb, hml, hown, hts⟩ (qX11_fieldAt_n l D cy d0 pA np mA nm go0 m0 fQ nf t0 g0 shA pq fnd FQ (a) hno) (cwV 1 hts gX11_look_X11_fieldAt rfl rfl rfl (by decide +kernel) ⟨Nat.le_of_ble_eq_true rfl, Nat.le_of_ble_eq_true rfl⟩) rfl rfl hP hK hD hN hS hA rfl hl.1 rfl (Nat.le_of_ble_eq_true rfl) dX11_look_2 ⟨Nat.le_of_ble_eq_true rfl, Nat.le_of_ble_eq_true rfl⟩ (fun r w1 H locs hq hP hD hS => ?_)
  obtain ⟨rfl, rfl⟩ := hq
  have hP : va_P D vwCl ([(d0, .inr (11, [.ref (pA), .int (nI (np)), .ref (mA), .int (nI (nm)), .ref (go0), .ref (m0), .ref (fQ), .int (nI (nf)), .ref (t0), .ref (g0), .ref (shA), .ref (pq), .long (fnd)])), (fQ, .inl (cy 5, 8, .inr (.inr (.inr (.inr FQ)))))]) H := hP
  have hD : va_D A ([(d0, .inr (11, [.ref (pA), .int (nI (np)), .ref (mA), .int (nI (nm)), .ref (go0), .ref (m0), .ref (fQ), .int (nI (nf)), .ref (t0), .ref (g0), .ref (shA), .ref (pq), .long (fnd)])), (fQ, .inl (cy 5, 8, .inr (.inr (.inr (.inr FQ)))))]) := hD
  refine lv_astoreN (lv' := [(5, .null), (0, .ref (d0)), (1, .int (a)), (2, .int (x1)), (3, .int (x2)), (4, .int (x3))]) hx hb dX11_look_5 hl (by decide) rfl (fun ls hl => ?_)
  refine lv_aloadN hx hb dX11_look_7 (lv_at hl 0 rfl) ?_
  refine lv_ifnullN (tgt := 26) hx hb dX11_look_9 (by decide) ?_
  refine lv_aload_n hx hb dX11_look_26 rfl (lv_at hl 1 rfl) ?_
  refine lv_ldc2 (v := (-1000000001)) hx hb hown (hts (.constantLong RX11 94 (-1000000001)) (by decide +kernel)) dX11_look_27 ?_
  refine nq_Vl (As := [.long ((-1000000001))]) (rest := []) (w := [(d0, .inr (11, [.ref (pA), .int (nI (np)), .ref (mA), .int (nI (nm)), .ref (go0), .ref (m0), .ref (fQ), .int (nI (nf)), .ref (t0), .ref (g0), .ref (shA), .ref (pq), .long (fnd)]))]) (wr := [(fQ, .inl (cy 5, 8, .inr (.inr (.inr (.inr FQ)))))]) (ci := 11) (k0 := 0) ⟨hx, hb, hml, hown, hts⟩ (qX11_told l D cy d0 pA np mA nm go0 m0 fQ nf t0 g0 shA pq fnd ((-1000000001)) ) (cwV 1 hts gX11_look_X11_told rfl rfl rfl (by decide +kernel) ⟨Nat.le_of_ble_eq_true rfl, Nat.le_of_ble_eq_true rfl⟩) rfl rfl hP hK hD hN hS hA rfl hl.1 rfl (Nat.le_of_ble_eq_true rfl) dX11_look_30 ⟨Nat.le_of_ble_eq_true rfl, Nat.le_of_ble_eq_true rfl⟩ (fun r w1 H locs hq hP hD hS => ?_)
  obtain ⟨rfl, rfl⟩ := hq
  have hP : va_P D vwCl ([(d0, .inr (11, [.ref (pA), .int (nI (np)), .ref (mA), .int (nI (nm)), .ref (go0), .ref (m0), .ref (fQ), .int (nI (nf)), .ref (t0), .ref (g0), .ref (shA), .ref (pq), .long (tol fnd (((-1000000001))))])), (fQ, .inl (cy 5, 8, .inr (.inr (.inr (.inr FQ)))))]) H := hP
  have hD : va_D A ([(d0, .inr (11, [.ref (pA), .int (nI (np)), .ref (mA), .int (nI (nm)), .ref (go0), .ref (m0), .ref (fQ), .int (nI (nf)), .ref (t0), .ref (g0), .ref (shA), .ref (pq), .long (tol fnd (((-1000000001))))])), (fQ, .inl (cy 5, 8, .inr (.inr (.inr (.inr FQ)))))]) := hD
  exact hret _ _ _ _ _ _ ⟨rfl, rfl⟩ hP hD hS dX11_look_33
set_option maxHeartbeats 4000000 in
set_option maxRecDepth 100000 in
theorem qX11_belief_n (l : Launch) (D : va_G) (cy : Nat → ClassId) (d0 : Nat) (pA : Nat) (np : Nat) (mA : Nat) (nm : Nat) (go0 : Nat) (m0 : Nat) (fQ : Nat) (nf : Nat) (t0 : Nat) (g0 : Nat) (shA : Nat) (pq : Nat) (fnd : Int64) (FQ : Nat → Option Nat) (a : Int32) (x1 : Int32) (hno : ¬ ix nf a) : nq_l l D (cT cy) yX11_belief wsX11_belief 1 0 0 22 [.ref (d0), .int (a), .int (x1)] ([(d0, .inr (11, [.ref (pA), .int (nI (np)), .ref (mA), .int (nI (nm)), .ref (go0), .ref (m0), .ref (fQ), .int (nI (nf)), .ref (t0), .ref (g0), .ref (shA), .ref (pq), .long (fnd)])), (fQ, .inl (cy 5, 8, .inr (.inr (.inr (.inr FQ)))))]) (fun r w1 => r = -1000000001 ∧ w1 = [(d0, .inr (11, [.ref (pA), .int (nI (np)), .ref (mA), .int (nI (nm)), .ref (go0), .ref (m0), .ref (fQ), .int (nI (nf)), .ref (t0), .ref (g0), .ref (shA), .ref (pq), .long (tol fnd (-1000000001))])), (fQ, .inl (cy 5, 8, .inr (.inr (.inr (.inr FQ)))))]) := by
  refine nq_l_of (cc := cX11_belief) (maxL := 4) (by decide) rfl (Nat.le_of_ble_eq_true rfl) ?_
  intro p e s m args below meth c A Q ls hx hb hts hown hml hnm hN hA hP hK hD hS hl hret
  have hown : s.vm.findClass RX11 = some m.cls := hown
  have hl : lv_has ls 4 [(0, .ref (d0)), (1, .int (a)), (2, .int (x1))] := hl
  have hP : va_P D vwCl ([(d0, .inr (11, [.ref (pA), .int (nI (np)), .ref (mA), .int (nI (nm)), .ref (go0), .ref (m0), .ref (fQ), .int (nI (nf)), .ref (t0), .ref (g0), .ref (shA), .ref (pq), .long (fnd)])), (fQ, .inl (cy 5, 8, .inr (.inr (.inr (.inr FQ)))))]) s.heap := hP
  refine lv_aload_n hx hb dX11_belief_0 rfl (lv_at hl 0 rfl) ?_
  refine lv_iload_n hx hb dX11_belief_1 rfl (lv_at hl 1 rfl) ?_
  refine nq_Vr (As := [.int (a)]) (rest := []) (w := [(d0, .inr (11, [.ref (pA), .int (nI (np)), .ref (mA), .int (nI (nm)), .ref (go0), .ref (m0), .ref (fQ), .int (nI (nf)), .ref (t0), .ref (g0), .ref (shA), .ref (pq), .long (fnd)])), (fQ, .inl (cy 5, 8, .inr (.inr (.inr (.inr FQ)))))]) (wr := []) (ci := 11) (k0 := 0) ⟨hx, hb, hml, hown, hts⟩ (qX11_fieldAt_n l D cy d0 pA np mA nm go0 m0 fQ nf t0 g0 shA pq fnd FQ (a) hno) (cwV 1 hts gX11_belief_X11_fieldAt rfl rfl rfl (by decide +kernel) ⟨Nat.le_of_ble_eq_true rfl, Nat.le_of_ble_eq_true rfl⟩) rfl rfl hP hK hD hN hS hA rfl hl.1 rfl (Nat.le_of_ble_eq_true rfl) dX11_belief_2 ⟨Nat.le_of_ble_eq_true rfl, Nat.le_of_ble_eq_true rfl⟩ (fun r w1 H locs hq hP hD hS => ?_)
  obtain ⟨rfl, rfl⟩ := hq
  have hP : va_P D vwCl ([(d0, .inr (11, [.ref (pA), .int (nI (np)), .ref (mA), .int (nI (nm)), .ref (go0), .ref (m0), .ref (fQ), .int (nI (nf)), .ref (t0), .ref (g0), .ref (shA), .ref (pq), .long (fnd)])), (fQ, .inl (cy 5, 8, .inr (.inr (.inr (.inr FQ)))))]) H := hP
  have hD : va_D A ([(d0, .inr (11, [.ref (pA), .int (nI (np)), .ref (mA), .int (nI (nm)), .ref (go0), .ref (m0), .ref (fQ), .int (nI (nf)), .ref (t0), .ref (g0), .ref (shA), .ref (pq), .long (fnd)])), (fQ, .inl (cy 5, 8, .inr (.inr (.inr (.inr FQ)))))]) := hD
  refine lv_astore_nN (lv' := [(3, .null), (0, .ref (d0)), (1, .int (a)), (2, .int (x1))]) hx hb dX11_belief_5 rfl hl (by decide) rfl (fun ls hl => ?_)
  refine lv_aload_nN hx hb dX11_belief_6 rfl (lv_at hl 0 rfl) ?_
  refine lv_ifnonnullN hx hb dX11_belief_7 ?_
  refine lv_aload_n hx hb dX11_belief_10 rfl (lv_at hl 1 rfl) ?_
  refine lv_ldc2 (v := (-1000000001)) hx hb hown (hts (.constantLong RX11 94 (-1000000001)) (by decide +kernel)) dX11_belief_11 ?_
  refine nq_Vl (As := [.long ((-1000000001))]) (rest := []) (w := [(d0, .inr (11, [.ref (pA), .int (nI (np)), .ref (mA), .int (nI (nm)), .ref (go0), .ref (m0), .ref (fQ), .int (nI (nf)), .ref (t0), .ref (g0), .ref (shA), .ref (pq), .long (fnd)]))]) (wr := [(fQ, .inl (cy 5, 8, .inr (.inr (.inr (.inr FQ)))))]) (ci := 11) (k0 := 0) ⟨hx, hb, hml, hown, hts⟩ (qX11_told l D cy d0 pA np mA nm go0 m0 fQ nf t0 g0 shA pq fnd ((-1000000001)) ) (cwV 1 hts gX11_belief_X11_told rfl rfl rfl (by decide +kernel) ⟨Nat.le_of_ble_eq_true rfl, Nat.le_of_ble_eq_true rfl⟩) rfl rfl hP hK hD hN hS hA rfl hl.1 rfl (Nat.le_of_ble_eq_true rfl) dX11_belief_14 ⟨Nat.le_of_ble_eq_true rfl, Nat.le_of_ble_eq_true rfl⟩ (fun r w1 H locs hq hP hD hS => ?_)
  obtain ⟨rfl, rfl⟩ := hq
  have hP : va_P D vwCl ([(d0, .inr (11, [.ref (pA), .int (nI (np)), .ref (mA), .int (nI (nm)), .ref (go0), .ref (m0), .ref (fQ), .int (nI (nf)), .ref (t0), .ref (g0), .ref (shA), .ref (pq), .long (tol fnd (((-1000000001))))])), (fQ, .inl (cy 5, 8, .inr (.inr (.inr (.inr FQ)))))]) H := hP
  have hD : va_D A ([(d0, .inr (11, [.ref (pA), .int (nI (np)), .ref (mA), .int (nI (nm)), .ref (go0), .ref (m0), .ref (fQ), .int (nI (nf)), .ref (t0), .ref (g0), .ref (shA), .ref (pq), .long (tol fnd (((-1000000001))))])), (fQ, .inl (cy 5, 8, .inr (.inr (.inr (.inr FQ)))))]) := hD
  refine lv_goto (tgt := 29) hx hb dX11_belief_17 (by decide) ?_
  exact hret _ _ _ _ _ _ ⟨rfl, rfl⟩ hP hD hS dX11_belief_29
set_option maxHeartbeats 4000000 in
set_option maxRecDepth 100000 in
theorem qX11_dig_n (l : Launch) (D : va_G) (cy : Nat → ClassId) (d0 : Nat) (pA : Nat) (np : Nat) (mA : Nat) (nm : Nat) (go0 : Nat) (m0 : Nat) (fQ : Nat) (nf : Nat) (t0 : Nat) (g0 : Nat) (shA : Nat) (pq : Nat) (fnd : Int64) (FQ : Nat → Option Nat) (a : Int32) (x1 : Int32) (hno : ¬ ix nf a) : nq_l l D (cT cy) yX11_dig wsX11_dig 1 0 0 22 [.ref (d0), .int (a), .int (x1)] ([(d0, .inr (11, [.ref (pA), .int (nI (np)), .ref (mA), .int (nI (nm)), .ref (go0), .ref (m0), .ref (fQ), .int (nI (nf)), .ref (t0), .ref (g0), .ref (shA), .ref (pq), .long (fnd)])), (fQ, .inl (cy 5, 8, .inr (.inr (.inr (.inr FQ)))))]) (fun r w1 => r = -1000000001 ∧ w1 = [(d0, .inr (11, [.ref (pA), .int (nI (np)), .ref (mA), .int (nI (nm)), .ref (go0), .ref (m0), .ref (fQ), .int (nI (nf)), .ref (t0), .ref (g0), .ref (shA), .ref (pq), .long (tol fnd (-1000000001))])), (fQ, .inl (cy 5, 8, .inr (.inr (.inr (.inr FQ)))))]) := by
  refine nq_l_of (cc := cX11_dig) (maxL := 4) (by decide) rfl (Nat.le_of_ble_eq_true rfl) ?_
  intro p e s m args below meth c A Q ls hx hb hts hown hml hnm hN hA hP hK hD hS hl hret
  have hown : s.vm.findClass RX11 = some m.cls := hown
  have hl : lv_has ls 4 [(0, .ref (d0)), (1, .int (a)), (2, .int (x1))] := hl
  have hP : va_P D vwCl ([(d0, .inr (11, [.ref (pA), .int (nI (np)), .ref (mA), .int (nI (nm)), .ref (go0), .ref (m0), .ref (fQ), .int (nI (nf)), .ref (t0), .ref (g0), .ref (shA), .ref (pq), .long (fnd)])), (fQ, .inl (cy 5, 8, .inr (.inr (.inr (.inr FQ)))))]) s.heap := hP
  refine lv_aload_n hx hb dX11_dig_0 rfl (lv_at hl 0 rfl) ?_
  refine lv_iload_n hx hb dX11_dig_1 rfl (lv_at hl 1 rfl) ?_
  refine nq_Vr (As := [.int (a)]) (rest := []) (w := [(d0, .inr (11, [.ref (pA), .int (nI (np)), .ref (mA), .int (nI (nm)), .ref (go0), .ref (m0), .ref (fQ), .int (nI (nf)), .ref (t0), .ref (g0), .ref (shA), .ref (pq), .long (fnd)])), (fQ, .inl (cy 5, 8, .inr (.inr (.inr (.inr FQ)))))]) (wr := []) (ci := 11) (k0 := 0) ⟨hx, hb, hml, hown, hts⟩ (qX11_fieldAt_n l D cy d0 pA np mA nm go0 m0 fQ nf t0 g0 shA pq fnd FQ (a) hno) (cwV 1 hts gX11_dig_X11_fieldAt rfl rfl rfl (by decide +kernel) ⟨Nat.le_of_ble_eq_true rfl, Nat.le_of_ble_eq_true rfl⟩) rfl rfl hP hK hD hN hS hA rfl hl.1 rfl (Nat.le_of_ble_eq_true rfl) dX11_dig_2 ⟨Nat.le_of_ble_eq_true rfl, Nat.le_of_ble_eq_true rfl⟩ (fun r w1 H locs hq hP hD hS => ?_)
  obtain ⟨rfl, rfl⟩ := hq
  have hP : va_P D vwCl ([(d0, .inr (11, [.ref (pA), .int (nI (np)), .ref (mA), .int (nI (nm)), .ref (go0), .ref (m0), .ref (fQ), .int (nI (nf)), .ref (t0), .ref (g0), .ref (shA), .ref (pq), .long (fnd)])), (fQ, .inl (cy 5, 8, .inr (.inr (.inr (.inr FQ)))))]) H := hP
  have hD : va_D A ([(d0, .inr (11, [.ref (pA), .int (nI (np)), .ref (mA), .int (nI (nm)), .ref (go0), .ref (m0), .ref (fQ), .int (nI (nf)), .ref (t0), .ref (g0), .ref (shA), .ref (pq), .long (fnd)])), (fQ, .inl (cy 5, 8, .inr (.inr (.inr (.inr FQ)))))]) := hD
  refine lv_astore_nN (lv' := [(3, .null), (0, .ref (d0)), (1, .int (a)), (2, .int (x1))]) hx hb dX11_dig_5 rfl hl (by decide) rfl (fun ls hl => ?_)
  refine lv_aload_nN hx hb dX11_dig_6 rfl (lv_at hl 0 rfl) ?_
  refine lv_ifnonnullN hx hb dX11_dig_7 ?_
  refine lv_aload_n hx hb dX11_dig_10 rfl (lv_at hl 1 rfl) ?_
  refine lv_ldc2 (v := (-1000000001)) hx hb hown (hts (.constantLong RX11 94 (-1000000001)) (by decide +kernel)) dX11_dig_11 ?_
  refine nq_Vl (As := [.long ((-1000000001))]) (rest := []) (w := [(d0, .inr (11, [.ref (pA), .int (nI (np)), .ref (mA), .int (nI (nm)), .ref (go0), .ref (m0), .ref (fQ), .int (nI (nf)), .ref (t0), .ref (g0), .ref (shA), .ref (pq), .long (fnd)]))]) (wr := [(fQ, .inl (cy 5, 8, .inr (.inr (.inr (.inr FQ)))))]) (ci := 11) (k0 := 0) ⟨hx, hb, hml, hown, hts⟩ (qX11_told l D cy d0 pA np mA nm go0 m0 fQ nf t0 g0 shA pq fnd ((-1000000001)) ) (cwV 1 hts gX11_dig_X11_told rfl rfl rfl (by decide +kernel) ⟨Nat.le_of_ble_eq_true rfl, Nat.le_of_ble_eq_true rfl⟩) rfl rfl hP hK hD hN hS hA rfl hl.1 rfl (Nat.le_of_ble_eq_true rfl) dX11_dig_14 ⟨Nat.le_of_ble_eq_true rfl, Nat.le_of_ble_eq_true rfl⟩ (fun r w1 H locs hq hP hD hS => ?_)
  obtain ⟨rfl, rfl⟩ := hq
  have hP : va_P D vwCl ([(d0, .inr (11, [.ref (pA), .int (nI (np)), .ref (mA), .int (nI (nm)), .ref (go0), .ref (m0), .ref (fQ), .int (nI (nf)), .ref (t0), .ref (g0), .ref (shA), .ref (pq), .long (tol fnd (((-1000000001))))])), (fQ, .inl (cy 5, 8, .inr (.inr (.inr (.inr FQ)))))]) H := hP
  have hD : va_D A ([(d0, .inr (11, [.ref (pA), .int (nI (np)), .ref (mA), .int (nI (nm)), .ref (go0), .ref (m0), .ref (fQ), .int (nI (nf)), .ref (t0), .ref (g0), .ref (shA), .ref (pq), .long (tol fnd (((-1000000001))))])), (fQ, .inl (cy 5, 8, .inr (.inr (.inr (.inr FQ)))))]) := hD
  exact hret _ _ _ _ _ _ ⟨rfl, rfl⟩ hP hD hS dX11_dig_17
set_option maxHeartbeats 4000000 in
set_option maxRecDepth 100000 in
theorem qX11_sheet_n (l : Launch) (D : va_G) (cy : Nat → ClassId) (d0 : Nat) (pA : Nat) (np : Nat) (mA : Nat) (nm : Nat) (go0 : Nat) (m0 : Nat) (fQ : Nat) (nf : Nat) (t0 : Nat) (g0 : Nat) (shA : Nat) (pq : Nat) (fnd : Int64) (HA : Nat → Option Nat) (a : Int32) (x1 : Int32) (x2 : Int32) (hno : ¬ ix 4 a) : nq_l l D (cT cy) yX11_sheet wsX11_sheet 1 0 0 22 [.ref (d0), .int (a), .int (x1), .int (x2)] ([(d0, .inr (11, [.ref (pA), .int (nI (np)), .ref (mA), .int (nI (nm)), .ref (go0), .ref (m0), .ref (fQ), .int (nI (nf)), .ref (t0), .ref (g0), .ref (shA), .ref (pq), .long (fnd)])), (shA, .inl (cy 6, 4, .inr (.inr (.inr (.inr HA)))))]) (fun r w1 => r = -1000000001 ∧ w1 = [(d0, .inr (11, [.ref (pA), .int (nI (np)), .ref (mA), .int (nI (nm)), .ref (go0), .ref (m0), .ref (fQ), .int (nI (nf)), .ref (t0), .ref (g0), .ref (shA), .ref (pq), .long (tol fnd (-1000000001))])), (shA, .inl (cy 6, 4, .inr (.inr (.inr (.inr HA)))))]) := by
  refine nq_l_of (cc := cX11_sheet) (maxL := 5) (by decide) rfl (Nat.le_of_ble_eq_true rfl) ?_
  intro p e s m args below meth c A Q ls hx hb hts hown hml hnm hN hA hP hK hD hS hl hret
  have hown : s.vm.findClass RX11 = some m.cls := hown
  have hl : lv_has ls 5 [(0, .ref (d0)), (1, .int (a)), (2, .int (x1)), (3, .int (x2))] := hl
  have hP : va_P D vwCl ([(d0, .inr (11, [.ref (pA), .int (nI (np)), .ref (mA), .int (nI (nm)), .ref (go0), .ref (m0), .ref (fQ), .int (nI (nf)), .ref (t0), .ref (g0), .ref (shA), .ref (pq), .long (fnd)])), (shA, .inl (cy 6, 4, .inr (.inr (.inr (.inr HA)))))]) s.heap := hP
  refine lv_aload_n hx hb dX11_sheet_0 rfl (lv_at hl 0 rfl) ?_
  refine lv_iload_n hx hb dX11_sheet_1 rfl (lv_at hl 1 rfl) ?_
  refine nq_Vr (As := [.int (a)]) (rest := []) (w := [(d0, .inr (11, [.ref (pA), .int (nI (np)), .ref (mA), .int (nI (nm)), .ref (go0), .ref (m0), .ref (fQ), .int (nI (nf)), .ref (t0), .ref (g0), .ref (shA), .ref (pq), .long (fnd)])), (shA, .inl (cy 6, 4, .inr (.inr (.inr (.inr HA)))))]) (wr := []) (ci := 11) (k0 := 0) ⟨hx, hb, hml, hown, hts⟩ (qX11_sheetAt_n l D cy d0 pA np mA nm go0 m0 fQ nf t0 g0 shA pq fnd HA (a) hno) (cwV 1 hts gX11_sheet_X11_sheetAt rfl rfl rfl (by decide +kernel) ⟨Nat.le_of_ble_eq_true rfl, Nat.le_of_ble_eq_true rfl⟩) rfl rfl hP hK hD hN hS hA rfl hl.1 rfl (Nat.le_of_ble_eq_true rfl) dX11_sheet_2 ⟨Nat.le_of_ble_eq_true rfl, Nat.le_of_ble_eq_true rfl⟩ (fun r w1 H locs hq hP hD hS => ?_)
  obtain ⟨rfl, rfl⟩ := hq
  have hP : va_P D vwCl ([(d0, .inr (11, [.ref (pA), .int (nI (np)), .ref (mA), .int (nI (nm)), .ref (go0), .ref (m0), .ref (fQ), .int (nI (nf)), .ref (t0), .ref (g0), .ref (shA), .ref (pq), .long (fnd)])), (shA, .inl (cy 6, 4, .inr (.inr (.inr (.inr HA)))))]) H := hP
  have hD : va_D A ([(d0, .inr (11, [.ref (pA), .int (nI (np)), .ref (mA), .int (nI (nm)), .ref (go0), .ref (m0), .ref (fQ), .int (nI (nf)), .ref (t0), .ref (g0), .ref (shA), .ref (pq), .long (fnd)])), (shA, .inl (cy 6, 4, .inr (.inr (.inr (.inr HA)))))]) := hD
  refine lv_astoreN (lv' := [(4, .null), (0, .ref (d0)), (1, .int (a)), (2, .int (x1)), (3, .int (x2))]) hx hb dX11_sheet_5 hl (by decide) rfl (fun ls hl => ?_)
  refine lv_aloadN hx hb dX11_sheet_7 (lv_at hl 0 rfl) ?_
  refine lv_ifnullN (tgt := 19) hx hb dX11_sheet_9 (by decide) ?_
  refine lv_aload_n hx hb dX11_sheet_19 rfl (lv_at hl 1 rfl) ?_
  refine lv_ldc2 (v := (-1000000001)) hx hb hown (hts (.constantLong RX11 94 (-1000000001)) (by decide +kernel)) dX11_sheet_20 ?_
  refine nq_Vl (As := [.long ((-1000000001))]) (rest := []) (w := [(d0, .inr (11, [.ref (pA), .int (nI (np)), .ref (mA), .int (nI (nm)), .ref (go0), .ref (m0), .ref (fQ), .int (nI (nf)), .ref (t0), .ref (g0), .ref (shA), .ref (pq), .long (fnd)]))]) (wr := [(shA, .inl (cy 6, 4, .inr (.inr (.inr (.inr HA)))))]) (ci := 11) (k0 := 0) ⟨hx, hb, hml, hown, hts⟩ (qX11_told l D cy d0 pA np mA nm go0 m0 fQ nf t0 g0 shA pq fnd ((-1000000001)) ) (cwV 1 hts gX11_sheet_X11_told rfl rfl rfl (by decide +kernel) ⟨Nat.le_of_ble_eq_true rfl, Nat.le_of_ble_eq_true rfl⟩) rfl rfl hP hK hD hN hS hA rfl hl.1 rfl (Nat.le_of_ble_eq_true rfl) dX11_sheet_23 ⟨Nat.le_of_ble_eq_true rfl, Nat.le_of_ble_eq_true rfl⟩ (fun r w1 H locs hq hP hD hS => ?_)
  obtain ⟨rfl, rfl⟩ := hq
  have hP : va_P D vwCl ([(d0, .inr (11, [.ref (pA), .int (nI (np)), .ref (mA), .int (nI (nm)), .ref (go0), .ref (m0), .ref (fQ), .int (nI (nf)), .ref (t0), .ref (g0), .ref (shA), .ref (pq), .long (tol fnd (((-1000000001))))])), (shA, .inl (cy 6, 4, .inr (.inr (.inr (.inr HA)))))]) H := hP
  have hD : va_D A ([(d0, .inr (11, [.ref (pA), .int (nI (np)), .ref (mA), .int (nI (nm)), .ref (go0), .ref (m0), .ref (fQ), .int (nI (nf)), .ref (t0), .ref (g0), .ref (shA), .ref (pq), .long (tol fnd (((-1000000001))))])), (shA, .inl (cy 6, 4, .inr (.inr (.inr (.inr HA)))))]) := hD
  exact hret _ _ _ _ _ _ ⟨rfl, rfl⟩ hP hD hS dX11_sheet_26
set_option maxHeartbeats 4000000 in
set_option maxRecDepth 100000 in
theorem qX11_put_n (l : Launch) (D : va_G) (cy : Nat → ClassId) (d0 : Nat) (pA : Nat) (np : Nat) (mA : Nat) (nm : Nat) (go0 : Nat) (m0 : Nat) (fQ : Nat) (nf : Nat) (t0 : Nat) (g0 : Nat) (shA : Nat) (pq : Nat) (fnd : Int64) (HA : Nat → Option Nat) (a : Int32) (x1 : Int32) (x2 : Int32) (hno : ¬ ix 4 a) : nq_l l D (cT cy) yX11_put wsX11_put 1 0 0 22 [.ref (d0), .int (a), .int (x1), .int (x2)] ([(d0, .inr (11, [.ref (pA), .int (nI (np)), .ref (mA), .int (nI (nm)), .ref (go0), .ref (m0), .ref (fQ), .int (nI (nf)), .ref (t0), .ref (g0), .ref (shA), .ref (pq), .long (fnd)])), (shA, .inl (cy 6, 4, .inr (.inr (.inr (.inr HA)))))]) (fun r w1 => r = -1000000001 ∧ w1 = [(d0, .inr (11, [.ref (pA), .int (nI (np)), .ref (mA), .int (nI (nm)), .ref (go0), .ref (m0), .ref (fQ), .int (nI (nf)), .ref (t0), .ref (g0), .ref (shA), .ref (pq), .long (tol fnd (-1000000001))])), (shA, .inl (cy 6, 4, .inr (.inr (.inr (.inr HA)))))]) := by
  refine nq_l_of (cc := cX11_put) (maxL := 5) (by decide) rfl (Nat.le_of_ble_eq_true rfl) ?_
  intro p e s m args below meth c A Q ls hx hb hts hown hml hnm hN hA hP hK hD hS hl hret
  have hown : s.vm.findClass RX11 = some m.cls := hown
  have hl : lv_has ls 5 [(0, .ref (d0)), (1, .int (a)), (2, .int (x1)), (3, .int (x2))] := hl
  have hP : va_P D vwCl ([(d0, .inr (11, [.ref (pA), .int (nI (np)), .ref (mA), .int (nI (nm)), .ref (go0), .ref (m0), .ref (fQ), .int (nI (nf)), .ref (t0), .ref (g0), .ref (shA), .ref (pq), .long (fnd)])), (shA, .inl (cy 6, 4, .inr (.inr (.inr (.inr HA)))))]) s.heap := hP
  refine lv_aload_n hx hb dX11_put_0 rfl (lv_at hl 0 rfl) ?_
  refine lv_iload_n hx hb dX11_put_1 rfl (lv_at hl 1 rfl) ?_
  refine nq_Vr (As := [.int (a)]) (rest := []) (w := [(d0, .inr (11, [.ref (pA), .int (nI (np)), .ref (mA), .int (nI (nm)), .ref (go0), .ref (m0), .ref (fQ), .int (nI (nf)), .ref (t0), .ref (g0), .ref (shA), .ref (pq), .long (fnd)])), (shA, .inl (cy 6, 4, .inr (.inr (.inr (.inr HA)))))]) (wr := []) (ci := 11) (k0 := 0) ⟨hx, hb, hml, hown, hts⟩ (qX11_sheetAt_n l D cy d0 pA np mA nm go0 m0 fQ nf t0 g0 shA pq fnd HA (a) hno) (cwV 1 hts gX11_put_X11_sheetAt rfl rfl rfl (by decide +kernel) ⟨Nat.le_of_ble_eq_true rfl, Nat.le_of_ble_eq_true rfl⟩) rfl rfl hP hK hD hN hS hA rfl hl.1 rfl (Nat.le_of_ble_eq_true rfl) dX11_put_2 ⟨Nat.le_of_ble_eq_true rfl, Nat.le_of_ble_eq_true rfl⟩ (fun r w1 H locs hq hP hD hS => ?_)
  obtain ⟨rfl, rfl⟩ := hq
  have hP : va_P D vwCl ([(d0, .inr (11, [.ref (pA), .int (nI (np)), .ref (mA), .int (nI (nm)), .ref (go0), .ref (m0), .ref (fQ), .int (nI (nf)), .ref (t0), .ref (g0), .ref (shA), .ref (pq), .long (fnd)])), (shA, .inl (cy 6, 4, .inr (.inr (.inr (.inr HA)))))]) H := hP
  have hD : va_D A ([(d0, .inr (11, [.ref (pA), .int (nI (np)), .ref (mA), .int (nI (nm)), .ref (go0), .ref (m0), .ref (fQ), .int (nI (nf)), .ref (t0), .ref (g0), .ref (shA), .ref (pq), .long (fnd)])), (shA, .inl (cy 6, 4, .inr (.inr (.inr (.inr HA)))))]) := hD
  refine lv_astoreN (lv' := [(4, .null), (0, .ref (d0)), (1, .int (a)), (2, .int (x1)), (3, .int (x2))]) hx hb dX11_put_5 hl (by decide) rfl (fun ls hl => ?_)
  refine lv_aloadN hx hb dX11_put_7 (lv_at hl 0 rfl) ?_
  refine lv_ifnonnullN hx hb dX11_put_9 ?_
  refine lv_aload_n hx hb dX11_put_12 rfl (lv_at hl 1 rfl) ?_
  refine lv_ldc2 (v := (-1000000001)) hx hb hown (hts (.constantLong RX11 94 (-1000000001)) (by decide +kernel)) dX11_put_13 ?_
  refine nq_Vl (As := [.long ((-1000000001))]) (rest := []) (w := [(d0, .inr (11, [.ref (pA), .int (nI (np)), .ref (mA), .int (nI (nm)), .ref (go0), .ref (m0), .ref (fQ), .int (nI (nf)), .ref (t0), .ref (g0), .ref (shA), .ref (pq), .long (fnd)]))]) (wr := [(shA, .inl (cy 6, 4, .inr (.inr (.inr (.inr HA)))))]) (ci := 11) (k0 := 0) ⟨hx, hb, hml, hown, hts⟩ (qX11_told l D cy d0 pA np mA nm go0 m0 fQ nf t0 g0 shA pq fnd ((-1000000001)) ) (cwV 1 hts gX11_put_X11_told rfl rfl rfl (by decide +kernel) ⟨Nat.le_of_ble_eq_true rfl, Nat.le_of_ble_eq_true rfl⟩) rfl rfl hP hK hD hN hS hA rfl hl.1 rfl (Nat.le_of_ble_eq_true rfl) dX11_put_16 ⟨Nat.le_of_ble_eq_true rfl, Nat.le_of_ble_eq_true rfl⟩ (fun r w1 H locs hq hP hD hS => ?_)
  obtain ⟨rfl, rfl⟩ := hq
  have hP : va_P D vwCl ([(d0, .inr (11, [.ref (pA), .int (nI (np)), .ref (mA), .int (nI (nm)), .ref (go0), .ref (m0), .ref (fQ), .int (nI (nf)), .ref (t0), .ref (g0), .ref (shA), .ref (pq), .long (tol fnd (((-1000000001))))])), (shA, .inl (cy 6, 4, .inr (.inr (.inr (.inr HA)))))]) H := hP
  have hD : va_D A ([(d0, .inr (11, [.ref (pA), .int (nI (np)), .ref (mA), .int (nI (nm)), .ref (go0), .ref (m0), .ref (fQ), .int (nI (nf)), .ref (t0), .ref (g0), .ref (shA), .ref (pq), .long (tol fnd (((-1000000001))))])), (shA, .inl (cy 6, 4, .inr (.inr (.inr (.inr HA)))))]) := hD
  exact hret _ _ _ _ _ _ ⟨rfl, rfl⟩ hP hD hS dX11_put_19
set_option maxHeartbeats 4000000 in
set_option maxRecDepth 100000 in
theorem qX11_text_n (l : Launch) (D : va_G) (cy : Nat → ClassId) (d0 : Nat) (pA : Nat) (np : Nat) (mA : Nat) (nm : Nat) (go0 : Nat) (m0 : Nat) (fQ : Nat) (nf : Nat) (t0 : Nat) (g0 : Nat) (shA : Nat) (pq : Nat) (fnd : Int64) (HA : Nat → Option Nat) (a : Int32) (hno : ¬ ix 4 a) : nq_l l D (cT cy) yX11_text wsX11_text 1 0 0 22 [.ref (d0), .int (a)] ([(d0, .inr (11, [.ref (pA), .int (nI (np)), .ref (mA), .int (nI (nm)), .ref (go0), .ref (m0), .ref (fQ), .int (nI (nf)), .ref (t0), .ref (g0), .ref (shA), .ref (pq), .long (fnd)])), (shA, .inl (cy 6, 4, .inr (.inr (.inr (.inr HA)))))]) (fun r w1 => r = -1000000001 ∧ w1 = [(d0, .inr (11, [.ref (pA), .int (nI (np)), .ref (mA), .int (nI (nm)), .ref (go0), .ref (m0), .ref (fQ), .int (nI (nf)), .ref (t0), .ref (g0), .ref (shA), .ref (pq), .long (tol fnd (-1000000001))])), (shA, .inl (cy 6, 4, .inr (.inr (.inr (.inr HA)))))]) := by
  refine nq_l_of (cc := cX11_text) (maxL := 3) (by decide) rfl (Nat.le_of_ble_eq_true rfl) ?_
  intro p e s m args below meth c A Q ls hx hb hts hown hml hnm hN hA hP hK hD hS hl hret
  have hown : s.vm.findClass RX11 = some m.cls := hown
  have hl : lv_has ls 3 [(0, .ref (d0)), (1, .int (a))] := hl
  have hP : va_P D vwCl ([(d0, .inr (11, [.ref (pA), .int (nI (np)), .ref (mA), .int (nI (nm)), .ref (go0), .ref (m0), .ref (fQ), .int (nI (nf)), .ref (t0), .ref (g0), .ref (shA), .ref (pq), .long (fnd)])), (shA, .inl (cy 6, 4, .inr (.inr (.inr (.inr HA)))))]) s.heap := hP
  refine lv_aload_n hx hb dX11_text_0 rfl (lv_at hl 0 rfl) ?_
  refine lv_iload_n hx hb dX11_text_1 rfl (lv_at hl 1 rfl) ?_
  refine nq_Vr (As := [.int (a)]) (rest := []) (w := [(d0, .inr (11, [.ref (pA), .int (nI (np)), .ref (mA), .int (nI (nm)), .ref (go0), .ref (m0), .ref (fQ), .int (nI (nf)), .ref (t0), .ref (g0), .ref (shA), .ref (pq), .long (fnd)])), (shA, .inl (cy 6, 4, .inr (.inr (.inr (.inr HA)))))]) (wr := []) (ci := 11) (k0 := 0) ⟨hx, hb, hml, hown, hts⟩ (qX11_sheetAt_n l D cy d0 pA np mA nm go0 m0 fQ nf t0 g0 shA pq fnd HA (a) hno) (cwV 1 hts gX11_text_X11_sheetAt rfl rfl rfl (by decide +kernel) ⟨Nat.le_of_ble_eq_true rfl, Nat.le_of_ble_eq_true rfl⟩) rfl rfl hP hK hD hN hS hA rfl hl.1 rfl (Nat.le_of_ble_eq_true rfl) dX11_text_2 ⟨Nat.le_of_ble_eq_true rfl, Nat.le_of_ble_eq_true rfl⟩ (fun r w1 H locs hq hP hD hS => ?_)
  obtain ⟨rfl, rfl⟩ := hq
  have hP : va_P D vwCl ([(d0, .inr (11, [.ref (pA), .int (nI (np)), .ref (mA), .int (nI (nm)), .ref (go0), .ref (m0), .ref (fQ), .int (nI (nf)), .ref (t0), .ref (g0), .ref (shA), .ref (pq), .long (fnd)])), (shA, .inl (cy 6, 4, .inr (.inr (.inr (.inr HA)))))]) H := hP
  have hD : va_D A ([(d0, .inr (11, [.ref (pA), .int (nI (np)), .ref (mA), .int (nI (nm)), .ref (go0), .ref (m0), .ref (fQ), .int (nI (nf)), .ref (t0), .ref (g0), .ref (shA), .ref (pq), .long (fnd)])), (shA, .inl (cy 6, 4, .inr (.inr (.inr (.inr HA)))))]) := hD
  refine lv_astore_nN (lv' := [(2, .null), (0, .ref (d0)), (1, .int (a))]) hx hb dX11_text_5 rfl hl (by decide) rfl (fun ls hl => ?_)
  refine lv_aload_nN hx hb dX11_text_6 rfl (lv_at hl 0 rfl) ?_
  refine lv_ifnonnullN hx hb dX11_text_7 ?_
  refine lv_aload_n hx hb dX11_text_10 rfl (lv_at hl 1 rfl) ?_
  refine lv_ldc2 (v := (-1000000001)) hx hb hown (hts (.constantLong RX11 94 (-1000000001)) (by decide +kernel)) dX11_text_11 ?_
  refine nq_Vl (As := [.long ((-1000000001))]) (rest := []) (w := [(d0, .inr (11, [.ref (pA), .int (nI (np)), .ref (mA), .int (nI (nm)), .ref (go0), .ref (m0), .ref (fQ), .int (nI (nf)), .ref (t0), .ref (g0), .ref (shA), .ref (pq), .long (fnd)]))]) (wr := [(shA, .inl (cy 6, 4, .inr (.inr (.inr (.inr HA)))))]) (ci := 11) (k0 := 0) ⟨hx, hb, hml, hown, hts⟩ (qX11_told l D cy d0 pA np mA nm go0 m0 fQ nf t0 g0 shA pq fnd ((-1000000001)) ) (cwV 1 hts gX11_text_X11_told rfl rfl rfl (by decide +kernel) ⟨Nat.le_of_ble_eq_true rfl, Nat.le_of_ble_eq_true rfl⟩) rfl rfl hP hK hD hN hS hA rfl hl.1 rfl (Nat.le_of_ble_eq_true rfl) dX11_text_14 ⟨Nat.le_of_ble_eq_true rfl, Nat.le_of_ble_eq_true rfl⟩ (fun r w1 H locs hq hP hD hS => ?_)
  obtain ⟨rfl, rfl⟩ := hq
  have hP : va_P D vwCl ([(d0, .inr (11, [.ref (pA), .int (nI (np)), .ref (mA), .int (nI (nm)), .ref (go0), .ref (m0), .ref (fQ), .int (nI (nf)), .ref (t0), .ref (g0), .ref (shA), .ref (pq), .long (tol fnd (((-1000000001))))])), (shA, .inl (cy 6, 4, .inr (.inr (.inr (.inr HA)))))]) H := hP
  have hD : va_D A ([(d0, .inr (11, [.ref (pA), .int (nI (np)), .ref (mA), .int (nI (nm)), .ref (go0), .ref (m0), .ref (fQ), .int (nI (nf)), .ref (t0), .ref (g0), .ref (shA), .ref (pq), .long (tol fnd (((-1000000001))))])), (shA, .inl (cy 6, 4, .inr (.inr (.inr (.inr HA)))))]) := hD
  exact hret _ _ _ _ _ _ ⟨rfl, rfl⟩ hP hD hS dX11_text_17
