abbrev asOk (k own : Nat) : Prop := k = 0 ∨ own = k ∨ (k = 1 ∧ (own = 1 ∨ own = 3))
def zN (z : Int32) : Nat := if z = 0 then 0 else 1
theorem zN_0 {z : Int32} (h : z = 0) : zN z = 0 := if_pos h
theorem zN_1 {z : Int32} (h : ¬ z = 0) : zN z = 1 := if_neg h
theorem cpN_s0 (f g : Nat → Nat) (k : Nat) : upN (cpN f g 0 k) k (g k) = cpN f g 0 (k + 1) := by
  have h := cpN_s f g 0 k
  rw [Nat.zero_add] at h
  exact h
/-- g's first n from d on among f's, of ints -/
def cpI (f g : Nat → Int32) (d n : Nat) : Nat → Int32 := fun j => if d ≤ j ∧ j < d + n then g (j - d) else f j
theorem cpI_0 (f g : Nat → Int32) (d : Nat) : cpI f g d 0 = f := by
  funext j
  simp only [cpI]
  rw [if_neg (by omega)]
theorem cpI_s (f g : Nat → Int32) (d k : Nat) : upd (cpI f g d k) (d + k) (g k) = cpI f g d (k + 1) := by
  funext j
  simp only [cpI, upd]
  by_cases h : j = d + k
  · subst h
    rw [if_pos rfl, if_pos (by omega), Nat.add_sub_cancel_left]
  · rw [if_neg h]
    by_cases h2 : d ≤ j ∧ j < d + k
    · rw [if_pos h2, if_pos (by omega)]
    · rw [if_neg h2, if_neg (by omega)]
theorem cpI_in {f g : Nat → Int32} {d n j : Nat} (h : j < n) : cpI f g d n (d + j) = g j := by
  simp only [cpI]
  rw [if_pos (by omega), Nat.add_sub_cancel_left]
theorem cpI_out {f g : Nat → Int32} {d n j : Nat} (h : j < d ∨ d + n ≤ j) : cpI f g d n j = f j := by
  simp only [cpI]
  rw [if_neg (by omega)]
set_option maxHeartbeats 4000000 in
set_option maxRecDepth 100000 in
theorem cM_as (l : Launch) (D : va_G) (ad : Nat → Nat) (cI cJ : ClassId) (a kp bt sz : Nat → Nat) (sheets : Nat → Int32) (go ro : Nat → Nat) (car : Nat → Int32) (ke km fi gm bs bu : Nat) (n1 n2 n3 n4 n5 n6 n7 : Int64) (px py db : Nat → Int64) (mi : Int32) (ki : Int32) (h1 : a 1 ≤ 20) (hki : ∀ i, i < a 1 → a (202 + 6 * i + 1) ≤ 3) : mq_l l D (mT cI cJ) yX12_as wsX12_as 2 0 0 43 [.ref (ad 0), .int (mi), .int (ki)] (mW ad cI cJ a kp bt sz sheets go ro car ke km fi gm bs bu n1 n2 n3 n4 n5 n6 n7 px py db) (fun r w1 => (¬ (ix (a 1) mi ∧ rg 0 3 ki) ∧ r = -1000000001 ∧ w1 = mW ad cI cJ a kp bt sz sheets go ro car ke km (fi + 1) gm bs bu n1 n2 n3 n4 n5 n6 n7 px py db) ∨ (∃ i k : Nat, (mi = nI i ∧ ki = nI k ∧ i < a 1 ∧ k ≤ 3) ∧ ((asOk k (a (202 + 6 * i + 1)) ∧ r = (nI i).toInt64 ∧ w1 = mW ad cI cJ a kp bt sz sheets go ro car ke km fi gm bs bu n1 n2 n3 n4 n5 n6 n7 px py db) ∨ (¬ asOk k (a (202 + 6 * i + 1)) ∧ r = -1000000004 ∧ w1 = mW ad cI cJ a kp bt sz sheets go ro car ke km (fi + 1) gm bs bu n1 n2 n3 n4 n5 n6 n7 px py db)))) := by
  refine mq_l_of (cc := cX12_as) (maxL := 4) (by decide) rfl (Nat.le_of_ble_eq_true rfl) ?_
  intro p e s m args below meth c A Q ls hx hb hts hown hml hnm hA hP hK hD hS hl hret
  have hown : s.vm.findClass RX12 = some m.cls := hown
  have hinX12 : ∀ w ∈ u_ws RX12 TX12 24, w ∈ wsX12_as := by decide +kernel
  have hl : lv_has ls 4 [(0, .ref (ad 0)), (1, .int (mi)), (2, .int (ki))] := hl
  refine lv_aload_n hx hb dX12_as_0 rfl (lv_at hl 0 rfl) ?_
  refine lv_iload_n hx hb dX12_as_1 rfl (lv_at hl 1 rfl) ?_
  refine mq_Vi (As := [.int (mi)]) (rest := []) (ci := 12) (k0 := 0) ⟨hx, hb, hml, hown, hts⟩ (cM_isMark l D ad cI cJ a kp bt sz sheets go ro car ke km fi gm bs bu n1 n2 n3 n4 n5 n6 n7 px py db (mi) (by omega)) (cwV 1 hts gX12_as_X12_isMark rfl rfl rfl (by decide +kernel) ⟨Nat.le_of_ble_eq_true rfl, Nat.le_of_ble_eq_true rfl⟩) rfl rfl hP hK hD hS hA rfl hl.1 rfl (Nat.le_of_ble_eq_true rfl) dX12_as_2 ⟨Nat.le_of_ble_eq_true rfl, Nat.le_of_ble_eq_true rfl⟩ (fun r w1 H locs hq hP hD hS => ?_)
  obtain ⟨rfl, rfl⟩ := hq
  refine lb_if_eq (tgt := 17) hx hb dX12_as_5 (by decide) (fun c1 => ?_) (fun c1 => ?_)
  · refine lv_aload_n hx hb dX12_as_17 rfl (lv_at hl 0 rfl) ?_
    refine lv_ldc2 (v := (-1000000001)) hx hb hown (hts (.constantLong RX12 76 (-1000000001)) (by decide +kernel)) dX12_as_18 ?_
    refine mq_Vl (As := [.long ((-1000000001))]) (rest := []) (ci := 12) (k0 := 0) ⟨hx, hb, hml, hown, hts⟩ (cM_finds l D ad cI cJ a kp bt sz sheets go ro car ke km fi gm bs bu n1 n2 n3 n4 n5 n6 n7 px py db ((-1000000001)) ) (cwV 1 hts gX12_as_X12_finds rfl rfl rfl (by decide +kernel) ⟨Nat.le_of_ble_eq_true rfl, Nat.le_of_ble_eq_true rfl⟩) rfl rfl hP hK hD hS hA rfl hl.1 rfl (Nat.le_of_ble_eq_true rfl) dX12_as_21 ⟨Nat.le_of_ble_eq_true rfl, Nat.le_of_ble_eq_true rfl⟩ (fun r w1 H locs hq hP hD hS => ?_)
    obtain ⟨rfl, rfl⟩ := hq
    exact hret _ _ _ _ _ _ (Or.inl ⟨fun h => c1 h.1, rfl, rfl⟩) hP hD hS dX12_as_24
  · refine lv_iload_n hx hb dX12_as_8 rfl (lv_at hl 2 rfl) ?_
    refine lv_iconst (v := (nI (0))) hx hb dX12_as_9 (by decide) ?_
    refine lv_iconst (v := (nI (3))) hx hb dX12_as_10 (by decide) ?_
    refine mq_Si (As := [.int (ki), .int (nI (0)), .int (nI (3))]) (rest := []) ⟨hx, hb, hml, hown, hts⟩ (cM_in l D _ (ki) (nI (0)) (nI (3)) ) (cwS 3 hts gX12_as_X12_in rfl rfl rfl (by decide +kernel) ⟨Nat.le_of_ble_eq_true rfl, Nat.le_of_ble_eq_true rfl⟩) hP hK hS hA rfl hl.1 rfl (Nat.le_of_ble_eq_true rfl) dX12_as_11 ⟨Nat.le_of_ble_eq_true rfl, Nat.le_of_ble_eq_true rfl⟩ (fun r w1 H locs hq hP hS => ?_)
    subst hq
    refine lb_if_ne (tgt := 25) hx hb dX12_as_14 (by decide) (fun c2 => ?_) (fun c2 => ?_)
    · obtain ⟨i, hi, rfl⟩ := ix_of c1 (by omega)
      obtain ⟨k, -, hk, rfl⟩ := rg_of c2 (by decide) (by decide)
      have ho := hki i hi
      refine lv_aload_n hx hb dX12_as_25 rfl (lv_at hl 0 rfl) ?_
      refine lv_iload_n hx hb dX12_as_26 rfl (lv_at hl 1 rfl) ?_
      refine lv_iconst (v := (nI (1))) hx hb dX12_as_27 (by decide) ?_
      refine mq_Vi (As := [.int (nI (i)), .int (nI (1))]) (rest := []) (ci := 12) (k0 := 0) ⟨hx, hb, hml, hown, hts⟩ (cM_ofMark l D ad cI cJ a kp bt sz sheets go ro car ke km fi gm bs bu n1 n2 n3 n4 n5 n6 n7 px py db (i) (1) (by omega)) (cwV 2 hts gX12_as_X12_ofMark rfl rfl rfl (by decide +kernel) ⟨Nat.le_of_ble_eq_true rfl, Nat.le_of_ble_eq_true rfl⟩) rfl rfl hP hK hD hS hA rfl hl.1 rfl (Nat.le_of_ble_eq_true rfl) dX12_as_28 ⟨Nat.le_of_ble_eq_true rfl, Nat.le_of_ble_eq_true rfl⟩ (fun r w1 H locs hq hP hD hS => ?_)
      obtain ⟨rfl, rfl⟩ := hq
      refine lv_istore_n (lv' := [(3, .int (nI (a (202 + 6 * (i) + (1))))), (0, .ref (ad 0)), (1, .int (nI (i))), (2, .int (nI (k)))]) hx hb dX12_as_31 rfl hl (by decide) rfl (fun ls hl => ?_)
      refine lv_iload_n hx hb dX12_as_32 rfl (lv_at hl 3 rfl) ?_
      refine ln_if_eq (tgt := 53) hx hb dX12_as_33 (by decide) (by omega) (fun c3 => ?_) (fun c3 => ?_)
      · refine lv_iload_n hx hb dX12_as_53 rfl (lv_at hl 2 rfl) ?_
        refine lv_i2l hx hb dX12_as_54 rfl ?_
        refine lv_goto (tgt := 65) hx hb dX12_as_55 (by decide) ?_
        exact hret _ _ _ _ _ _ (Or.inr ⟨i, k, ⟨rfl, rfl, hi, hk⟩, Or.inl ⟨Or.inl c3, rfl, rfl⟩⟩) hP hD hS dX12_as_65
      · refine lv_iload_n hx hb dX12_as_36 rfl (lv_at hl 0 rfl) ?_
        refine lv_iload_n hx hb dX12_as_37 rfl (lv_at hl 3 rfl) ?_
        refine ln_icmp_eq (tgt := 53) hx hb dX12_as_38 (by decide) (by omega) (by omega) (fun c4 => ?_) (fun c4 => ?_)
        · refine lv_iload_n hx hb dX12_as_53 rfl (lv_at hl 2 rfl) ?_
          refine lv_i2l hx hb dX12_as_54 rfl ?_
          refine lv_goto (tgt := 65) hx hb dX12_as_55 (by decide) ?_
          exact hret _ _ _ _ _ _ (Or.inr ⟨i, k, ⟨rfl, rfl, hi, hk⟩, Or.inl ⟨Or.inr (Or.inl c4), rfl, rfl⟩⟩) hP hD hS dX12_as_65
        · refine lv_iload_n hx hb dX12_as_41 rfl (lv_at hl 3 rfl) ?_
          refine lv_iconst (v := (nI (1))) hx hb dX12_as_42 (by decide) ?_
          refine ln_icmp_ne (tgt := 58) hx hb dX12_as_43 (by decide) (by omega) (by omega) (fun c5 => ?_) (fun c5 => ?_)
          · refine lv_aload_n hx hb dX12_as_58 rfl (lv_at hl 1 rfl) ?_
            refine lv_ldc2 (v := (-1000000004)) hx hb hown (hts (.constantLong RX12 131 (-1000000004)) (by decide +kernel)) dX12_as_59 ?_
            refine mq_Vl (As := [.long ((-1000000004))]) (rest := []) (ci := 12) (k0 := 0) ⟨hx, hb, hml, hown, hts⟩ (cM_finds l D ad cI cJ a kp bt sz sheets go ro car ke km fi gm bs bu n1 n2 n3 n4 n5 n6 n7 px py db ((-1000000004)) ) (cwV 1 hts gX12_as_X12_finds rfl rfl rfl (by decide +kernel) ⟨Nat.le_of_ble_eq_true rfl, Nat.le_of_ble_eq_true rfl⟩) rfl rfl hP hK hD hS hA rfl hl.1 rfl (Nat.le_of_ble_eq_true rfl) dX12_as_62 ⟨Nat.le_of_ble_eq_true rfl, Nat.le_of_ble_eq_true rfl⟩ (fun r w1 H locs hq hP hD hS => ?_)
            obtain ⟨rfl, rfl⟩ := hq
            exact hret _ _ _ _ _ _ (Or.inr ⟨i, k, ⟨rfl, rfl, hi, hk⟩, Or.inr ⟨fun h => by omega, rfl, rfl⟩⟩) hP hD hS dX12_as_65
          · refine lv_iload_n hx hb dX12_as_46 rfl (lv_at hl 0 rfl) ?_
            refine mq_Si (As := [.int (nI (a (202 + 6 * (i) + (1))))]) (rest := []) ⟨hx, hb, hml, hown, hts⟩ (cM_isRing l D _ (a (202 + 6 * (i) + (1))) (by omega)) (cwS 1 hts gX12_as_X12_isRing rfl rfl rfl (by decide +kernel) ⟨Nat.le_of_ble_eq_true rfl, Nat.le_of_ble_eq_true rfl⟩) hP hK hS hA rfl hl.1 rfl (Nat.le_of_ble_eq_true rfl) dX12_as_47 ⟨Nat.le_of_ble_eq_true rfl, Nat.le_of_ble_eq_true rfl⟩ (fun r w1 H locs hq hP hS => ?_)
            subst hq
            refine lb_if_eq (tgt := 58) hx hb dX12_as_50 (by decide) (fun c6 => ?_) (fun c6 => ?_)
            · refine lv_aload_n hx hb dX12_as_58 rfl (lv_at hl 1 rfl) ?_
              refine lv_ldc2 (v := (-1000000004)) hx hb hown (hts (.constantLong RX12 131 (-1000000004)) (by decide +kernel)) dX12_as_59 ?_
              refine mq_Vl (As := [.long ((-1000000004))]) (rest := []) (ci := 12) (k0 := 0) ⟨hx, hb, hml, hown, hts⟩ (cM_finds l D ad cI cJ a kp bt sz sheets go ro car ke km fi gm bs bu n1 n2 n3 n4 n5 n6 n7 px py db ((-1000000004)) ) (cwV 1 hts gX12_as_X12_finds rfl rfl rfl (by decide +kernel) ⟨Nat.le_of_ble_eq_true rfl, Nat.le_of_ble_eq_true rfl⟩) rfl rfl hP hK hD hS hA rfl hl.1 rfl (Nat.le_of_ble_eq_true rfl) dX12_as_62 ⟨Nat.le_of_ble_eq_true rfl, Nat.le_of_ble_eq_true rfl⟩ (fun r w1 H locs hq hP hD hS => ?_)
              obtain ⟨rfl, rfl⟩ := hq
              exact hret _ _ _ _ _ _ (Or.inr ⟨i, k, ⟨rfl, rfl, hi, hk⟩, Or.inr ⟨fun h => by omega, rfl, rfl⟩⟩) hP hD hS dX12_as_65
            · refine lv_iload_n hx hb dX12_as_53 rfl (lv_at hl 2 rfl) ?_
              refine lv_i2l hx hb dX12_as_54 rfl ?_
              refine lv_goto (tgt := 65) hx hb dX12_as_55 (by decide) ?_
              exact hret _ _ _ _ _ _ (Or.inr ⟨i, k, ⟨rfl, rfl, hi, hk⟩, Or.inl ⟨Or.inr (Or.inr ⟨c5, c6⟩), rfl, rfl⟩⟩) hP hD hS dX12_as_65
    · refine lv_aload_n hx hb dX12_as_17 rfl (lv_at hl 0 rfl) ?_
      refine lv_ldc2 (v := (-1000000001)) hx hb hown (hts (.constantLong RX12 76 (-1000000001)) (by decide +kernel)) dX12_as_18 ?_
      refine mq_Vl (As := [.long ((-1000000001))]) (rest := []) (ci := 12) (k0 := 0) ⟨hx, hb, hml, hown, hts⟩ (cM_finds l D ad cI cJ a kp bt sz sheets go ro car ke km fi gm bs bu n1 n2 n3 n4 n5 n6 n7 px py db ((-1000000001)) ) (cwV 1 hts gX12_as_X12_finds rfl rfl rfl (by decide +kernel) ⟨Nat.le_of_ble_eq_true rfl, Nat.le_of_ble_eq_true rfl⟩) rfl rfl hP hK hD hS hA rfl hl.1 rfl (Nat.le_of_ble_eq_true rfl) dX12_as_21 ⟨Nat.le_of_ble_eq_true rfl, Nat.le_of_ble_eq_true rfl⟩ (fun r w1 H locs hq hP hD hS => ?_)
      obtain ⟨rfl, rfl⟩ := hq
      exact hret _ _ _ _ _ _ (Or.inl ⟨fun h => c2 h.2, rfl, rfl⟩) hP hD hS dX12_as_24
set_option maxHeartbeats 4000000 in
set_option maxRecDepth 100000 in
theorem cM_look (l : Launch) (D : va_G) (ad : Nat → Nat) (cI cJ : ClassId) (a kp bt sz : Nat → Nat) (sheets : Nat → Int32) (go ro : Nat → Nat) (car : Nat → Int32) (ke km fi gm bs bu : Nat) (n1 n2 n3 n4 n5 n6 n7 : Int64) (px py db : Nat → Int64) (fd : Int32) (x : Int32) (y : Int32) (z : Int32) (h3 : a 3 ≤ 8) (hfd : ∀ i, i < a 3 → a (334 + 5 * i + 3) ≤ 1 ∧ a (334 + 5 * i + 4) ≤ 4) (he : ke < 20) (hm : km ≤ 20) : mq_l l D (mT cI cJ) yX12_look wsX12_look 2 0 0 43 [.ref (ad 0), .int (fd), .int (x), .int (y), .int (z)] (mW ad cI cJ a kp bt sz sheets go ro car ke km fi gm bs bu n1 n2 n3 n4 n5 n6 n7 px py db) (fun r w1 => (¬ (ix (a 3) fd ∧ rg 0 3 x ∧ rg 0 3 y) ∧ r = -1000000001 ∧ w1 = mW ad cI cJ a kp bt sz sheets go ro car ke km (fi + 1) gm bs bu n1 n2 n3 n4 n5 n6 n7 px py db) ∨ (∃ i cr dr : Nat, (fd = nI i ∧ x = nI cr ∧ y = nI dr ∧ i < a 3 ∧ cr ≤ 3 ∧ dr ≤ 3) ∧ ((a (334 + 5 * i + 3) = 1 ∧ r = -1000000004 ∧ w1 = mW ad cI cJ a kp bt sz sheets go ro car ke km (fi + 1) gm bs bu n1 n2 n3 n4 n5 n6 n7 px py db) ∨ (a (334 + 5 * i + 3) = 0 ∧ a (334 + 5 * i + 4) = 4 ∧ r = -1000000005 ∧ w1 = mW ad cI cJ a kp bt sz sheets go ro car ke km (fi + 1) gm bs bu n1 n2 n3 n4 n5 n6 n7 px py db) ∨ (a (334 + 5 * i + 3) = 0 ∧ a (334 + 5 * i + 4) < 4 ∧ r = (nI (a (334 + 5 * i + 4) + 1)).toInt64 ∧ w1 = mW ad cI cJ ((upN (upN (upN (upN a (374 + 12 * i + 3 * a (334 + 5 * i + 4)) cr) (374 + 12 * i + 3 * a (334 + 5 * i + 4) + 1) dr) (374 + 12 * i + 3 * a (334 + 5 * i + 4) + 2) (zN z)) (334 + 5 * i + 4) (a (334 + 5 * i + 4) + 1))) (cpN kp a (598 * ke) 598) bt sz sheets go ro car ((ke + 1) % 20) (kmU km) fi gm bs bu n1 n2 n3 n4 n5 n6 n7 px py db)))) := by
  refine mq_l_of (cc := cX12_look) (maxL := 7) (by decide) rfl (Nat.le_of_ble_eq_true rfl) ?_
  intro p e s m args below meth c A Q ls hx hb hts hown hml hnm hA hP hK hD hS hl hret
  have hown : s.vm.findClass RX12 = some m.cls := hown
  have hinX12 : ∀ w ∈ u_ws RX12 TX12 24, w ∈ wsX12_look := by decide +kernel
  have hl : lv_has ls 7 [(0, .ref (ad 0)), (1, .int (fd)), (2, .int (x)), (3, .int (y)), (4, .int (z))] := hl
  refine lv_aload_n hx hb dX12_look_0 rfl (lv_at hl 0 rfl) ?_
  refine lv_iload_n hx hb dX12_look_1 rfl (lv_at hl 1 rfl) ?_
  refine mq_Vi (As := [.int (fd)]) (rest := []) (ci := 12) (k0 := 0) ⟨hx, hb, hml, hown, hts⟩ (cM_isField l D ad cI cJ a kp bt sz sheets go ro car ke km fi gm bs bu n1 n2 n3 n4 n5 n6 n7 px py db (fd) (by omega)) (cwV 1 hts gX12_look_X12_isField rfl rfl rfl (by decide +kernel) ⟨Nat.le_of_ble_eq_true rfl, Nat.le_of_ble_eq_true rfl⟩) rfl rfl hP hK hD hS hA rfl hl.1 rfl (Nat.le_of_ble_eq_true rfl) dX12_look_2 ⟨Nat.le_of_ble_eq_true rfl, Nat.le_of_ble_eq_true rfl⟩ (fun r w1 H locs hq hP hD hS => ?_)
  obtain ⟨rfl, rfl⟩ := hq
  refine lb_if_eq (tgt := 16) hx hb dX12_look_5 (by decide) (fun c1 => ?_) (fun c1 => ?_)
  · refine lv_aload_n hx hb dX12_look_16 rfl (lv_at hl 0 rfl) ?_
    refine lv_ldc2 (v := (-1000000001)) hx hb hown (hts (.constantLong RX12 76 (-1000000001)) (by decide +kernel)) dX12_look_17 ?_
    refine mq_Vl (As := [.long ((-1000000001))]) (rest := []) (ci := 12) (k0 := 0) ⟨hx, hb, hml, hown, hts⟩ (cM_finds l D ad cI cJ a kp bt sz sheets go ro car ke km fi gm bs bu n1 n2 n3 n4 n5 n6 n7 px py db ((-1000000001)) ) (cwV 1 hts gX12_look_X12_finds rfl rfl rfl (by decide +kernel) ⟨Nat.le_of_ble_eq_true rfl, Nat.le_of_ble_eq_true rfl⟩) rfl rfl hP hK hD hS hA rfl hl.1 rfl (Nat.le_of_ble_eq_true rfl) dX12_look_20 ⟨Nat.le_of_ble_eq_true rfl, Nat.le_of_ble_eq_true rfl⟩ (fun r w1 H locs hq hP hD hS => ?_)
    obtain ⟨rfl, rfl⟩ := hq
    exact hret _ _ _ _ _ _ (Or.inl ⟨fun h => c1 h.1, rfl, rfl⟩) hP hD hS dX12_look_23
  · refine lv_iload_n hx hb dX12_look_8 rfl (lv_at hl 2 rfl) ?_
    refine lv_iload_n hx hb dX12_look_9 rfl (lv_at hl 3 rfl) ?_
    refine mq_Si (As := [.int (x), .int (y)]) (rest := []) ⟨hx, hb, hml, hown, hts⟩ (cM_isWeather l D _ (x) (y) ) (cwS 2 hts gX12_look_X12_isWeather rfl rfl rfl (by decide +kernel) ⟨Nat.le_of_ble_eq_true rfl, Nat.le_of_ble_eq_true rfl⟩) hP hK hS hA rfl hl.1 rfl (Nat.le_of_ble_eq_true rfl) dX12_look_10 ⟨Nat.le_of_ble_eq_true rfl, Nat.le_of_ble_eq_true rfl⟩ (fun r w1 H locs hq hP hS => ?_)
    subst hq
    refine lb_if_ne (tgt := 24) hx hb dX12_look_13 (by decide) (fun c2 => ?_) (fun c2 => ?_)
    · obtain ⟨i, hi, rfl⟩ := ix_of c1 (by omega)
      obtain ⟨cr, -, hcr, rfl⟩ := rg_of c2.1 (by decide) (by decide)
      obtain ⟨dr, -, hdr, rfl⟩ := rg_of c2.2 (by decide) (by decide)
      obtain ⟨hf1, hf2⟩ := hfd i hi
      refine lv_aload_n hx hb dX12_look_24 rfl (lv_at hl 0 rfl) ?_
      refine lv_iload_n hx hb dX12_look_25 rfl (lv_at hl 1 rfl) ?_
      refine lv_iconst (v := (nI (3))) hx hb dX12_look_26 (by decide) ?_
      refine mq_Vi (As := [.int (nI (i)), .int (nI (3))]) (rest := []) (ci := 12) (k0 := 0) ⟨hx, hb, hml, hown, hts⟩ (cM_ofField l D ad cI cJ a kp bt sz sheets go ro car ke km fi gm bs bu n1 n2 n3 n4 n5 n6 n7 px py db (i) (3) (by omega)) (cwV 2 hts gX12_look_X12_ofField rfl rfl rfl (by decide +kernel) ⟨Nat.le_of_ble_eq_true rfl, Nat.le_of_ble_eq_true rfl⟩) rfl rfl hP hK hD hS hA rfl hl.1 rfl (Nat.le_of_ble_eq_true rfl) dX12_look_27 ⟨Nat.le_of_ble_eq_true rfl, Nat.le_of_ble_eq_true rfl⟩ (fun r w1 H locs hq hP hD hS => ?_)
      obtain ⟨rfl, rfl⟩ := hq
      refine lv_iconst (v := (nI (1))) hx hb dX12_look_30 (by decide) ?_
      refine ln_icmp_ne (tgt := 42) hx hb dX12_look_31 (by decide) (by omega) (by omega) (fun c3 => ?_) (fun c3 => ?_)
      · refine lv_aload_n hx hb dX12_look_42 rfl (lv_at hl 0 rfl) ?_
        refine lv_iload_n hx hb dX12_look_43 rfl (lv_at hl 1 rfl) ?_
        refine lv_iconst (v := (nI (4))) hx hb dX12_look_44 (by decide) ?_
        refine mq_Vi (As := [.int (nI (i)), .int (nI (4))]) (rest := []) (ci := 12) (k0 := 0) ⟨hx, hb, hml, hown, hts⟩ (cM_ofField l D ad cI cJ a kp bt sz sheets go ro car ke km fi gm bs bu n1 n2 n3 n4 n5 n6 n7 px py db (i) (4) (by omega)) (cwV 2 hts gX12_look_X12_ofField rfl rfl rfl (by decide +kernel) ⟨Nat.le_of_ble_eq_true rfl, Nat.le_of_ble_eq_true rfl⟩) rfl rfl hP hK hD hS hA rfl hl.1 rfl (Nat.le_of_ble_eq_true rfl) dX12_look_45 ⟨Nat.le_of_ble_eq_true rfl, Nat.le_of_ble_eq_true rfl⟩ (fun r w1 H locs hq hP hD hS => ?_)
        obtain ⟨rfl, rfl⟩ := hq
        refine lv_istore (lv' := [(5, .int (nI (a (334 + 5 * (i) + (4))))), (0, .ref (ad 0)), (1, .int (nI (i))), (2, .int (nI (cr))), (3, .int (nI (dr))), (4, .int (z))]) hx hb dX12_look_48 hl (by decide) rfl (fun ls hl => ?_)
        refine lv_iload hx hb dX12_look_50 (lv_at hl 0 rfl) ?_
        refine lv_iconst (v := (nI (4))) hx hb dX12_look_52 (by decide) ?_
        refine ln_icmp_ne (tgt := 64) hx hb dX12_look_53 (by decide) (by omega) (by omega) (fun c4 => ?_) (fun c4 => ?_)
        · refine lv_aload_n hx hb dX12_look_64 rfl (lv_at hl 1 rfl) ?_
          refine mq_Vv (As := []) (rest := []) (ci := 12) (k0 := 0) ⟨hx, hb, hml, hown, hts⟩ (cM_keep l D ad cI cJ a kp bt sz sheets go ro car ke km fi gm bs bu n1 n2 n3 n4 n5 n6 n7 px py db  he hm) (cwV 0 hts gX12_look_X12_keep rfl rfl rfl (by decide +kernel) ⟨Nat.le_of_ble_eq_true rfl, Nat.le_of_ble_eq_true rfl⟩) rfl rfl hP hK hD hS hA rfl hl.1 rfl (Nat.le_of_ble_eq_true rfl) dX12_look_65 ⟨Nat.le_of_ble_eq_true rfl, Nat.le_of_ble_eq_true rfl⟩ (fun w1 H locs hq hP hD hS => ?_)
          subst hq
          refine lv_sipush (v := (nI (374))) hx hb dX12_look_68 (by decide) ?_
          refine lv_bipush (v := (nI (12))) hx hb dX12_look_71 (by decide) ?_
          refine lv_iload_n hx hb dX12_look_73 rfl (lv_at hl 2 rfl) ?_
          refine ln_imul hx hb dX12_look_74 ?_
          refine ln_iadd hx hb dX12_look_75 ?_
          refine lv_iconst (v := (nI (3))) hx hb dX12_look_76 (by decide) ?_
          refine lv_iload hx hb dX12_look_77 (lv_at hl 0 rfl) ?_
          refine ln_imul hx hb dX12_look_79 ?_
          refine ln_iadd hx hb dX12_look_80 ?_
          refine lv_istore (lv' := [(6, .int (nI (374 + (12) * (i) + ((3) * (a (334 + 5 * (i) + (4))))))), (5, .int (nI (a (334 + 5 * (i) + (4))))), (0, .ref (ad 0)), (1, .int (nI (i))), (2, .int (nI (cr))), (3, .int (nI (dr))), (4, .int (z))]) hx hb dX12_look_81 hl (by decide) rfl (fun ls hl => ?_)
          refine lv_aload_n hx hb dX12_look_83 rfl (lv_at hl 2 rfl) ?_
          refine va_get (D := D) (ci := 12) (v := .ref (ad 1)) (C := RX12) (T := TX12) (N := 24) hx hb hts hinX12 hown hK hP 0 rfl rfl 0 (by decide) (hts (.fieldLink RX12 9 "CornDeskModel" "now" "[I") (by decide +kernel)) (fun _ h9 => h9) rfl dX12_look_84 ?_
          refine lv_iload hx hb dX12_look_87 (lv_at hl 0 rfl) ?_
          refine lv_iload_n hx hb dX12_look_89 rfl (lv_at hl 4 rfl) ?_
          refine ln_iastN hx hb hK hP hD hS 1 0 rfl rfl (by decide) (by omega) dX12_look_90 (fun H locs hP hD hS => ?_)
          have hP : va_P D vwCl (mW ad cI cJ (upN a (374 + (12) * (i) + ((3) * (a (334 + 5 * (i) + (4))))) (cr)) (cpN kp a (598 * ke) 598) bt sz sheets go ro car ((ke + 1) % 20) (kmU km) fi gm bs bu n1 n2 n3 n4 n5 n6 n7 px py db) H := hP
          have hD : va_D A (mW ad cI cJ (upN a (374 + (12) * (i) + ((3) * (a (334 + 5 * (i) + (4))))) (cr)) (cpN kp a (598 * ke) 598) bt sz sheets go ro car ((ke + 1) % 20) (kmU km) fi gm bs bu n1 n2 n3 n4 n5 n6 n7 px py db) := hD
          refine lv_aload_n hx hb dX12_look_91 rfl (lv_at hl 2 rfl) ?_
          refine va_get (D := D) (ci := 12) (v := .ref (ad 1)) (C := RX12) (T := TX12) (N := 24) hx hb hts hinX12 hown hK hP 0 rfl rfl 0 (by decide) (hts (.fieldLink RX12 9 "CornDeskModel" "now" "[I") (by decide +kernel)) (fun _ h9 => h9) rfl dX12_look_92 ?_
          refine lv_iload hx hb dX12_look_95 (lv_at hl 0 rfl) ?_
          refine lv_iconst (v := (nI (1))) hx hb dX12_look_97 (by decide) ?_
          refine ln_iadd hx hb dX12_look_98 ?_
          refine lv_iload_n hx hb dX12_look_99 rfl (lv_at hl 5 rfl) ?_
          refine ln_iastN hx hb hK hP hD hS 1 0 rfl rfl (by decide) (by omega) dX12_look_100 (fun H locs hP hD hS => ?_)
          have hP : va_P D vwCl (mW ad cI cJ (upN (upN a (374 + (12) * (i) + ((3) * (a (334 + 5 * (i) + (4))))) (cr)) (374 + (12) * (i) + ((3) * (a (334 + 5 * (i) + (4)))) + 1) (dr)) (cpN kp a (598 * ke) 598) bt sz sheets go ro car ((ke + 1) % 20) (kmU km) fi gm bs bu n1 n2 n3 n4 n5 n6 n7 px py db) H := hP
          have hD : va_D A (mW ad cI cJ (upN (upN a (374 + (12) * (i) + ((3) * (a (334 + 5 * (i) + (4))))) (cr)) (374 + (12) * (i) + ((3) * (a (334 + 5 * (i) + (4)))) + 1) (dr)) (cpN kp a (598 * ke) 598) bt sz sheets go ro car ((ke + 1) % 20) (kmU km) fi gm bs bu n1 n2 n3 n4 n5 n6 n7 px py db) := hD
          refine lv_aload_n hx hb dX12_look_101 rfl (lv_at hl 2 rfl) ?_
          refine va_get (D := D) (ci := 12) (v := .ref (ad 1)) (C := RX12) (T := TX12) (N := 24) hx hb hts hinX12 hown hK hP 0 rfl rfl 0 (by decide) (hts (.fieldLink RX12 9 "CornDeskModel" "now" "[I") (by decide +kernel)) (fun _ h9 => h9) rfl dX12_look_102 ?_
          refine lv_iload hx hb dX12_look_105 (lv_at hl 0 rfl) ?_
          refine lv_iconst (v := (nI (2))) hx hb dX12_look_107 (by decide) ?_
          refine ln_iadd hx hb dX12_look_108 ?_
          refine lv_iload hx hb dX12_look_109 (lv_at hl 6 rfl) ?_
          refine lv_if_eq (tgt := 118) hx hb dX12_look_111 (by decide) (fun c5 => ?_) (fun c5 => ?_)
          · have ez : zN z = 0 := zN_0 c5
            refine lv_iconst (v := (nI (0))) hx hb dX12_look_118 (by decide) ?_
            refine ln_iastN hx hb hK hP hD hS 1 0 rfl rfl (by decide) (by omega) dX12_look_119 (fun H locs hP hD hS => ?_)
            have hP : va_P D vwCl (mW ad cI cJ (upN (upN (upN a (374 + (12) * (i) + ((3) * (a (334 + 5 * (i) + (4))))) (cr)) (374 + (12) * (i) + ((3) * (a (334 + 5 * (i) + (4)))) + 1) (dr)) (374 + (12) * (i) + ((3) * (a (334 + 5 * (i) + (4)))) + 2) (0)) (cpN kp a (598 * ke) 598) bt sz sheets go ro car ((ke + 1) % 20) (kmU km) fi gm bs bu n1 n2 n3 n4 n5 n6 n7 px py db) H := hP
            have hD : va_D A (mW ad cI cJ (upN (upN (upN a (374 + (12) * (i) + ((3) * (a (334 + 5 * (i) + (4))))) (cr)) (374 + (12) * (i) + ((3) * (a (334 + 5 * (i) + (4)))) + 1) (dr)) (374 + (12) * (i) + ((3) * (a (334 + 5 * (i) + (4)))) + 2) (0)) (cpN kp a (598 * ke) 598) bt sz sheets go ro car ((ke + 1) % 20) (kmU km) fi gm bs bu n1 n2 n3 n4 n5 n6 n7 px py db) := hD
            refine lv_aload_n hx hb dX12_look_120 rfl (lv_at hl 2 rfl) ?_
            refine va_get (D := D) (ci := 12) (v := .ref (ad 1)) (C := RX12) (T := TX12) (N := 24) hx hb hts hinX12 hown hK hP 0 rfl rfl 0 (by decide) (hts (.fieldLink RX12 9 "CornDeskModel" "now" "[I") (by decide +kernel)) (fun _ h9 => h9) rfl dX12_look_121 ?_
            refine lv_sipush (v := (nI (334))) hx hb dX12_look_124 (by decide) ?_
            refine lv_iconst (v := (nI (5))) hx hb dX12_look_127 (by decide) ?_
            refine lv_iload_n hx hb dX12_look_128 rfl (lv_at hl 3 rfl) ?_
            refine ln_imul hx hb dX12_look_129 ?_
            refine ln_iadd hx hb dX12_look_130 ?_
            refine lv_iconst (v := (nI (4))) hx hb dX12_look_131 (by decide) ?_
            refine ln_iadd hx hb dX12_look_132 ?_
            refine lv_dup2_11 hx hb dX12_look_133 rfl rfl ?_
            refine ln_iald hx hb hK hP 1 0 rfl rfl (by decide) (by omega) dX12_look_134 ?_
            refine ln_eqi (y := (nI (a (334 + (5) * (i) + 4)))) (congrArg nI (by simp only [upN, if_true]; (repeat first | rw [if_neg (by omega)] | rw [if_pos (by omega)]))) ?_
            refine lv_iconst (v := (nI (1))) hx hb dX12_look_135 (by decide) ?_
            refine ln_iadd hx hb dX12_look_136 ?_
            refine ln_iastN hx hb hK hP hD hS 1 0 rfl rfl (by decide) (by omega) dX12_look_137 (fun H locs hP hD hS => ?_)
            have hP : va_P D vwCl (mW ad cI cJ (upN (upN (upN (upN a (374 + (12) * (i) + ((3) * (a (334 + 5 * (i) + (4))))) (cr)) (374 + (12) * (i) + ((3) * (a (334 + 5 * (i) + (4)))) + 1) (dr)) (374 + (12) * (i) + ((3) * (a (334 + 5 * (i) + (4)))) + 2) (0)) (334 + (5) * (i) + 4) (a (334 + (5) * (i) + 4) + 1)) (cpN kp a (598 * ke) 598) bt sz sheets go ro car ((ke + 1) % 20) (kmU km) fi gm bs bu n1 n2 n3 n4 n5 n6 n7 px py db) H := hP
            have hD : va_D A (mW ad cI cJ (upN (upN (upN (upN a (374 + (12) * (i) + ((3) * (a (334 + 5 * (i) + (4))))) (cr)) (374 + (12) * (i) + ((3) * (a (334 + 5 * (i) + (4)))) + 1) (dr)) (374 + (12) * (i) + ((3) * (a (334 + 5 * (i) + (4)))) + 2) (0)) (334 + (5) * (i) + 4) (a (334 + (5) * (i) + 4) + 1)) (cpN kp a (598 * ke) 598) bt sz sheets go ro car ((ke + 1) % 20) (kmU km) fi gm bs bu n1 n2 n3 n4 n5 n6 n7 px py db) := hD
            refine lv_iload hx hb dX12_look_138 (lv_at hl 1 rfl) ?_
            refine lv_iconst (v := (nI (1))) hx hb dX12_look_140 (by decide) ?_
            refine ln_iadd hx hb dX12_look_141 ?_
            refine lv_i2l hx hb dX12_look_142 rfl ?_
            exact hret _ _ _ _ _ _ (Or.inr ⟨i, cr, dr, ⟨rfl, rfl, rfl, hi, hcr, hdr⟩, Or.inr (Or.inr ⟨by omega, by omega, rfl, by rw [ez]⟩)⟩) hP hD hS dX12_look_143
          · have ez : zN z = 1 := zN_1 c5
            refine lv_iconst (v := (nI (1))) hx hb dX12_look_114 (by decide) ?_
            refine lv_goto (tgt := 119) hx hb dX12_look_115 (by decide) ?_
            refine ln_iastN hx hb hK hP hD hS 1 0 rfl rfl (by decide) (by omega) dX12_look_119 (fun H locs hP hD hS => ?_)
            have hP : va_P D vwCl (mW ad cI cJ (upN (upN (upN a (374 + (12) * (i) + ((3) * (a (334 + 5 * (i) + (4))))) (cr)) (374 + (12) * (i) + ((3) * (a (334 + 5 * (i) + (4)))) + 1) (dr)) (374 + (12) * (i) + ((3) * (a (334 + 5 * (i) + (4)))) + 2) (1)) (cpN kp a (598 * ke) 598) bt sz sheets go ro car ((ke + 1) % 20) (kmU km) fi gm bs bu n1 n2 n3 n4 n5 n6 n7 px py db) H := hP
            have hD : va_D A (mW ad cI cJ (upN (upN (upN a (374 + (12) * (i) + ((3) * (a (334 + 5 * (i) + (4))))) (cr)) (374 + (12) * (i) + ((3) * (a (334 + 5 * (i) + (4)))) + 1) (dr)) (374 + (12) * (i) + ((3) * (a (334 + 5 * (i) + (4)))) + 2) (1)) (cpN kp a (598 * ke) 598) bt sz sheets go ro car ((ke + 1) % 20) (kmU km) fi gm bs bu n1 n2 n3 n4 n5 n6 n7 px py db) := hD
            refine lv_aload_n hx hb dX12_look_120 rfl (lv_at hl 2 rfl) ?_
            refine va_get (D := D) (ci := 12) (v := .ref (ad 1)) (C := RX12) (T := TX12) (N := 24) hx hb hts hinX12 hown hK hP 0 rfl rfl 0 (by decide) (hts (.fieldLink RX12 9 "CornDeskModel" "now" "[I") (by decide +kernel)) (fun _ h9 => h9) rfl dX12_look_121 ?_
            refine lv_sipush (v := (nI (334))) hx hb dX12_look_124 (by decide) ?_
            refine lv_iconst (v := (nI (5))) hx hb dX12_look_127 (by decide) ?_
            refine lv_iload_n hx hb dX12_look_128 rfl (lv_at hl 3 rfl) ?_
            refine ln_imul hx hb dX12_look_129 ?_
            refine ln_iadd hx hb dX12_look_130 ?_
            refine lv_iconst (v := (nI (4))) hx hb dX12_look_131 (by decide) ?_
            refine ln_iadd hx hb dX12_look_132 ?_
            refine lv_dup2_11 hx hb dX12_look_133 rfl rfl ?_
            refine ln_iald hx hb hK hP 1 0 rfl rfl (by decide) (by omega) dX12_look_134 ?_
            refine ln_eqi (y := (nI (a (334 + (5) * (i) + 4)))) (congrArg nI (by simp only [upN, if_true]; (repeat first | rw [if_neg (by omega)] | rw [if_pos (by omega)]))) ?_
            refine lv_iconst (v := (nI (1))) hx hb dX12_look_135 (by decide) ?_
            refine ln_iadd hx hb dX12_look_136 ?_
            refine ln_iastN hx hb hK hP hD hS 1 0 rfl rfl (by decide) (by omega) dX12_look_137 (fun H locs hP hD hS => ?_)
            have hP : va_P D vwCl (mW ad cI cJ (upN (upN (upN (upN a (374 + (12) * (i) + ((3) * (a (334 + 5 * (i) + (4))))) (cr)) (374 + (12) * (i) + ((3) * (a (334 + 5 * (i) + (4)))) + 1) (dr)) (374 + (12) * (i) + ((3) * (a (334 + 5 * (i) + (4)))) + 2) (1)) (334 + (5) * (i) + 4) (a (334 + (5) * (i) + 4) + 1)) (cpN kp a (598 * ke) 598) bt sz sheets go ro car ((ke + 1) % 20) (kmU km) fi gm bs bu n1 n2 n3 n4 n5 n6 n7 px py db) H := hP
            have hD : va_D A (mW ad cI cJ (upN (upN (upN (upN a (374 + (12) * (i) + ((3) * (a (334 + 5 * (i) + (4))))) (cr)) (374 + (12) * (i) + ((3) * (a (334 + 5 * (i) + (4)))) + 1) (dr)) (374 + (12) * (i) + ((3) * (a (334 + 5 * (i) + (4)))) + 2) (1)) (334 + (5) * (i) + 4) (a (334 + (5) * (i) + 4) + 1)) (cpN kp a (598 * ke) 598) bt sz sheets go ro car ((ke + 1) % 20) (kmU km) fi gm bs bu n1 n2 n3 n4 n5 n6 n7 px py db) := hD
            refine lv_iload hx hb dX12_look_138 (lv_at hl 1 rfl) ?_
            refine lv_iconst (v := (nI (1))) hx hb dX12_look_140 (by decide) ?_
            refine ln_iadd hx hb dX12_look_141 ?_
            refine lv_i2l hx hb dX12_look_142 rfl ?_
            exact hret _ _ _ _ _ _ (Or.inr ⟨i, cr, dr, ⟨rfl, rfl, rfl, hi, hcr, hdr⟩, Or.inr (Or.inr ⟨by omega, by omega, rfl, by rw [ez]⟩)⟩) hP hD hS dX12_look_143
        · refine lv_aload_n hx hb dX12_look_56 rfl (lv_at hl 1 rfl) ?_
          refine lv_ldc2 (v := (-1000000005)) hx hb hown (hts (.constantLong RX12 64 (-1000000005)) (by decide +kernel)) dX12_look_57 ?_
          refine mq_Vl (As := [.long ((-1000000005))]) (rest := []) (ci := 12) (k0 := 0) ⟨hx, hb, hml, hown, hts⟩ (cM_finds l D ad cI cJ a kp bt sz sheets go ro car ke km fi gm bs bu n1 n2 n3 n4 n5 n6 n7 px py db ((-1000000005)) ) (cwV 1 hts gX12_look_X12_finds rfl rfl rfl (by decide +kernel) ⟨Nat.le_of_ble_eq_true rfl, Nat.le_of_ble_eq_true rfl⟩) rfl rfl hP hK hD hS hA rfl hl.1 rfl (Nat.le_of_ble_eq_true rfl) dX12_look_60 ⟨Nat.le_of_ble_eq_true rfl, Nat.le_of_ble_eq_true rfl⟩ (fun r w1 H locs hq hP hD hS => ?_)
          obtain ⟨rfl, rfl⟩ := hq
          exact hret _ _ _ _ _ _ (Or.inr ⟨i, cr, dr, ⟨rfl, rfl, rfl, hi, hcr, hdr⟩, Or.inr (Or.inl ⟨by omega, c4, rfl, rfl⟩)⟩) hP hD hS dX12_look_63
      · refine lv_aload_n hx hb dX12_look_34 rfl (lv_at hl 0 rfl) ?_
        refine lv_ldc2 (v := (-1000000004)) hx hb hown (hts (.constantLong RX12 131 (-1000000004)) (by decide +kernel)) dX12_look_35 ?_
        refine mq_Vl (As := [.long ((-1000000004))]) (rest := []) (ci := 12) (k0 := 0) ⟨hx, hb, hml, hown, hts⟩ (cM_finds l D ad cI cJ a kp bt sz sheets go ro car ke km fi gm bs bu n1 n2 n3 n4 n5 n6 n7 px py db ((-1000000004)) ) (cwV 1 hts gX12_look_X12_finds rfl rfl rfl (by decide +kernel) ⟨Nat.le_of_ble_eq_true rfl, Nat.le_of_ble_eq_true rfl⟩) rfl rfl hP hK hD hS hA rfl hl.1 rfl (Nat.le_of_ble_eq_true rfl) dX12_look_38 ⟨Nat.le_of_ble_eq_true rfl, Nat.le_of_ble_eq_true rfl⟩ (fun r w1 H locs hq hP hD hS => ?_)
        obtain ⟨rfl, rfl⟩ := hq
        exact hret _ _ _ _ _ _ (Or.inr ⟨i, cr, dr, ⟨rfl, rfl, rfl, hi, hcr, hdr⟩, Or.inl ⟨c3, rfl, rfl⟩⟩) hP hD hS dX12_look_41
    · refine lv_aload_n hx hb dX12_look_16 rfl (lv_at hl 0 rfl) ?_
      refine lv_ldc2 (v := (-1000000001)) hx hb hown (hts (.constantLong RX12 76 (-1000000001)) (by decide +kernel)) dX12_look_17 ?_
      refine mq_Vl (As := [.long ((-1000000001))]) (rest := []) (ci := 12) (k0 := 0) ⟨hx, hb, hml, hown, hts⟩ (cM_finds l D ad cI cJ a kp bt sz sheets go ro car ke km fi gm bs bu n1 n2 n3 n4 n5 n6 n7 px py db ((-1000000001)) ) (cwV 1 hts gX12_look_X12_finds rfl rfl rfl (by decide +kernel) ⟨Nat.le_of_ble_eq_true rfl, Nat.le_of_ble_eq_true rfl⟩) rfl rfl hP hK hD hS hA rfl hl.1 rfl (Nat.le_of_ble_eq_true rfl) dX12_look_20 ⟨Nat.le_of_ble_eq_true rfl, Nat.le_of_ble_eq_true rfl⟩ (fun r w1 H locs hq hP hD hS => ?_)
      obtain ⟨rfl, rfl⟩ := hq
      exact hret _ _ _ _ _ _ (Or.inl ⟨fun h => c2 h.2, rfl, rfl⟩) hP hD hS dX12_look_23
set_option maxHeartbeats 4000000 in
set_option maxRecDepth 100000 in
theorem cM_showing (l : Launch) (D : va_G) (ad : Nat → Nat) (cI cJ : ClassId) (a kp bt sz : Nat → Nat) (sheets : Nat → Int32) (go ro : Nat → Nat) (car : Nat → Int32) (ke km fi gm bs bu : Nat) (n1 n2 n3 n4 n5 n6 n7 : Int64) (px py db : Nat → Int64) (u : Int32) (x : Int32) (y : Int32) (z : Int32)  : mq_l l D (mT cI cJ) yX12_showing wsX12_showing 2 0 0 43 [.ref (ad 0), .int (u), .int (x), .int (y), .int (z)] (mW ad cI cJ a kp bt sz sheets go ro car ke km fi gm bs bu n1 n2 n3 n4 n5 n6 n7 px py db) (fun r w1 => (¬ (rg 0 3 u ∧ rg 0 3 x ∧ rg 0 3 y) ∧ r = -1000000001 ∧ w1 = mW ad cI cJ a kp bt sz sheets go ro car ke km (fi + 1) gm bs bu n1 n2 n3 n4 n5 n6 n7 px py db) ∨ (∃ so cr dr : Nat, (u = nI so ∧ x = nI cr ∧ y = nI dr ∧ so ≤ 3 ∧ cr ≤ 3 ∧ dr ≤ 3) ∧ r = (nI (a (470 + 2 * (16 * so + 4 * cr + dr) + zN z))).toInt64 ∧ w1 = mW ad cI cJ a kp bt sz sheets go ro car ke km fi gm bs bu n1 n2 n3 n4 n5 n6 n7 px py db)) := by
  refine mq_l_of (cc := cX12_showing) (maxL := 5) (by decide) rfl (Nat.le_of_ble_eq_true rfl) ?_
  intro p e s m args below meth c A Q ls hx hb hts hown hml hnm hA hP hK hD hS hl hret
  have hown : s.vm.findClass RX12 = some m.cls := hown
  have hinX12 : ∀ w ∈ u_ws RX12 TX12 24, w ∈ wsX12_showing := by decide +kernel
  have hl : lv_has ls 5 [(0, .ref (ad 0)), (1, .int (u)), (2, .int (x)), (3, .int (y)), (4, .int (z))] := hl
  refine lv_iload_n hx hb dX12_showing_0 rfl (lv_at hl 1 rfl) ?_
  refine lv_iconst (v := (nI (0))) hx hb dX12_showing_1 (by decide) ?_
  refine lv_iconst (v := (nI (3))) hx hb dX12_showing_2 (by decide) ?_
  refine mq_Si (As := [.int (u), .int (nI (0)), .int (nI (3))]) (rest := []) ⟨hx, hb, hml, hown, hts⟩ (cM_in l D _ (u) (nI (0)) (nI (3)) ) (cwS 3 hts gX12_showing_X12_in rfl rfl rfl (by decide +kernel) ⟨Nat.le_of_ble_eq_true rfl, Nat.le_of_ble_eq_true rfl⟩) hP hK hS hA rfl hl.1 rfl (Nat.le_of_ble_eq_true rfl) dX12_showing_3 ⟨Nat.le_of_ble_eq_true rfl, Nat.le_of_ble_eq_true rfl⟩ (fun r w1 H locs hq hP hS => ?_)
  subst hq
  refine lb_if_eq (tgt := 17) hx hb dX12_showing_6 (by decide) (fun c1 => ?_) (fun c1 => ?_)
  · refine lv_aload_n hx hb dX12_showing_17 rfl (lv_at hl 0 rfl) ?_
    refine lv_ldc2 (v := (-1000000001)) hx hb hown (hts (.constantLong RX12 76 (-1000000001)) (by decide +kernel)) dX12_showing_18 ?_
    refine mq_Vl (As := [.long ((-1000000001))]) (rest := []) (ci := 12) (k0 := 0) ⟨hx, hb, hml, hown, hts⟩ (cM_finds l D ad cI cJ a kp bt sz sheets go ro car ke km fi gm bs bu n1 n2 n3 n4 n5 n6 n7 px py db ((-1000000001)) ) (cwV 1 hts gX12_showing_X12_finds rfl rfl rfl (by decide +kernel) ⟨Nat.le_of_ble_eq_true rfl, Nat.le_of_ble_eq_true rfl⟩) rfl rfl hP hK hD hS hA rfl hl.1 rfl (Nat.le_of_ble_eq_true rfl) dX12_showing_21 ⟨Nat.le_of_ble_eq_true rfl, Nat.le_of_ble_eq_true rfl⟩ (fun r w1 H locs hq hP hD hS => ?_)
    obtain ⟨rfl, rfl⟩ := hq
    exact hret _ _ _ _ _ _ (Or.inl ⟨fun h => c1 h.1, rfl, rfl⟩) hP hD hS dX12_showing_24
  · refine lv_iload_n hx hb dX12_showing_9 rfl (lv_at hl 2 rfl) ?_
    refine lv_iload_n hx hb dX12_showing_10 rfl (lv_at hl 3 rfl) ?_
    refine mq_Si (As := [.int (x), .int (y)]) (rest := []) ⟨hx, hb, hml, hown, hts⟩ (cM_isWeather l D _ (x) (y) ) (cwS 2 hts gX12_showing_X12_isWeather rfl rfl rfl (by decide +kernel) ⟨Nat.le_of_ble_eq_true rfl, Nat.le_of_ble_eq_true rfl⟩) hP hK hS hA rfl hl.1 rfl (Nat.le_of_ble_eq_true rfl) dX12_showing_11 ⟨Nat.le_of_ble_eq_true rfl, Nat.le_of_ble_eq_true rfl⟩ (fun r w1 H locs hq hP hS => ?_)
    subst hq
    refine lb_if_ne (tgt := 25) hx hb dX12_showing_14 (by decide) (fun c2 => ?_) (fun c2 => ?_)
    · obtain ⟨so, -, hso, rfl⟩ := rg_of c1 (by decide) (by decide)
      obtain ⟨cr, -, hcr, rfl⟩ := rg_of c2.1 (by decide) (by decide)
      obtain ⟨dr, -, hdr, rfl⟩ := rg_of c2.2 (by decide) (by decide)
      refine lv_aload_n hx hb dX12_showing_25 rfl (lv_at hl 0 rfl) ?_
      refine va_get (D := D) (ci := 12) (v := .ref (ad 1)) (C := RX12) (T := TX12) (N := 24) hx hb hts hinX12 hown hK hP 0 rfl rfl 0 (by decide) (hts (.fieldLink RX12 9 "CornDeskModel" "now" "[I") (by decide +kernel)) (fun _ h9 => h9) rfl dX12_showing_26 ?_
      refine lv_iload_n hx hb dX12_showing_29 rfl (lv_at hl 1 rfl) ?_
      refine lv_iload_n hx hb dX12_showing_30 rfl (lv_at hl 2 rfl) ?_
      refine lv_iload_n hx hb dX12_showing_31 rfl (lv_at hl 3 rfl) ?_
      refine mq_Si (As := [.int (nI (so)), .int (nI (cr)), .int (nI (dr))]) (rest := [.ref (ad 1)]) ⟨hx, hb, hml, hown, hts⟩ (cM_showAt l D _ (so) (cr) (dr) ) (cwS 3 hts gX12_showing_X12_showAt rfl rfl rfl (by decide +kernel) ⟨Nat.le_of_ble_eq_true rfl, Nat.le_of_ble_eq_true rfl⟩) hP hK hS hA rfl hl.1 rfl (Nat.le_of_ble_eq_true rfl) dX12_showing_32 ⟨Nat.le_of_ble_eq_true rfl, Nat.le_of_ble_eq_true rfl⟩ (fun r w1 H locs hq hP hS => ?_)
      subst hq
      refine lv_iload hx hb dX12_showing_35 (lv_at hl 4 rfl) ?_
      refine lv_if_eq (tgt := 44) hx hb dX12_showing_37 (by decide) (fun c5 => ?_) (fun c5 => ?_)
      · have ez : zN z = 0 := zN_0 c5
        refine lv_iconst (v := (nI (0))) hx hb dX12_showing_44 (by decide) ?_
        refine ln_iadd hx hb dX12_showing_45 ?_
        refine ln_iald hx hb hK hP 1 0 rfl rfl (by decide) (by omega) dX12_showing_46 ?_
        refine lv_i2l hx hb dX12_showing_47 rfl ?_
        exact hret _ _ _ _ _ _ (Or.inr ⟨so, cr, dr, ⟨rfl, rfl, rfl, hso, hcr, hdr⟩, by rw [ez]; rfl, rfl⟩) hP hD hS dX12_showing_48
      · have ez : zN z = 1 := zN_1 c5
        refine lv_iconst (v := (nI (1))) hx hb dX12_showing_40 (by decide) ?_
        refine lv_goto (tgt := 45) hx hb dX12_showing_41 (by decide) ?_
        refine ln_iadd hx hb dX12_showing_45 ?_
        refine ln_iald hx hb hK hP 1 0 rfl rfl (by decide) (by omega) dX12_showing_46 ?_
        refine lv_i2l hx hb dX12_showing_47 rfl ?_
        exact hret _ _ _ _ _ _ (Or.inr ⟨so, cr, dr, ⟨rfl, rfl, rfl, hso, hcr, hdr⟩, by rw [ez]; rfl, rfl⟩) hP hD hS dX12_showing_48
    · refine lv_aload_n hx hb dX12_showing_17 rfl (lv_at hl 0 rfl) ?_
      refine lv_ldc2 (v := (-1000000001)) hx hb hown (hts (.constantLong RX12 76 (-1000000001)) (by decide +kernel)) dX12_showing_18 ?_
      refine mq_Vl (As := [.long ((-1000000001))]) (rest := []) (ci := 12) (k0 := 0) ⟨hx, hb, hml, hown, hts⟩ (cM_finds l D ad cI cJ a kp bt sz sheets go ro car ke km fi gm bs bu n1 n2 n3 n4 n5 n6 n7 px py db ((-1000000001)) ) (cwV 1 hts gX12_showing_X12_finds rfl rfl rfl (by decide +kernel) ⟨Nat.le_of_ble_eq_true rfl, Nat.le_of_ble_eq_true rfl⟩) rfl rfl hP hK hD hS hA rfl hl.1 rfl (Nat.le_of_ble_eq_true rfl) dX12_showing_21 ⟨Nat.le_of_ble_eq_true rfl, Nat.le_of_ble_eq_true rfl⟩ (fun r w1 H locs hq hP hD hS => ?_)
      obtain ⟨rfl, rfl⟩ := hq
      exact hret _ _ _ _ _ _ (Or.inl ⟨fun h => c2 h.2, rfl, rfl⟩) hP hD hS dX12_showing_24
set_option maxHeartbeats 4000000 in
set_option maxRecDepth 100000 in
theorem cM_undo (l : Launch) (D : va_G) (ad : Nat → Nat) (cI cJ : ClassId) (a kp bt sz : Nat → Nat) (sheets : Nat → Int32) (go ro : Nat → Nat) (car : Nat → Int32) (ke km fi gm bs bu : Nat) (n1 n2 n3 n4 n5 n6 n7 : Int64) (px py db : Nat → Int64)  (he : ke < 20) (hm : km ≤ 20) : mq_l l D (mT cI cJ) yX12_undo wsX12_undo 1 0 0 22 [.ref (ad 0)] (mW ad cI cJ a kp bt sz sheets go ro car ke km fi gm bs bu n1 n2 n3 n4 n5 n6 n7 px py db) (fun r w1 => (km = 0 ∧ r = -1000000006 ∧ w1 = mW ad cI cJ a kp bt sz sheets go ro car ke km (fi + 1) gm bs bu n1 n2 n3 n4 n5 n6 n7 px py db) ∨ (0 < km ∧ r = (nI (km - 1)).toInt64 ∧ w1 = mW ad cI cJ (cpN a (fun j => kp (598 * ((ke + 20 - 1) % 20) + j)) 0 598) kp bt sz sheets go ro car ((ke + 20 - 1) % 20) (km - 1) fi gm bs bu n1 n2 n3 n4 n5 n6 n7 px py db)) := by
  refine mq_l_of (cc := cX12_undo) (maxL := 2) (by decide) rfl (Nat.le_of_ble_eq_true rfl) ?_
  intro p e s m args below meth c A Q ls hx hb hts hown hml hnm hA hP hK hD hS hl hret
  have hown : s.vm.findClass RX12 = some m.cls := hown
  have hinX12 : ∀ w ∈ u_ws RX12 TX12 24, w ∈ wsX12_undo := by decide +kernel
  have hl : lv_has ls 2 [(0, .ref (ad 0))] := hl
  refine lv_aload_n hx hb dX12_undo_0 rfl (lv_at hl 0 rfl) ?_
  refine va_get (D := D) (ci := 12) (v := .int (nI (km))) (C := RX12) (T := TX12) (N := 24) hx hb hts hinX12 hown hK hP 0 rfl rfl 3 (by decide) (hts (.fieldLink RX12 51 "CornDeskModel" "keptMany" "I") (by decide +kernel)) (fun _ h9 => h9) rfl dX12_undo_1 ?_
  refine ln_if_ne (tgt := 15) hx hb dX12_undo_4 (by decide) (by omega) (fun c1 => ?_) (fun c1 => ?_)
  · refine lv_aload_n hx hb dX12_undo_15 rfl (lv_at hl 0 rfl) ?_
    refine lv_aload_n hx hb dX12_undo_16 rfl (lv_at hl 0 rfl) ?_
    refine va_get (D := D) (ci := 12) (v := .int (nI (ke))) (C := RX12) (T := TX12) (N := 24) hx hb hts hinX12 hown hK hP 0 rfl rfl 2 (by decide) (hts (.fieldLink RX12 48 "CornDeskModel" "keptEnd" "I") (by decide +kernel)) (fun _ h9 => h9) rfl dX12_undo_17 ?_
    refine lv_bipush (v := (nI (20))) hx hb dX12_undo_20 (by decide) ?_
    refine ln_iadd hx hb dX12_undo_22 ?_
    refine lv_iconst (v := (nI (1))) hx hb dX12_undo_23 (by decide) ?_
    refine ln_isub hx hb dX12_undo_24 (by omega) ?_
    refine lv_bipush (v := (nI (20))) hx hb dX12_undo_25 (by decide) ?_
    refine ln_irem hx hb dX12_undo_27 (by omega) (by omega) (by omega) ?_
    refine va_put (D := D) (ci := 12) (v := .int (nI (((ke + 20) - (1)) % (20)))) (ty := .int) (C := RX12) (T := TX12) (N := 24) hx hb hts hinX12 tyX12 tyX12_ok nmX12 hown hK hP hD hS 0 rfl rfl 2 (by decide) (hts (.fieldLink RX12 48 "CornDeskModel" "keptEnd" "I") (by decide +kernel)) (fun _ h9 => h9) rfl (by decide +kernel) rfl rfl (Nat.le_of_ble_eq_true rfl) dX12_undo_28 (fun H locs hP hD hS => ?_)
    have hP : va_P D vwCl (mW ad cI cJ a kp bt sz sheets go ro car (((ke + 20) - (1)) % (20)) km fi gm bs bu n1 n2 n3 n4 n5 n6 n7 px py db) H := hP
    have hD : va_D A (mW ad cI cJ a kp bt sz sheets go ro car (((ke + 20) - (1)) % (20)) km fi gm bs bu n1 n2 n3 n4 n5 n6 n7 px py db) := hD
    refine lv_aload_n hx hb dX12_undo_31 rfl (lv_at hl 0 rfl) ?_
    refine lv_dup hx hb dX12_undo_32 rfl ?_
    refine va_get (D := D) (ci := 12) (v := .int (nI (km))) (C := RX12) (T := TX12) (N := 24) hx hb hts hinX12 hown hK hP 0 rfl rfl 3 (by decide) (hts (.fieldLink RX12 51 "CornDeskModel" "keptMany" "I") (by decide +kernel)) (fun _ h9 => h9) rfl dX12_undo_33 ?_
    refine lv_iconst (v := (nI (1))) hx hb dX12_undo_36 (by decide) ?_
    refine ln_isub hx hb dX12_undo_37 (by omega) ?_
    refine va_put (D := D) (ci := 12) (v := .int (nI ((km) - (1)))) (ty := .int) (C := RX12) (T := TX12) (N := 24) hx hb hts hinX12 tyX12 tyX12_ok nmX12 hown hK hP hD hS 0 rfl rfl 3 (by decide) (hts (.fieldLink RX12 51 "CornDeskModel" "keptMany" "I") (by decide +kernel)) (fun _ h9 => h9) rfl (by decide +kernel) rfl rfl (Nat.le_of_ble_eq_true rfl) dX12_undo_38 (fun H locs hP hD hS => ?_)
    have hP : va_P D vwCl (mW ad cI cJ a kp bt sz sheets go ro car (((ke + 20) - (1)) % (20)) ((km) - (1)) fi gm bs bu n1 n2 n3 n4 n5 n6 n7 px py db) H := hP
    have hD : va_D A (mW ad cI cJ a kp bt sz sheets go ro car (((ke + 20) - (1)) % (20)) ((km) - (1)) fi gm bs bu n1 n2 n3 n4 n5 n6 n7 px py db) := hD
    refine lv_iconst (v := (nI (0))) hx hb dX12_undo_41 (by decide) ?_
    refine lv_istore_n (lv' := [(1, .int (nI (0))), (0, .ref (ad 0))]) hx hb dX12_undo_42 rfl hl (by decide) rfl (fun ls hl => ?_)
    have lp : ∀ (n : Nat) (k : Nat), (k + n = 598) → ∀ (H : Heap) (locs : List Loc) (ls : Array Slot), va_P D vwCl (mW ad cI cJ (cpN a (fun j => kp (598 * ((ke + 20 - 1) % 20) + j)) 0 k) kp bt sz sheets go ro car (((ke + 20) - (1)) % (20)) ((km) - (1)) fi gm bs bu n1 n2 n3 n4 n5 n6 n7 px py db) H → va_D A (mW ad cI cJ (cpN a (fun j => kp (598 * ((ke + 20 - 1) % 20) + j)) 0 k) kp bt sz sheets go ro car (((ke + 20) - (1)) % (20)) ((km) - (1)) fi gm bs bu n1 n2 n3 n4 n5 n6 n7 px py db) → va_S A s.heap H locs → lv_has ls 2 [(1, .int (nI (k))), (0, .ref (ad 0))] → W p l e (mq_R 1 0 0 22) s m args below meth c H locs 0 0 Q (F0 m 43 ls []) := by
      intro n
      induction n with
      | zero =>
        intro k hk H locs ls hP hD hS hl
        refine lv_iload_n hx hb dX12_undo_43 rfl (lv_at hl 0 rfl) ?_
        refine lv_sipush (v := (nI (598))) hx hb dX12_undo_44 (by decide) ?_
        refine ln_icmp_ge (tgt := 77) hx hb dX12_undo_47 (by decide) (by omega) (by omega) (fun c2 => ?_) (fun c2 => ?_)
        · have hk0 : k = 598 := by omega
          subst hk0
          refine lv_aload_n hx hb dX12_undo_77 rfl (lv_at hl 1 rfl) ?_
          refine va_get (D := D) (ci := 12) (v := .int (nI ((km) - (1)))) (C := RX12) (T := TX12) (N := 24) hx hb hts hinX12 hown hK hP 0 rfl rfl 3 (by decide) (hts (.fieldLink RX12 51 "CornDeskModel" "keptMany" "I") (by decide +kernel)) (fun _ h9 => h9) rfl dX12_undo_78 ?_
          refine lv_i2l hx hb dX12_undo_81 rfl ?_
          exact hret _ _ _ _ _ _ (Or.inr ⟨c1, rfl, rfl⟩) hP hD hS dX12_undo_82
        · exact absurd hk (by omega)
      | succ n ih =>
        intro k hk H locs ls hP hD hS hl
        refine lv_iload_n hx hb dX12_undo_43 rfl (lv_at hl 0 rfl) ?_
        refine lv_sipush (v := (nI (598))) hx hb dX12_undo_44 (by decide) ?_
        refine ln_icmp_ge (tgt := 77) hx hb dX12_undo_47 (by decide) (by omega) (by omega) (fun c2 => ?_) (fun c2 => ?_)
        · exact absurd hk (by omega)
        · refine lv_aload_n hx hb dX12_undo_50 rfl (lv_at hl 1 rfl) ?_
          refine va_get (D := D) (ci := 12) (v := .ref (ad 1)) (C := RX12) (T := TX12) (N := 24) hx hb hts hinX12 hown hK hP 0 rfl rfl 0 (by decide) (hts (.fieldLink RX12 9 "CornDeskModel" "now" "[I") (by decide +kernel)) (fun _ h9 => h9) rfl dX12_undo_51 ?_
          refine lv_iload_n hx hb dX12_undo_54 rfl (lv_at hl 0 rfl) ?_
          refine lv_aload_n hx hb dX12_undo_55 rfl (lv_at hl 1 rfl) ?_
          refine va_get (D := D) (ci := 12) (v := .ref (ad 2)) (C := RX12) (T := TX12) (N := 24) hx hb hts hinX12 hown hK hP 0 rfl rfl 1 (by decide) (hts (.fieldLink RX12 13 "CornDeskModel" "kept" "[I") (by decide +kernel)) (fun _ h9 => h9) rfl dX12_undo_56 ?_
          refine lv_sipush (v := (nI (598))) hx hb dX12_undo_59 (by decide) ?_
          refine lv_aload_n hx hb dX12_undo_62 rfl (lv_at hl 1 rfl) ?_
          refine va_get (D := D) (ci := 12) (v := .int (nI (((ke + 20) - (1)) % (20)))) (C := RX12) (T := TX12) (N := 24) hx hb hts hinX12 hown hK hP 0 rfl rfl 2 (by decide) (hts (.fieldLink RX12 48 "CornDeskModel" "keptEnd" "I") (by decide +kernel)) (fun _ h9 => h9) rfl dX12_undo_63 ?_
          refine ln_imul hx hb dX12_undo_66 ?_
          refine lv_iload_n hx hb dX12_undo_67 rfl (lv_at hl 0 rfl) ?_
          refine ln_iadd hx hb dX12_undo_68 ?_
          refine ln_iald hx hb hK hP 2 0 rfl rfl (by decide) (by omega) dX12_undo_69 ?_
          refine ln_iastN hx hb hK hP hD hS 1 0 rfl rfl (by decide) (by omega) dX12_undo_70 (fun H locs hP hD hS => ?_)
          have hP : va_P D vwCl (mW ad cI cJ (upN (cpN a (fun j => kp (598 * ((ke + 20 - 1) % 20) + j)) 0 k) (k) (kp ((598) * (((ke + 20) - (1)) % (20)) + k))) kp bt sz sheets go ro car (((ke + 20) - (1)) % (20)) ((km) - (1)) fi gm bs bu n1 n2 n3 n4 n5 n6 n7 px py db) H := hP
          have hD : va_D A (mW ad cI cJ (upN (cpN a (fun j => kp (598 * ((ke + 20 - 1) % 20) + j)) 0 k) (k) (kp ((598) * (((ke + 20) - (1)) % (20)) + k))) kp bt sz sheets go ro car (((ke + 20) - (1)) % (20)) ((km) - (1)) fi gm bs bu n1 n2 n3 n4 n5 n6 n7 px py db) := hD
          refine lv_iinc (v := (nI (k + 1))) (lv' := [(1, .int (nI (k + 1))), (0, .ref (ad 0))]) hx hb dX12_undo_71 hl (k := 0) rfl (by rw [show (Int32.ofInt 1) = nI 1 from rfl, nI_add]) (by decide) rfl (fun ls hl => ?_)
          refine lv_goto (tgt := 43) hx hb dX12_undo_74 (by decide) ?_
          exact ih (k + 1) (by omega) _ _ _ (by rw [← cpN_s0]; exact hP) (by rw [← cpN_s0]; exact hD) hS hl
    exact lp (598) (0) (by omega) _ _ _ (by rw [cpN_0]; exact hP) (by rw [cpN_0]; exact hD) hS hl
  · refine lv_aload_n hx hb dX12_undo_7 rfl (lv_at hl 0 rfl) ?_
    refine lv_ldc2 (v := (-1000000006)) hx hb hown (hts (.constantLong RX12 54 (-1000000006)) (by decide +kernel)) dX12_undo_8 ?_
    refine mq_Vl (As := [.long ((-1000000006))]) (rest := []) (ci := 12) (k0 := 0) ⟨hx, hb, hml, hown, hts⟩ (cM_finds l D ad cI cJ a kp bt sz sheets go ro car ke km fi gm bs bu n1 n2 n3 n4 n5 n6 n7 px py db ((-1000000006)) ) (cwV 1 hts gX12_undo_X12_finds rfl rfl rfl (by decide +kernel) ⟨Nat.le_of_ble_eq_true rfl, Nat.le_of_ble_eq_true rfl⟩) rfl rfl hP hK hD hS hA rfl hl.1 rfl (Nat.le_of_ble_eq_true rfl) dX12_undo_11 ⟨Nat.le_of_ble_eq_true rfl, Nat.le_of_ble_eq_true rfl⟩ (fun r w1 H locs hq hP hD hS => ?_)
    obtain ⟨rfl, rfl⟩ := hq
    exact hret _ _ _ _ _ _ (Or.inl ⟨c1, rfl, rfl⟩) hP hD hS dX12_undo_14
